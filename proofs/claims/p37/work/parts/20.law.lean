theorem gm_i4 {i : Int32} (h0 : ¬ i < 0) (h : Int32.toNatClampNeg i ≤ 4096) : Int32.toNatClampNeg (i + (4 : Int32)) = Int32.toNatClampNeg i + 4 := by
  obtain ⟨j, hj, rfl⟩ := nI_of h0
  rw [nI_clamp hj] at h
  have e : nI j + 4 = nI (j + 4) := nI_add j 4
  rw [nI_clamp hj, e, nI_clamp (by omega)]
theorem d_L_law_0 : decode code 0 = .ok (.new 7, 3) := ge_new (by decide +kernel)
theorem d_L_law_3 : decode code 3 = .ok (.dup, 1) := ge_dup (by decide +kernel)
theorem d_L_law_4 : decode code 4 = .ok (.invokespecial 9, 3) := ge_invokespecial (by decide +kernel)
theorem d_L_law_7 : decode code 7 = .ok (.astore_n 1, 1) := ge_astore_n_1 (by decide +kernel)
theorem d_L_law_8 : decode code 8 = .ok (.new 10, 3) := ge_new (by decide +kernel)
theorem d_L_law_11 : decode code 11 = .ok (.dup, 1) := ge_dup (by decide +kernel)
theorem d_L_law_12 : decode code 12 = .ok (.invokespecial 12, 3) := ge_invokespecial (by decide +kernel)
theorem d_L_law_15 : decode code 15 = .ok (.astore_n 2, 1) := ge_astore_n_2 (by decide +kernel)
theorem d_L_law_16 : decode code 16 = .ok (.iconst 0, 1) := ge_iconst_0 (by decide +kernel)
theorem d_L_law_17 : decode code 17 = .ok (.istore_n 3, 1) := ge_istore_n_3 (by decide +kernel)
theorem d_L_law_18 : decode code 18 = .ok (.iload_n 3, 1) := ge_iload_n_3 (by decide +kernel)
theorem d_L_law_19 : decode code 19 = .ok (.aload_n 0, 1) := ge_aload_n_0 (by decide +kernel)
theorem d_L_law_20 : decode code 20 = .ok (.arraylength, 1) := ge_arraylength (by decide +kernel)
theorem d_L_law_21 : decode code 21 = .ok (.iconst 4, 1) := ge_iconst_4 (by decide +kernel)
theorem d_L_law_22 : decode code 22 = .ok (.isub, 1) := ge_isub (by decide +kernel)
theorem d_L_law_23 : decode code 23 = .ok (.if_icmp .gt 1240, 3) := ge_if_icmp_gt (by decide +kernel)
theorem d_L_law_26 : decode code 26 = .ok (.aload_n 0, 1) := ge_aload_n_0 (by decide +kernel)
theorem d_L_law_27 : decode code 27 = .ok (.iload_n 3, 1) := ge_iload_n_3 (by decide +kernel)
theorem d_L_law_28 : decode code 28 = .ok (.iaload, 1) := ge_iaload (by decide +kernel)
theorem d_L_law_29 : decode code 29 = .ok (.bipush 63, 2) := ge_bipush (by decide +kernel)
theorem d_L_law_31 : decode code 31 = .ok (.iand, 1) := ge_iand (by decide +kernel)
theorem d_L_law_32 : decode code 32 = .ok (.tableswitch 1225 0 36 #[164, 187, 200, 233, 266, 309, 352, 375, 408, 431, 464, 497, 530, 563, 596, 619, 662, 685, 698, 741, 754, 777, 810, 853, 886, 919, 942, 975, 1008, 1031, 1064, 1077, 1120, 1143, 1176, 1189, 1202], 164) := by decide +kernel
theorem d_L_law_196 : decode code 196 = .ok (.aload_n 1, 1) := ge_aload_n_1 (by decide +kernel)
theorem d_L_law_197 : decode code 197 = .ok (.aload_n 0, 1) := ge_aload_n_0 (by decide +kernel)
theorem d_L_law_198 : decode code 198 = .ok (.iload_n 3, 1) := ge_iload_n_3 (by decide +kernel)
theorem d_L_law_199 : decode code 199 = .ok (.iconst 1, 1) := ge_iconst_1 (by decide +kernel)
theorem d_L_law_200 : decode code 200 = .ok (.iadd, 1) := ge_iadd (by decide +kernel)
theorem d_L_law_201 : decode code 201 = .ok (.iaload, 1) := ge_iaload (by decide +kernel)
theorem d_L_law_202 : decode code 202 = .ok (.invokevirtual 13, 3) := ge_invokevirtual (by decide +kernel)
theorem d_L_law_205 : decode code 205 = .ok (.pop, 1) := ge_pop (by decide +kernel)
theorem d_L_law_206 : decode code 206 = .ok (.aload_n 2, 1) := ge_aload_n_2 (by decide +kernel)
theorem d_L_law_207 : decode code 207 = .ok (.aload_n 0, 1) := ge_aload_n_0 (by decide +kernel)
theorem d_L_law_208 : decode code 208 = .ok (.iload_n 3, 1) := ge_iload_n_3 (by decide +kernel)
theorem d_L_law_209 : decode code 209 = .ok (.iconst 1, 1) := ge_iconst_1 (by decide +kernel)
theorem d_L_law_210 : decode code 210 = .ok (.iadd, 1) := ge_iadd (by decide +kernel)
theorem d_L_law_211 : decode code 211 = .ok (.iaload, 1) := ge_iaload (by decide +kernel)
theorem d_L_law_212 : decode code 212 = .ok (.invokevirtual 17, 3) := ge_invokevirtual (by decide +kernel)
theorem d_L_law_215 : decode code 215 = .ok (.pop, 1) := ge_pop (by decide +kernel)
theorem d_L_law_216 : decode code 216 = .ok (.goto 1041, 3) := ge_goto (by decide +kernel)
theorem d_L_law_219 : decode code 219 = .ok (.aload_n 1, 1) := ge_aload_n_1 (by decide +kernel)
theorem d_L_law_220 : decode code 220 = .ok (.invokevirtual 18, 3) := ge_invokevirtual (by decide +kernel)
theorem d_L_law_223 : decode code 223 = .ok (.pop, 1) := ge_pop (by decide +kernel)
theorem d_L_law_224 : decode code 224 = .ok (.aload_n 2, 1) := ge_aload_n_2 (by decide +kernel)
theorem d_L_law_225 : decode code 225 = .ok (.invokevirtual 22, 3) := ge_invokevirtual (by decide +kernel)
theorem d_L_law_228 : decode code 228 = .ok (.pop, 1) := ge_pop (by decide +kernel)
theorem d_L_law_229 : decode code 229 = .ok (.goto 1028, 3) := ge_goto (by decide +kernel)
theorem d_L_law_232 : decode code 232 = .ok (.aload_n 1, 1) := ge_aload_n_1 (by decide +kernel)
theorem d_L_law_233 : decode code 233 = .ok (.aload_n 0, 1) := ge_aload_n_0 (by decide +kernel)
theorem d_L_law_234 : decode code 234 = .ok (.iload_n 3, 1) := ge_iload_n_3 (by decide +kernel)
theorem d_L_law_235 : decode code 235 = .ok (.iconst 1, 1) := ge_iconst_1 (by decide +kernel)
theorem d_L_law_236 : decode code 236 = .ok (.iadd, 1) := ge_iadd (by decide +kernel)
theorem d_L_law_237 : decode code 237 = .ok (.iaload, 1) := ge_iaload (by decide +kernel)
theorem d_L_law_238 : decode code 238 = .ok (.aload_n 0, 1) := ge_aload_n_0 (by decide +kernel)
theorem d_L_law_239 : decode code 239 = .ok (.iload_n 3, 1) := ge_iload_n_3 (by decide +kernel)
theorem d_L_law_240 : decode code 240 = .ok (.iconst 2, 1) := ge_iconst_2 (by decide +kernel)
theorem d_L_law_241 : decode code 241 = .ok (.iadd, 1) := ge_iadd (by decide +kernel)
theorem d_L_law_242 : decode code 242 = .ok (.iaload, 1) := ge_iaload (by decide +kernel)
theorem d_L_law_243 : decode code 243 = .ok (.invokevirtual 23, 3) := ge_invokevirtual (by decide +kernel)
theorem d_L_law_246 : decode code 246 = .ok (.pop, 1) := ge_pop (by decide +kernel)
theorem d_L_law_247 : decode code 247 = .ok (.aload_n 2, 1) := ge_aload_n_2 (by decide +kernel)
theorem d_L_law_248 : decode code 248 = .ok (.aload_n 0, 1) := ge_aload_n_0 (by decide +kernel)
theorem d_L_law_249 : decode code 249 = .ok (.iload_n 3, 1) := ge_iload_n_3 (by decide +kernel)
theorem d_L_law_250 : decode code 250 = .ok (.iconst 1, 1) := ge_iconst_1 (by decide +kernel)
theorem d_L_law_251 : decode code 251 = .ok (.iadd, 1) := ge_iadd (by decide +kernel)
theorem d_L_law_252 : decode code 252 = .ok (.iaload, 1) := ge_iaload (by decide +kernel)
theorem d_L_law_253 : decode code 253 = .ok (.aload_n 0, 1) := ge_aload_n_0 (by decide +kernel)
theorem d_L_law_254 : decode code 254 = .ok (.iload_n 3, 1) := ge_iload_n_3 (by decide +kernel)
theorem d_L_law_255 : decode code 255 = .ok (.iconst 2, 1) := ge_iconst_2 (by decide +kernel)
theorem d_L_law_256 : decode code 256 = .ok (.iadd, 1) := ge_iadd (by decide +kernel)
theorem d_L_law_257 : decode code 257 = .ok (.iaload, 1) := ge_iaload (by decide +kernel)
theorem d_L_law_258 : decode code 258 = .ok (.invokevirtual 27, 3) := ge_invokevirtual (by decide +kernel)
theorem d_L_law_261 : decode code 261 = .ok (.pop, 1) := ge_pop (by decide +kernel)
theorem d_L_law_262 : decode code 262 = .ok (.goto 995, 3) := ge_goto (by decide +kernel)
theorem d_L_law_265 : decode code 265 = .ok (.aload_n 1, 1) := ge_aload_n_1 (by decide +kernel)
theorem d_L_law_266 : decode code 266 = .ok (.aload_n 0, 1) := ge_aload_n_0 (by decide +kernel)
theorem d_L_law_267 : decode code 267 = .ok (.iload_n 3, 1) := ge_iload_n_3 (by decide +kernel)
theorem d_L_law_268 : decode code 268 = .ok (.iconst 1, 1) := ge_iconst_1 (by decide +kernel)
theorem d_L_law_269 : decode code 269 = .ok (.iadd, 1) := ge_iadd (by decide +kernel)
theorem d_L_law_270 : decode code 270 = .ok (.iaload, 1) := ge_iaload (by decide +kernel)
theorem d_L_law_271 : decode code 271 = .ok (.aload_n 0, 1) := ge_aload_n_0 (by decide +kernel)
theorem d_L_law_272 : decode code 272 = .ok (.iload_n 3, 1) := ge_iload_n_3 (by decide +kernel)
theorem d_L_law_273 : decode code 273 = .ok (.iconst 2, 1) := ge_iconst_2 (by decide +kernel)
theorem d_L_law_274 : decode code 274 = .ok (.iadd, 1) := ge_iadd (by decide +kernel)
theorem d_L_law_275 : decode code 275 = .ok (.iaload, 1) := ge_iaload (by decide +kernel)
theorem d_L_law_276 : decode code 276 = .ok (.invokevirtual 28, 3) := ge_invokevirtual (by decide +kernel)
theorem d_L_law_279 : decode code 279 = .ok (.pop, 1) := ge_pop (by decide +kernel)
theorem d_L_law_280 : decode code 280 = .ok (.aload_n 2, 1) := ge_aload_n_2 (by decide +kernel)
theorem d_L_law_281 : decode code 281 = .ok (.aload_n 0, 1) := ge_aload_n_0 (by decide +kernel)
theorem d_L_law_282 : decode code 282 = .ok (.iload_n 3, 1) := ge_iload_n_3 (by decide +kernel)
theorem d_L_law_283 : decode code 283 = .ok (.iconst 1, 1) := ge_iconst_1 (by decide +kernel)
theorem d_L_law_284 : decode code 284 = .ok (.iadd, 1) := ge_iadd (by decide +kernel)
theorem d_L_law_285 : decode code 285 = .ok (.iaload, 1) := ge_iaload (by decide +kernel)
theorem d_L_law_286 : decode code 286 = .ok (.aload_n 0, 1) := ge_aload_n_0 (by decide +kernel)
theorem d_L_law_287 : decode code 287 = .ok (.iload_n 3, 1) := ge_iload_n_3 (by decide +kernel)
theorem d_L_law_288 : decode code 288 = .ok (.iconst 2, 1) := ge_iconst_2 (by decide +kernel)
theorem d_L_law_289 : decode code 289 = .ok (.iadd, 1) := ge_iadd (by decide +kernel)
theorem d_L_law_290 : decode code 290 = .ok (.iaload, 1) := ge_iaload (by decide +kernel)
theorem d_L_law_291 : decode code 291 = .ok (.invokevirtual 31, 3) := ge_invokevirtual (by decide +kernel)
theorem d_L_law_294 : decode code 294 = .ok (.pop, 1) := ge_pop (by decide +kernel)
theorem d_L_law_295 : decode code 295 = .ok (.goto 962, 3) := ge_goto (by decide +kernel)
theorem d_L_law_298 : decode code 298 = .ok (.aload_n 1, 1) := ge_aload_n_1 (by decide +kernel)
theorem d_L_law_299 : decode code 299 = .ok (.aload_n 0, 1) := ge_aload_n_0 (by decide +kernel)
theorem d_L_law_300 : decode code 300 = .ok (.iload_n 3, 1) := ge_iload_n_3 (by decide +kernel)
theorem d_L_law_301 : decode code 301 = .ok (.iconst 1, 1) := ge_iconst_1 (by decide +kernel)
theorem d_L_law_302 : decode code 302 = .ok (.iadd, 1) := ge_iadd (by decide +kernel)
theorem d_L_law_303 : decode code 303 = .ok (.iaload, 1) := ge_iaload (by decide +kernel)
theorem d_L_law_304 : decode code 304 = .ok (.aload_n 0, 1) := ge_aload_n_0 (by decide +kernel)
theorem d_L_law_305 : decode code 305 = .ok (.iload_n 3, 1) := ge_iload_n_3 (by decide +kernel)
theorem d_L_law_306 : decode code 306 = .ok (.iconst 2, 1) := ge_iconst_2 (by decide +kernel)
theorem d_L_law_307 : decode code 307 = .ok (.iadd, 1) := ge_iadd (by decide +kernel)
theorem d_L_law_308 : decode code 308 = .ok (.iaload, 1) := ge_iaload (by decide +kernel)
theorem d_L_law_309 : decode code 309 = .ok (.aload_n 0, 1) := ge_aload_n_0 (by decide +kernel)
theorem d_L_law_310 : decode code 310 = .ok (.iload_n 3, 1) := ge_iload_n_3 (by decide +kernel)
theorem d_L_law_311 : decode code 311 = .ok (.iconst 3, 1) := ge_iconst_3 (by decide +kernel)
theorem d_L_law_312 : decode code 312 = .ok (.iadd, 1) := ge_iadd (by decide +kernel)
theorem d_L_law_313 : decode code 313 = .ok (.iaload, 1) := ge_iaload (by decide +kernel)
theorem d_L_law_314 : decode code 314 = .ok (.invokevirtual 32, 3) := ge_invokevirtual (by decide +kernel)
theorem d_L_law_317 : decode code 317 = .ok (.pop, 1) := ge_pop (by decide +kernel)
theorem d_L_law_318 : decode code 318 = .ok (.aload_n 2, 1) := ge_aload_n_2 (by decide +kernel)
theorem d_L_law_319 : decode code 319 = .ok (.aload_n 0, 1) := ge_aload_n_0 (by decide +kernel)
theorem d_L_law_320 : decode code 320 = .ok (.iload_n 3, 1) := ge_iload_n_3 (by decide +kernel)
theorem d_L_law_321 : decode code 321 = .ok (.iconst 1, 1) := ge_iconst_1 (by decide +kernel)
theorem d_L_law_322 : decode code 322 = .ok (.iadd, 1) := ge_iadd (by decide +kernel)
theorem d_L_law_323 : decode code 323 = .ok (.iaload, 1) := ge_iaload (by decide +kernel)
theorem d_L_law_324 : decode code 324 = .ok (.aload_n 0, 1) := ge_aload_n_0 (by decide +kernel)
theorem d_L_law_325 : decode code 325 = .ok (.iload_n 3, 1) := ge_iload_n_3 (by decide +kernel)
theorem d_L_law_326 : decode code 326 = .ok (.iconst 2, 1) := ge_iconst_2 (by decide +kernel)
theorem d_L_law_327 : decode code 327 = .ok (.iadd, 1) := ge_iadd (by decide +kernel)
theorem d_L_law_328 : decode code 328 = .ok (.iaload, 1) := ge_iaload (by decide +kernel)
theorem d_L_law_329 : decode code 329 = .ok (.aload_n 0, 1) := ge_aload_n_0 (by decide +kernel)
theorem d_L_law_330 : decode code 330 = .ok (.iload_n 3, 1) := ge_iload_n_3 (by decide +kernel)
theorem d_L_law_331 : decode code 331 = .ok (.iconst 3, 1) := ge_iconst_3 (by decide +kernel)
theorem d_L_law_332 : decode code 332 = .ok (.iadd, 1) := ge_iadd (by decide +kernel)
theorem d_L_law_333 : decode code 333 = .ok (.iaload, 1) := ge_iaload (by decide +kernel)
theorem d_L_law_334 : decode code 334 = .ok (.invokevirtual 36, 3) := ge_invokevirtual (by decide +kernel)
theorem d_L_law_337 : decode code 337 = .ok (.pop, 1) := ge_pop (by decide +kernel)
theorem d_L_law_338 : decode code 338 = .ok (.goto 919, 3) := ge_goto (by decide +kernel)
theorem d_L_law_341 : decode code 341 = .ok (.aload_n 1, 1) := ge_aload_n_1 (by decide +kernel)
theorem d_L_law_342 : decode code 342 = .ok (.aload_n 0, 1) := ge_aload_n_0 (by decide +kernel)
theorem d_L_law_343 : decode code 343 = .ok (.iload_n 3, 1) := ge_iload_n_3 (by decide +kernel)
theorem d_L_law_344 : decode code 344 = .ok (.iconst 1, 1) := ge_iconst_1 (by decide +kernel)
theorem d_L_law_345 : decode code 345 = .ok (.iadd, 1) := ge_iadd (by decide +kernel)
theorem d_L_law_346 : decode code 346 = .ok (.iaload, 1) := ge_iaload (by decide +kernel)
theorem d_L_law_347 : decode code 347 = .ok (.aload_n 0, 1) := ge_aload_n_0 (by decide +kernel)
theorem d_L_law_348 : decode code 348 = .ok (.iload_n 3, 1) := ge_iload_n_3 (by decide +kernel)
theorem d_L_law_349 : decode code 349 = .ok (.iconst 2, 1) := ge_iconst_2 (by decide +kernel)
theorem d_L_law_350 : decode code 350 = .ok (.iadd, 1) := ge_iadd (by decide +kernel)
theorem d_L_law_351 : decode code 351 = .ok (.iaload, 1) := ge_iaload (by decide +kernel)
theorem d_L_law_352 : decode code 352 = .ok (.aload_n 0, 1) := ge_aload_n_0 (by decide +kernel)
theorem d_L_law_353 : decode code 353 = .ok (.iload_n 3, 1) := ge_iload_n_3 (by decide +kernel)
theorem d_L_law_354 : decode code 354 = .ok (.iconst 3, 1) := ge_iconst_3 (by decide +kernel)
theorem d_L_law_355 : decode code 355 = .ok (.iadd, 1) := ge_iadd (by decide +kernel)
theorem d_L_law_356 : decode code 356 = .ok (.iaload, 1) := ge_iaload (by decide +kernel)
theorem d_L_law_357 : decode code 357 = .ok (.invokevirtual 37, 3) := ge_invokevirtual (by decide +kernel)
theorem d_L_law_360 : decode code 360 = .ok (.pop, 1) := ge_pop (by decide +kernel)
theorem d_L_law_361 : decode code 361 = .ok (.aload_n 2, 1) := ge_aload_n_2 (by decide +kernel)
theorem d_L_law_362 : decode code 362 = .ok (.aload_n 0, 1) := ge_aload_n_0 (by decide +kernel)
theorem d_L_law_363 : decode code 363 = .ok (.iload_n 3, 1) := ge_iload_n_3 (by decide +kernel)
theorem d_L_law_364 : decode code 364 = .ok (.iconst 1, 1) := ge_iconst_1 (by decide +kernel)
theorem d_L_law_365 : decode code 365 = .ok (.iadd, 1) := ge_iadd (by decide +kernel)
theorem d_L_law_366 : decode code 366 = .ok (.iaload, 1) := ge_iaload (by decide +kernel)
theorem d_L_law_367 : decode code 367 = .ok (.aload_n 0, 1) := ge_aload_n_0 (by decide +kernel)
theorem d_L_law_368 : decode code 368 = .ok (.iload_n 3, 1) := ge_iload_n_3 (by decide +kernel)
theorem d_L_law_369 : decode code 369 = .ok (.iconst 2, 1) := ge_iconst_2 (by decide +kernel)
theorem d_L_law_370 : decode code 370 = .ok (.iadd, 1) := ge_iadd (by decide +kernel)
theorem d_L_law_371 : decode code 371 = .ok (.iaload, 1) := ge_iaload (by decide +kernel)
theorem d_L_law_372 : decode code 372 = .ok (.aload_n 0, 1) := ge_aload_n_0 (by decide +kernel)
theorem d_L_law_373 : decode code 373 = .ok (.iload_n 3, 1) := ge_iload_n_3 (by decide +kernel)
theorem d_L_law_374 : decode code 374 = .ok (.iconst 3, 1) := ge_iconst_3 (by decide +kernel)
theorem d_L_law_375 : decode code 375 = .ok (.iadd, 1) := ge_iadd (by decide +kernel)
theorem d_L_law_376 : decode code 376 = .ok (.iaload, 1) := ge_iaload (by decide +kernel)
theorem d_L_law_377 : decode code 377 = .ok (.invokevirtual 40, 3) := ge_invokevirtual (by decide +kernel)
theorem d_L_law_380 : decode code 380 = .ok (.pop, 1) := ge_pop (by decide +kernel)
theorem d_L_law_381 : decode code 381 = .ok (.goto 876, 3) := ge_goto (by decide +kernel)
theorem d_L_law_384 : decode code 384 = .ok (.aload_n 1, 1) := ge_aload_n_1 (by decide +kernel)
theorem d_L_law_385 : decode code 385 = .ok (.aload_n 0, 1) := ge_aload_n_0 (by decide +kernel)
theorem d_L_law_386 : decode code 386 = .ok (.iload_n 3, 1) := ge_iload_n_3 (by decide +kernel)
theorem d_L_law_387 : decode code 387 = .ok (.iconst 1, 1) := ge_iconst_1 (by decide +kernel)
theorem d_L_law_388 : decode code 388 = .ok (.iadd, 1) := ge_iadd (by decide +kernel)
theorem d_L_law_389 : decode code 389 = .ok (.iaload, 1) := ge_iaload (by decide +kernel)
theorem d_L_law_390 : decode code 390 = .ok (.invokevirtual 41, 3) := ge_invokevirtual (by decide +kernel)
theorem d_L_law_393 : decode code 393 = .ok (.pop, 1) := ge_pop (by decide +kernel)
theorem d_L_law_394 : decode code 394 = .ok (.aload_n 2, 1) := ge_aload_n_2 (by decide +kernel)
theorem d_L_law_395 : decode code 395 = .ok (.aload_n 0, 1) := ge_aload_n_0 (by decide +kernel)
theorem d_L_law_396 : decode code 396 = .ok (.iload_n 3, 1) := ge_iload_n_3 (by decide +kernel)
theorem d_L_law_397 : decode code 397 = .ok (.iconst 1, 1) := ge_iconst_1 (by decide +kernel)
theorem d_L_law_398 : decode code 398 = .ok (.iadd, 1) := ge_iadd (by decide +kernel)
theorem d_L_law_399 : decode code 399 = .ok (.iaload, 1) := ge_iaload (by decide +kernel)
theorem d_L_law_400 : decode code 400 = .ok (.invokevirtual 44, 3) := ge_invokevirtual (by decide +kernel)
theorem d_L_law_403 : decode code 403 = .ok (.pop, 1) := ge_pop (by decide +kernel)
theorem d_L_law_404 : decode code 404 = .ok (.goto 853, 3) := ge_goto (by decide +kernel)
theorem d_L_law_407 : decode code 407 = .ok (.aload_n 1, 1) := ge_aload_n_1 (by decide +kernel)
theorem d_L_law_408 : decode code 408 = .ok (.aload_n 0, 1) := ge_aload_n_0 (by decide +kernel)
theorem d_L_law_409 : decode code 409 = .ok (.iload_n 3, 1) := ge_iload_n_3 (by decide +kernel)
theorem d_L_law_410 : decode code 410 = .ok (.iconst 1, 1) := ge_iconst_1 (by decide +kernel)
theorem d_L_law_411 : decode code 411 = .ok (.iadd, 1) := ge_iadd (by decide +kernel)
theorem d_L_law_412 : decode code 412 = .ok (.iaload, 1) := ge_iaload (by decide +kernel)
theorem d_L_law_413 : decode code 413 = .ok (.aload_n 0, 1) := ge_aload_n_0 (by decide +kernel)
theorem d_L_law_414 : decode code 414 = .ok (.iload_n 3, 1) := ge_iload_n_3 (by decide +kernel)
theorem d_L_law_415 : decode code 415 = .ok (.iconst 2, 1) := ge_iconst_2 (by decide +kernel)
theorem d_L_law_416 : decode code 416 = .ok (.iadd, 1) := ge_iadd (by decide +kernel)
theorem d_L_law_417 : decode code 417 = .ok (.iaload, 1) := ge_iaload (by decide +kernel)
theorem d_L_law_418 : decode code 418 = .ok (.invokevirtual 45, 3) := ge_invokevirtual (by decide +kernel)
theorem d_L_law_421 : decode code 421 = .ok (.pop, 1) := ge_pop (by decide +kernel)
theorem d_L_law_422 : decode code 422 = .ok (.aload_n 2, 1) := ge_aload_n_2 (by decide +kernel)
theorem d_L_law_423 : decode code 423 = .ok (.aload_n 0, 1) := ge_aload_n_0 (by decide +kernel)
theorem d_L_law_424 : decode code 424 = .ok (.iload_n 3, 1) := ge_iload_n_3 (by decide +kernel)
theorem d_L_law_425 : decode code 425 = .ok (.iconst 1, 1) := ge_iconst_1 (by decide +kernel)
theorem d_L_law_426 : decode code 426 = .ok (.iadd, 1) := ge_iadd (by decide +kernel)
theorem d_L_law_427 : decode code 427 = .ok (.iaload, 1) := ge_iaload (by decide +kernel)
theorem d_L_law_428 : decode code 428 = .ok (.aload_n 0, 1) := ge_aload_n_0 (by decide +kernel)
theorem d_L_law_429 : decode code 429 = .ok (.iload_n 3, 1) := ge_iload_n_3 (by decide +kernel)
theorem d_L_law_430 : decode code 430 = .ok (.iconst 2, 1) := ge_iconst_2 (by decide +kernel)
theorem d_L_law_431 : decode code 431 = .ok (.iadd, 1) := ge_iadd (by decide +kernel)
theorem d_L_law_432 : decode code 432 = .ok (.iaload, 1) := ge_iaload (by decide +kernel)
theorem d_L_law_433 : decode code 433 = .ok (.invokevirtual 48, 3) := ge_invokevirtual (by decide +kernel)
theorem d_L_law_436 : decode code 436 = .ok (.pop, 1) := ge_pop (by decide +kernel)
theorem d_L_law_437 : decode code 437 = .ok (.goto 820, 3) := ge_goto (by decide +kernel)
theorem d_L_law_440 : decode code 440 = .ok (.aload_n 1, 1) := ge_aload_n_1 (by decide +kernel)
theorem d_L_law_441 : decode code 441 = .ok (.aload_n 0, 1) := ge_aload_n_0 (by decide +kernel)
theorem d_L_law_442 : decode code 442 = .ok (.iload_n 3, 1) := ge_iload_n_3 (by decide +kernel)
theorem d_L_law_443 : decode code 443 = .ok (.iconst 1, 1) := ge_iconst_1 (by decide +kernel)
theorem d_L_law_444 : decode code 444 = .ok (.iadd, 1) := ge_iadd (by decide +kernel)
theorem d_L_law_445 : decode code 445 = .ok (.iaload, 1) := ge_iaload (by decide +kernel)
theorem d_L_law_446 : decode code 446 = .ok (.invokevirtual 49, 3) := ge_invokevirtual (by decide +kernel)
theorem d_L_law_449 : decode code 449 = .ok (.pop, 1) := ge_pop (by decide +kernel)
theorem d_L_law_450 : decode code 450 = .ok (.aload_n 2, 1) := ge_aload_n_2 (by decide +kernel)
theorem d_L_law_451 : decode code 451 = .ok (.aload_n 0, 1) := ge_aload_n_0 (by decide +kernel)
theorem d_L_law_452 : decode code 452 = .ok (.iload_n 3, 1) := ge_iload_n_3 (by decide +kernel)
theorem d_L_law_453 : decode code 453 = .ok (.iconst 1, 1) := ge_iconst_1 (by decide +kernel)
theorem d_L_law_454 : decode code 454 = .ok (.iadd, 1) := ge_iadd (by decide +kernel)
theorem d_L_law_455 : decode code 455 = .ok (.iaload, 1) := ge_iaload (by decide +kernel)
theorem d_L_law_456 : decode code 456 = .ok (.invokevirtual 52, 3) := ge_invokevirtual (by decide +kernel)
theorem d_L_law_459 : decode code 459 = .ok (.pop, 1) := ge_pop (by decide +kernel)
theorem d_L_law_460 : decode code 460 = .ok (.goto 797, 3) := ge_goto (by decide +kernel)
theorem d_L_law_463 : decode code 463 = .ok (.aload_n 1, 1) := ge_aload_n_1 (by decide +kernel)
theorem d_L_law_464 : decode code 464 = .ok (.aload_n 0, 1) := ge_aload_n_0 (by decide +kernel)
theorem d_L_law_465 : decode code 465 = .ok (.iload_n 3, 1) := ge_iload_n_3 (by decide +kernel)
theorem d_L_law_466 : decode code 466 = .ok (.iconst 1, 1) := ge_iconst_1 (by decide +kernel)
theorem d_L_law_467 : decode code 467 = .ok (.iadd, 1) := ge_iadd (by decide +kernel)
theorem d_L_law_468 : decode code 468 = .ok (.iaload, 1) := ge_iaload (by decide +kernel)
theorem d_L_law_469 : decode code 469 = .ok (.aload_n 0, 1) := ge_aload_n_0 (by decide +kernel)
theorem d_L_law_470 : decode code 470 = .ok (.iload_n 3, 1) := ge_iload_n_3 (by decide +kernel)
theorem d_L_law_471 : decode code 471 = .ok (.iconst 2, 1) := ge_iconst_2 (by decide +kernel)
theorem d_L_law_472 : decode code 472 = .ok (.iadd, 1) := ge_iadd (by decide +kernel)
theorem d_L_law_473 : decode code 473 = .ok (.iaload, 1) := ge_iaload (by decide +kernel)
theorem d_L_law_474 : decode code 474 = .ok (.invokevirtual 53, 3) := ge_invokevirtual (by decide +kernel)
theorem d_L_law_477 : decode code 477 = .ok (.pop, 1) := ge_pop (by decide +kernel)
theorem d_L_law_478 : decode code 478 = .ok (.aload_n 2, 1) := ge_aload_n_2 (by decide +kernel)
theorem d_L_law_479 : decode code 479 = .ok (.aload_n 0, 1) := ge_aload_n_0 (by decide +kernel)
theorem d_L_law_480 : decode code 480 = .ok (.iload_n 3, 1) := ge_iload_n_3 (by decide +kernel)
theorem d_L_law_481 : decode code 481 = .ok (.iconst 1, 1) := ge_iconst_1 (by decide +kernel)
theorem d_L_law_482 : decode code 482 = .ok (.iadd, 1) := ge_iadd (by decide +kernel)
theorem d_L_law_483 : decode code 483 = .ok (.iaload, 1) := ge_iaload (by decide +kernel)
theorem d_L_law_484 : decode code 484 = .ok (.aload_n 0, 1) := ge_aload_n_0 (by decide +kernel)
theorem d_L_law_485 : decode code 485 = .ok (.iload_n 3, 1) := ge_iload_n_3 (by decide +kernel)
theorem d_L_law_486 : decode code 486 = .ok (.iconst 2, 1) := ge_iconst_2 (by decide +kernel)
theorem d_L_law_487 : decode code 487 = .ok (.iadd, 1) := ge_iadd (by decide +kernel)
theorem d_L_law_488 : decode code 488 = .ok (.iaload, 1) := ge_iaload (by decide +kernel)
theorem d_L_law_489 : decode code 489 = .ok (.invokevirtual 56, 3) := ge_invokevirtual (by decide +kernel)
theorem d_L_law_492 : decode code 492 = .ok (.pop, 1) := ge_pop (by decide +kernel)
theorem d_L_law_493 : decode code 493 = .ok (.goto 764, 3) := ge_goto (by decide +kernel)
theorem d_L_law_496 : decode code 496 = .ok (.aload_n 1, 1) := ge_aload_n_1 (by decide +kernel)
theorem d_L_law_497 : decode code 497 = .ok (.aload_n 0, 1) := ge_aload_n_0 (by decide +kernel)
theorem d_L_law_498 : decode code 498 = .ok (.iload_n 3, 1) := ge_iload_n_3 (by decide +kernel)
theorem d_L_law_499 : decode code 499 = .ok (.iconst 1, 1) := ge_iconst_1 (by decide +kernel)
theorem d_L_law_500 : decode code 500 = .ok (.iadd, 1) := ge_iadd (by decide +kernel)
theorem d_L_law_501 : decode code 501 = .ok (.iaload, 1) := ge_iaload (by decide +kernel)
theorem d_L_law_502 : decode code 502 = .ok (.aload_n 0, 1) := ge_aload_n_0 (by decide +kernel)
theorem d_L_law_503 : decode code 503 = .ok (.iload_n 3, 1) := ge_iload_n_3 (by decide +kernel)
theorem d_L_law_504 : decode code 504 = .ok (.iconst 2, 1) := ge_iconst_2 (by decide +kernel)
theorem d_L_law_505 : decode code 505 = .ok (.iadd, 1) := ge_iadd (by decide +kernel)
theorem d_L_law_506 : decode code 506 = .ok (.iaload, 1) := ge_iaload (by decide +kernel)
theorem d_L_law_507 : decode code 507 = .ok (.invokevirtual 57, 3) := ge_invokevirtual (by decide +kernel)
theorem d_L_law_510 : decode code 510 = .ok (.pop, 1) := ge_pop (by decide +kernel)
theorem d_L_law_511 : decode code 511 = .ok (.aload_n 2, 1) := ge_aload_n_2 (by decide +kernel)
theorem d_L_law_512 : decode code 512 = .ok (.aload_n 0, 1) := ge_aload_n_0 (by decide +kernel)
theorem d_L_law_513 : decode code 513 = .ok (.iload_n 3, 1) := ge_iload_n_3 (by decide +kernel)
theorem d_L_law_514 : decode code 514 = .ok (.iconst 1, 1) := ge_iconst_1 (by decide +kernel)
theorem d_L_law_515 : decode code 515 = .ok (.iadd, 1) := ge_iadd (by decide +kernel)
theorem d_L_law_516 : decode code 516 = .ok (.iaload, 1) := ge_iaload (by decide +kernel)
theorem d_L_law_517 : decode code 517 = .ok (.aload_n 0, 1) := ge_aload_n_0 (by decide +kernel)
theorem d_L_law_518 : decode code 518 = .ok (.iload_n 3, 1) := ge_iload_n_3 (by decide +kernel)
theorem d_L_law_519 : decode code 519 = .ok (.iconst 2, 1) := ge_iconst_2 (by decide +kernel)
theorem d_L_law_520 : decode code 520 = .ok (.iadd, 1) := ge_iadd (by decide +kernel)
theorem d_L_law_521 : decode code 521 = .ok (.iaload, 1) := ge_iaload (by decide +kernel)
theorem d_L_law_522 : decode code 522 = .ok (.invokevirtual 60, 3) := ge_invokevirtual (by decide +kernel)
theorem d_L_law_525 : decode code 525 = .ok (.pop, 1) := ge_pop (by decide +kernel)
theorem d_L_law_526 : decode code 526 = .ok (.goto 731, 3) := ge_goto (by decide +kernel)
theorem d_L_law_529 : decode code 529 = .ok (.aload_n 1, 1) := ge_aload_n_1 (by decide +kernel)
theorem d_L_law_530 : decode code 530 = .ok (.aload_n 0, 1) := ge_aload_n_0 (by decide +kernel)
theorem d_L_law_531 : decode code 531 = .ok (.iload_n 3, 1) := ge_iload_n_3 (by decide +kernel)
theorem d_L_law_532 : decode code 532 = .ok (.iconst 1, 1) := ge_iconst_1 (by decide +kernel)
theorem d_L_law_533 : decode code 533 = .ok (.iadd, 1) := ge_iadd (by decide +kernel)
theorem d_L_law_534 : decode code 534 = .ok (.iaload, 1) := ge_iaload (by decide +kernel)
theorem d_L_law_535 : decode code 535 = .ok (.aload_n 0, 1) := ge_aload_n_0 (by decide +kernel)
theorem d_L_law_536 : decode code 536 = .ok (.iload_n 3, 1) := ge_iload_n_3 (by decide +kernel)
theorem d_L_law_537 : decode code 537 = .ok (.iconst 2, 1) := ge_iconst_2 (by decide +kernel)
theorem d_L_law_538 : decode code 538 = .ok (.iadd, 1) := ge_iadd (by decide +kernel)
theorem d_L_law_539 : decode code 539 = .ok (.iaload, 1) := ge_iaload (by decide +kernel)
theorem d_L_law_540 : decode code 540 = .ok (.invokevirtual 61, 3) := ge_invokevirtual (by decide +kernel)
theorem d_L_law_543 : decode code 543 = .ok (.pop, 1) := ge_pop (by decide +kernel)
theorem d_L_law_544 : decode code 544 = .ok (.aload_n 2, 1) := ge_aload_n_2 (by decide +kernel)
theorem d_L_law_545 : decode code 545 = .ok (.aload_n 0, 1) := ge_aload_n_0 (by decide +kernel)
theorem d_L_law_546 : decode code 546 = .ok (.iload_n 3, 1) := ge_iload_n_3 (by decide +kernel)
theorem d_L_law_547 : decode code 547 = .ok (.iconst 1, 1) := ge_iconst_1 (by decide +kernel)
theorem d_L_law_548 : decode code 548 = .ok (.iadd, 1) := ge_iadd (by decide +kernel)
theorem d_L_law_549 : decode code 549 = .ok (.iaload, 1) := ge_iaload (by decide +kernel)
theorem d_L_law_550 : decode code 550 = .ok (.aload_n 0, 1) := ge_aload_n_0 (by decide +kernel)
theorem d_L_law_551 : decode code 551 = .ok (.iload_n 3, 1) := ge_iload_n_3 (by decide +kernel)
theorem d_L_law_552 : decode code 552 = .ok (.iconst 2, 1) := ge_iconst_2 (by decide +kernel)
theorem d_L_law_553 : decode code 553 = .ok (.iadd, 1) := ge_iadd (by decide +kernel)
theorem d_L_law_554 : decode code 554 = .ok (.iaload, 1) := ge_iaload (by decide +kernel)
theorem d_L_law_555 : decode code 555 = .ok (.invokevirtual 64, 3) := ge_invokevirtual (by decide +kernel)
theorem d_L_law_558 : decode code 558 = .ok (.pop, 1) := ge_pop (by decide +kernel)
theorem d_L_law_559 : decode code 559 = .ok (.goto 698, 3) := ge_goto (by decide +kernel)
theorem d_L_law_562 : decode code 562 = .ok (.aload_n 1, 1) := ge_aload_n_1 (by decide +kernel)
theorem d_L_law_563 : decode code 563 = .ok (.aload_n 0, 1) := ge_aload_n_0 (by decide +kernel)
theorem d_L_law_564 : decode code 564 = .ok (.iload_n 3, 1) := ge_iload_n_3 (by decide +kernel)
theorem d_L_law_565 : decode code 565 = .ok (.iconst 1, 1) := ge_iconst_1 (by decide +kernel)
theorem d_L_law_566 : decode code 566 = .ok (.iadd, 1) := ge_iadd (by decide +kernel)
theorem d_L_law_567 : decode code 567 = .ok (.iaload, 1) := ge_iaload (by decide +kernel)
theorem d_L_law_568 : decode code 568 = .ok (.aload_n 0, 1) := ge_aload_n_0 (by decide +kernel)
theorem d_L_law_569 : decode code 569 = .ok (.iload_n 3, 1) := ge_iload_n_3 (by decide +kernel)
theorem d_L_law_570 : decode code 570 = .ok (.iconst 2, 1) := ge_iconst_2 (by decide +kernel)
theorem d_L_law_571 : decode code 571 = .ok (.iadd, 1) := ge_iadd (by decide +kernel)
theorem d_L_law_572 : decode code 572 = .ok (.iaload, 1) := ge_iaload (by decide +kernel)
theorem d_L_law_573 : decode code 573 = .ok (.invokevirtual 65, 3) := ge_invokevirtual (by decide +kernel)
theorem d_L_law_576 : decode code 576 = .ok (.pop, 1) := ge_pop (by decide +kernel)
theorem d_L_law_577 : decode code 577 = .ok (.aload_n 2, 1) := ge_aload_n_2 (by decide +kernel)
theorem d_L_law_578 : decode code 578 = .ok (.aload_n 0, 1) := ge_aload_n_0 (by decide +kernel)
theorem d_L_law_579 : decode code 579 = .ok (.iload_n 3, 1) := ge_iload_n_3 (by decide +kernel)
theorem d_L_law_580 : decode code 580 = .ok (.iconst 1, 1) := ge_iconst_1 (by decide +kernel)
theorem d_L_law_581 : decode code 581 = .ok (.iadd, 1) := ge_iadd (by decide +kernel)
theorem d_L_law_582 : decode code 582 = .ok (.iaload, 1) := ge_iaload (by decide +kernel)
theorem d_L_law_583 : decode code 583 = .ok (.aload_n 0, 1) := ge_aload_n_0 (by decide +kernel)
theorem d_L_law_584 : decode code 584 = .ok (.iload_n 3, 1) := ge_iload_n_3 (by decide +kernel)
theorem d_L_law_585 : decode code 585 = .ok (.iconst 2, 1) := ge_iconst_2 (by decide +kernel)
theorem d_L_law_586 : decode code 586 = .ok (.iadd, 1) := ge_iadd (by decide +kernel)
theorem d_L_law_587 : decode code 587 = .ok (.iaload, 1) := ge_iaload (by decide +kernel)
theorem d_L_law_588 : decode code 588 = .ok (.invokevirtual 68, 3) := ge_invokevirtual (by decide +kernel)
theorem d_L_law_591 : decode code 591 = .ok (.pop, 1) := ge_pop (by decide +kernel)
theorem d_L_law_592 : decode code 592 = .ok (.goto 665, 3) := ge_goto (by decide +kernel)
theorem d_L_law_595 : decode code 595 = .ok (.aload_n 1, 1) := ge_aload_n_1 (by decide +kernel)
theorem d_L_law_596 : decode code 596 = .ok (.aload_n 0, 1) := ge_aload_n_0 (by decide +kernel)
theorem d_L_law_597 : decode code 597 = .ok (.iload_n 3, 1) := ge_iload_n_3 (by decide +kernel)
theorem d_L_law_598 : decode code 598 = .ok (.iconst 1, 1) := ge_iconst_1 (by decide +kernel)
theorem d_L_law_599 : decode code 599 = .ok (.iadd, 1) := ge_iadd (by decide +kernel)
theorem d_L_law_600 : decode code 600 = .ok (.iaload, 1) := ge_iaload (by decide +kernel)
theorem d_L_law_601 : decode code 601 = .ok (.aload_n 0, 1) := ge_aload_n_0 (by decide +kernel)
theorem d_L_law_602 : decode code 602 = .ok (.iload_n 3, 1) := ge_iload_n_3 (by decide +kernel)
theorem d_L_law_603 : decode code 603 = .ok (.iconst 2, 1) := ge_iconst_2 (by decide +kernel)
theorem d_L_law_604 : decode code 604 = .ok (.iadd, 1) := ge_iadd (by decide +kernel)
theorem d_L_law_605 : decode code 605 = .ok (.iaload, 1) := ge_iaload (by decide +kernel)
theorem d_L_law_606 : decode code 606 = .ok (.invokevirtual 69, 3) := ge_invokevirtual (by decide +kernel)
theorem d_L_law_609 : decode code 609 = .ok (.pop, 1) := ge_pop (by decide +kernel)
theorem d_L_law_610 : decode code 610 = .ok (.aload_n 2, 1) := ge_aload_n_2 (by decide +kernel)
theorem d_L_law_611 : decode code 611 = .ok (.aload_n 0, 1) := ge_aload_n_0 (by decide +kernel)
theorem d_L_law_612 : decode code 612 = .ok (.iload_n 3, 1) := ge_iload_n_3 (by decide +kernel)
theorem d_L_law_613 : decode code 613 = .ok (.iconst 1, 1) := ge_iconst_1 (by decide +kernel)
theorem d_L_law_614 : decode code 614 = .ok (.iadd, 1) := ge_iadd (by decide +kernel)
theorem d_L_law_615 : decode code 615 = .ok (.iaload, 1) := ge_iaload (by decide +kernel)
theorem d_L_law_616 : decode code 616 = .ok (.aload_n 0, 1) := ge_aload_n_0 (by decide +kernel)
theorem d_L_law_617 : decode code 617 = .ok (.iload_n 3, 1) := ge_iload_n_3 (by decide +kernel)
theorem d_L_law_618 : decode code 618 = .ok (.iconst 2, 1) := ge_iconst_2 (by decide +kernel)
theorem d_L_law_619 : decode code 619 = .ok (.iadd, 1) := ge_iadd (by decide +kernel)
theorem d_L_law_620 : decode code 620 = .ok (.iaload, 1) := ge_iaload (by decide +kernel)
theorem d_L_law_621 : decode code 621 = .ok (.invokevirtual 72, 3) := ge_invokevirtual (by decide +kernel)
theorem d_L_law_624 : decode code 624 = .ok (.pop, 1) := ge_pop (by decide +kernel)
theorem d_L_law_625 : decode code 625 = .ok (.goto 632, 3) := ge_goto (by decide +kernel)
theorem d_L_law_628 : decode code 628 = .ok (.aload_n 1, 1) := ge_aload_n_1 (by decide +kernel)
theorem d_L_law_629 : decode code 629 = .ok (.aload_n 0, 1) := ge_aload_n_0 (by decide +kernel)
theorem d_L_law_630 : decode code 630 = .ok (.iload_n 3, 1) := ge_iload_n_3 (by decide +kernel)
theorem d_L_law_631 : decode code 631 = .ok (.iconst 1, 1) := ge_iconst_1 (by decide +kernel)
theorem d_L_law_632 : decode code 632 = .ok (.iadd, 1) := ge_iadd (by decide +kernel)
theorem d_L_law_633 : decode code 633 = .ok (.iaload, 1) := ge_iaload (by decide +kernel)
theorem d_L_law_634 : decode code 634 = .ok (.invokevirtual 73, 3) := ge_invokevirtual (by decide +kernel)
theorem d_L_law_637 : decode code 637 = .ok (.pop, 1) := ge_pop (by decide +kernel)
theorem d_L_law_638 : decode code 638 = .ok (.aload_n 2, 1) := ge_aload_n_2 (by decide +kernel)
theorem d_L_law_639 : decode code 639 = .ok (.aload_n 0, 1) := ge_aload_n_0 (by decide +kernel)
theorem d_L_law_640 : decode code 640 = .ok (.iload_n 3, 1) := ge_iload_n_3 (by decide +kernel)
theorem d_L_law_641 : decode code 641 = .ok (.iconst 1, 1) := ge_iconst_1 (by decide +kernel)
theorem d_L_law_642 : decode code 642 = .ok (.iadd, 1) := ge_iadd (by decide +kernel)
theorem d_L_law_643 : decode code 643 = .ok (.iaload, 1) := ge_iaload (by decide +kernel)
theorem d_L_law_644 : decode code 644 = .ok (.invokevirtual 76, 3) := ge_invokevirtual (by decide +kernel)
theorem d_L_law_647 : decode code 647 = .ok (.pop, 1) := ge_pop (by decide +kernel)
theorem d_L_law_648 : decode code 648 = .ok (.goto 609, 3) := ge_goto (by decide +kernel)
theorem d_L_law_651 : decode code 651 = .ok (.aload_n 1, 1) := ge_aload_n_1 (by decide +kernel)
theorem d_L_law_652 : decode code 652 = .ok (.aload_n 0, 1) := ge_aload_n_0 (by decide +kernel)
theorem d_L_law_653 : decode code 653 = .ok (.iload_n 3, 1) := ge_iload_n_3 (by decide +kernel)
theorem d_L_law_654 : decode code 654 = .ok (.iconst 1, 1) := ge_iconst_1 (by decide +kernel)
theorem d_L_law_655 : decode code 655 = .ok (.iadd, 1) := ge_iadd (by decide +kernel)
theorem d_L_law_656 : decode code 656 = .ok (.iaload, 1) := ge_iaload (by decide +kernel)
theorem d_L_law_657 : decode code 657 = .ok (.aload_n 0, 1) := ge_aload_n_0 (by decide +kernel)
theorem d_L_law_658 : decode code 658 = .ok (.iload_n 3, 1) := ge_iload_n_3 (by decide +kernel)
theorem d_L_law_659 : decode code 659 = .ok (.iconst 2, 1) := ge_iconst_2 (by decide +kernel)
theorem d_L_law_660 : decode code 660 = .ok (.iadd, 1) := ge_iadd (by decide +kernel)
theorem d_L_law_661 : decode code 661 = .ok (.iaload, 1) := ge_iaload (by decide +kernel)
theorem d_L_law_662 : decode code 662 = .ok (.aload_n 0, 1) := ge_aload_n_0 (by decide +kernel)
theorem d_L_law_663 : decode code 663 = .ok (.iload_n 3, 1) := ge_iload_n_3 (by decide +kernel)
theorem d_L_law_664 : decode code 664 = .ok (.iconst 3, 1) := ge_iconst_3 (by decide +kernel)
theorem d_L_law_665 : decode code 665 = .ok (.iadd, 1) := ge_iadd (by decide +kernel)
theorem d_L_law_666 : decode code 666 = .ok (.iaload, 1) := ge_iaload (by decide +kernel)
theorem d_L_law_667 : decode code 667 = .ok (.invokevirtual 77, 3) := ge_invokevirtual (by decide +kernel)
theorem d_L_law_670 : decode code 670 = .ok (.pop2, 1) := ge_pop2 (by decide +kernel)
theorem d_L_law_671 : decode code 671 = .ok (.aload_n 2, 1) := ge_aload_n_2 (by decide +kernel)
theorem d_L_law_672 : decode code 672 = .ok (.aload_n 0, 1) := ge_aload_n_0 (by decide +kernel)
theorem d_L_law_673 : decode code 673 = .ok (.iload_n 3, 1) := ge_iload_n_3 (by decide +kernel)
theorem d_L_law_674 : decode code 674 = .ok (.iconst 1, 1) := ge_iconst_1 (by decide +kernel)
theorem d_L_law_675 : decode code 675 = .ok (.iadd, 1) := ge_iadd (by decide +kernel)
theorem d_L_law_676 : decode code 676 = .ok (.iaload, 1) := ge_iaload (by decide +kernel)
theorem d_L_law_677 : decode code 677 = .ok (.aload_n 0, 1) := ge_aload_n_0 (by decide +kernel)
theorem d_L_law_678 : decode code 678 = .ok (.iload_n 3, 1) := ge_iload_n_3 (by decide +kernel)
theorem d_L_law_679 : decode code 679 = .ok (.iconst 2, 1) := ge_iconst_2 (by decide +kernel)
theorem d_L_law_680 : decode code 680 = .ok (.iadd, 1) := ge_iadd (by decide +kernel)
theorem d_L_law_681 : decode code 681 = .ok (.iaload, 1) := ge_iaload (by decide +kernel)
theorem d_L_law_682 : decode code 682 = .ok (.aload_n 0, 1) := ge_aload_n_0 (by decide +kernel)
theorem d_L_law_683 : decode code 683 = .ok (.iload_n 3, 1) := ge_iload_n_3 (by decide +kernel)
theorem d_L_law_684 : decode code 684 = .ok (.iconst 3, 1) := ge_iconst_3 (by decide +kernel)
theorem d_L_law_685 : decode code 685 = .ok (.iadd, 1) := ge_iadd (by decide +kernel)
theorem d_L_law_686 : decode code 686 = .ok (.iaload, 1) := ge_iaload (by decide +kernel)
theorem d_L_law_687 : decode code 687 = .ok (.invokevirtual 81, 3) := ge_invokevirtual (by decide +kernel)
theorem d_L_law_690 : decode code 690 = .ok (.pop2, 1) := ge_pop2 (by decide +kernel)
theorem d_L_law_691 : decode code 691 = .ok (.goto 566, 3) := ge_goto (by decide +kernel)
theorem d_L_law_694 : decode code 694 = .ok (.aload_n 1, 1) := ge_aload_n_1 (by decide +kernel)
theorem d_L_law_695 : decode code 695 = .ok (.aload_n 0, 1) := ge_aload_n_0 (by decide +kernel)
theorem d_L_law_696 : decode code 696 = .ok (.iload_n 3, 1) := ge_iload_n_3 (by decide +kernel)
theorem d_L_law_697 : decode code 697 = .ok (.iconst 1, 1) := ge_iconst_1 (by decide +kernel)
theorem d_L_law_698 : decode code 698 = .ok (.iadd, 1) := ge_iadd (by decide +kernel)
theorem d_L_law_699 : decode code 699 = .ok (.iaload, 1) := ge_iaload (by decide +kernel)
theorem d_L_law_700 : decode code 700 = .ok (.invokevirtual 82, 3) := ge_invokevirtual (by decide +kernel)
theorem d_L_law_703 : decode code 703 = .ok (.pop, 1) := ge_pop (by decide +kernel)
theorem d_L_law_704 : decode code 704 = .ok (.aload_n 2, 1) := ge_aload_n_2 (by decide +kernel)
theorem d_L_law_705 : decode code 705 = .ok (.aload_n 0, 1) := ge_aload_n_0 (by decide +kernel)
theorem d_L_law_706 : decode code 706 = .ok (.iload_n 3, 1) := ge_iload_n_3 (by decide +kernel)
theorem d_L_law_707 : decode code 707 = .ok (.iconst 1, 1) := ge_iconst_1 (by decide +kernel)
theorem d_L_law_708 : decode code 708 = .ok (.iadd, 1) := ge_iadd (by decide +kernel)
theorem d_L_law_709 : decode code 709 = .ok (.iaload, 1) := ge_iaload (by decide +kernel)
theorem d_L_law_710 : decode code 710 = .ok (.invokevirtual 85, 3) := ge_invokevirtual (by decide +kernel)
theorem d_L_law_713 : decode code 713 = .ok (.pop, 1) := ge_pop (by decide +kernel)
theorem d_L_law_714 : decode code 714 = .ok (.goto 543, 3) := ge_goto (by decide +kernel)
theorem d_L_law_717 : decode code 717 = .ok (.aload_n 1, 1) := ge_aload_n_1 (by decide +kernel)
theorem d_L_law_718 : decode code 718 = .ok (.invokevirtual 86, 3) := ge_invokevirtual (by decide +kernel)
theorem d_L_law_721 : decode code 721 = .ok (.pop, 1) := ge_pop (by decide +kernel)
theorem d_L_law_722 : decode code 722 = .ok (.aload_n 2, 1) := ge_aload_n_2 (by decide +kernel)
theorem d_L_law_723 : decode code 723 = .ok (.invokevirtual 89, 3) := ge_invokevirtual (by decide +kernel)
theorem d_L_law_726 : decode code 726 = .ok (.pop, 1) := ge_pop (by decide +kernel)
theorem d_L_law_727 : decode code 727 = .ok (.goto 530, 3) := ge_goto (by decide +kernel)
theorem d_L_law_730 : decode code 730 = .ok (.aload_n 1, 1) := ge_aload_n_1 (by decide +kernel)
theorem d_L_law_731 : decode code 731 = .ok (.aload_n 0, 1) := ge_aload_n_0 (by decide +kernel)
theorem d_L_law_732 : decode code 732 = .ok (.iload_n 3, 1) := ge_iload_n_3 (by decide +kernel)
theorem d_L_law_733 : decode code 733 = .ok (.iconst 1, 1) := ge_iconst_1 (by decide +kernel)
theorem d_L_law_734 : decode code 734 = .ok (.iadd, 1) := ge_iadd (by decide +kernel)
theorem d_L_law_735 : decode code 735 = .ok (.iaload, 1) := ge_iaload (by decide +kernel)
theorem d_L_law_736 : decode code 736 = .ok (.aload_n 0, 1) := ge_aload_n_0 (by decide +kernel)
theorem d_L_law_737 : decode code 737 = .ok (.iload_n 3, 1) := ge_iload_n_3 (by decide +kernel)
theorem d_L_law_738 : decode code 738 = .ok (.iconst 2, 1) := ge_iconst_2 (by decide +kernel)
theorem d_L_law_739 : decode code 739 = .ok (.iadd, 1) := ge_iadd (by decide +kernel)
theorem d_L_law_740 : decode code 740 = .ok (.iaload, 1) := ge_iaload (by decide +kernel)
theorem d_L_law_741 : decode code 741 = .ok (.aload_n 0, 1) := ge_aload_n_0 (by decide +kernel)
theorem d_L_law_742 : decode code 742 = .ok (.iload_n 3, 1) := ge_iload_n_3 (by decide +kernel)
theorem d_L_law_743 : decode code 743 = .ok (.iconst 3, 1) := ge_iconst_3 (by decide +kernel)
theorem d_L_law_744 : decode code 744 = .ok (.iadd, 1) := ge_iadd (by decide +kernel)
theorem d_L_law_745 : decode code 745 = .ok (.iaload, 1) := ge_iaload (by decide +kernel)
theorem d_L_law_746 : decode code 746 = .ok (.invokevirtual 90, 3) := ge_invokevirtual (by decide +kernel)
theorem d_L_law_749 : decode code 749 = .ok (.pop2, 1) := ge_pop2 (by decide +kernel)
theorem d_L_law_750 : decode code 750 = .ok (.aload_n 2, 1) := ge_aload_n_2 (by decide +kernel)
theorem d_L_law_751 : decode code 751 = .ok (.aload_n 0, 1) := ge_aload_n_0 (by decide +kernel)
theorem d_L_law_752 : decode code 752 = .ok (.iload_n 3, 1) := ge_iload_n_3 (by decide +kernel)
theorem d_L_law_753 : decode code 753 = .ok (.iconst 1, 1) := ge_iconst_1 (by decide +kernel)
theorem d_L_law_754 : decode code 754 = .ok (.iadd, 1) := ge_iadd (by decide +kernel)
theorem d_L_law_755 : decode code 755 = .ok (.iaload, 1) := ge_iaload (by decide +kernel)
theorem d_L_law_756 : decode code 756 = .ok (.aload_n 0, 1) := ge_aload_n_0 (by decide +kernel)
theorem d_L_law_757 : decode code 757 = .ok (.iload_n 3, 1) := ge_iload_n_3 (by decide +kernel)
theorem d_L_law_758 : decode code 758 = .ok (.iconst 2, 1) := ge_iconst_2 (by decide +kernel)
theorem d_L_law_759 : decode code 759 = .ok (.iadd, 1) := ge_iadd (by decide +kernel)
theorem d_L_law_760 : decode code 760 = .ok (.iaload, 1) := ge_iaload (by decide +kernel)
theorem d_L_law_761 : decode code 761 = .ok (.aload_n 0, 1) := ge_aload_n_0 (by decide +kernel)
theorem d_L_law_762 : decode code 762 = .ok (.iload_n 3, 1) := ge_iload_n_3 (by decide +kernel)
theorem d_L_law_763 : decode code 763 = .ok (.iconst 3, 1) := ge_iconst_3 (by decide +kernel)
theorem d_L_law_764 : decode code 764 = .ok (.iadd, 1) := ge_iadd (by decide +kernel)
theorem d_L_law_765 : decode code 765 = .ok (.iaload, 1) := ge_iaload (by decide +kernel)
theorem d_L_law_766 : decode code 766 = .ok (.invokevirtual 93, 3) := ge_invokevirtual (by decide +kernel)
theorem d_L_law_769 : decode code 769 = .ok (.pop2, 1) := ge_pop2 (by decide +kernel)
theorem d_L_law_770 : decode code 770 = .ok (.goto 487, 3) := ge_goto (by decide +kernel)
theorem d_L_law_773 : decode code 773 = .ok (.aload_n 1, 1) := ge_aload_n_1 (by decide +kernel)
theorem d_L_law_774 : decode code 774 = .ok (.invokevirtual 94, 3) := ge_invokevirtual (by decide +kernel)
theorem d_L_law_777 : decode code 777 = .ok (.pop, 1) := ge_pop (by decide +kernel)
theorem d_L_law_778 : decode code 778 = .ok (.aload_n 2, 1) := ge_aload_n_2 (by decide +kernel)
theorem d_L_law_779 : decode code 779 = .ok (.invokevirtual 97, 3) := ge_invokevirtual (by decide +kernel)
theorem d_L_law_782 : decode code 782 = .ok (.pop, 1) := ge_pop (by decide +kernel)
theorem d_L_law_783 : decode code 783 = .ok (.goto 474, 3) := ge_goto (by decide +kernel)
theorem d_L_law_786 : decode code 786 = .ok (.aload_n 1, 1) := ge_aload_n_1 (by decide +kernel)
theorem d_L_law_787 : decode code 787 = .ok (.aload_n 0, 1) := ge_aload_n_0 (by decide +kernel)
theorem d_L_law_788 : decode code 788 = .ok (.iload_n 3, 1) := ge_iload_n_3 (by decide +kernel)
theorem d_L_law_789 : decode code 789 = .ok (.iconst 1, 1) := ge_iconst_1 (by decide +kernel)
theorem d_L_law_790 : decode code 790 = .ok (.iadd, 1) := ge_iadd (by decide +kernel)
theorem d_L_law_791 : decode code 791 = .ok (.iaload, 1) := ge_iaload (by decide +kernel)
theorem d_L_law_792 : decode code 792 = .ok (.invokevirtual 98, 3) := ge_invokevirtual (by decide +kernel)
theorem d_L_law_795 : decode code 795 = .ok (.pop, 1) := ge_pop (by decide +kernel)
theorem d_L_law_796 : decode code 796 = .ok (.aload_n 2, 1) := ge_aload_n_2 (by decide +kernel)
theorem d_L_law_797 : decode code 797 = .ok (.aload_n 0, 1) := ge_aload_n_0 (by decide +kernel)
theorem d_L_law_798 : decode code 798 = .ok (.iload_n 3, 1) := ge_iload_n_3 (by decide +kernel)
theorem d_L_law_799 : decode code 799 = .ok (.iconst 1, 1) := ge_iconst_1 (by decide +kernel)
theorem d_L_law_800 : decode code 800 = .ok (.iadd, 1) := ge_iadd (by decide +kernel)
theorem d_L_law_801 : decode code 801 = .ok (.iaload, 1) := ge_iaload (by decide +kernel)
theorem d_L_law_802 : decode code 802 = .ok (.invokevirtual 101, 3) := ge_invokevirtual (by decide +kernel)
theorem d_L_law_805 : decode code 805 = .ok (.pop, 1) := ge_pop (by decide +kernel)
theorem d_L_law_806 : decode code 806 = .ok (.goto 451, 3) := ge_goto (by decide +kernel)
theorem d_L_law_809 : decode code 809 = .ok (.aload_n 1, 1) := ge_aload_n_1 (by decide +kernel)
theorem d_L_law_810 : decode code 810 = .ok (.aload_n 0, 1) := ge_aload_n_0 (by decide +kernel)
theorem d_L_law_811 : decode code 811 = .ok (.iload_n 3, 1) := ge_iload_n_3 (by decide +kernel)
theorem d_L_law_812 : decode code 812 = .ok (.iconst 1, 1) := ge_iconst_1 (by decide +kernel)
theorem d_L_law_813 : decode code 813 = .ok (.iadd, 1) := ge_iadd (by decide +kernel)
theorem d_L_law_814 : decode code 814 = .ok (.iaload, 1) := ge_iaload (by decide +kernel)
theorem d_L_law_815 : decode code 815 = .ok (.aload_n 0, 1) := ge_aload_n_0 (by decide +kernel)
theorem d_L_law_816 : decode code 816 = .ok (.iload_n 3, 1) := ge_iload_n_3 (by decide +kernel)
theorem d_L_law_817 : decode code 817 = .ok (.iconst 2, 1) := ge_iconst_2 (by decide +kernel)
theorem d_L_law_818 : decode code 818 = .ok (.iadd, 1) := ge_iadd (by decide +kernel)
theorem d_L_law_819 : decode code 819 = .ok (.iaload, 1) := ge_iaload (by decide +kernel)
theorem d_L_law_820 : decode code 820 = .ok (.invokevirtual 102, 3) := ge_invokevirtual (by decide +kernel)
theorem d_L_law_823 : decode code 823 = .ok (.pop, 1) := ge_pop (by decide +kernel)
theorem d_L_law_824 : decode code 824 = .ok (.aload_n 2, 1) := ge_aload_n_2 (by decide +kernel)
theorem d_L_law_825 : decode code 825 = .ok (.aload_n 0, 1) := ge_aload_n_0 (by decide +kernel)
theorem d_L_law_826 : decode code 826 = .ok (.iload_n 3, 1) := ge_iload_n_3 (by decide +kernel)
theorem d_L_law_827 : decode code 827 = .ok (.iconst 1, 1) := ge_iconst_1 (by decide +kernel)
theorem d_L_law_828 : decode code 828 = .ok (.iadd, 1) := ge_iadd (by decide +kernel)
theorem d_L_law_829 : decode code 829 = .ok (.iaload, 1) := ge_iaload (by decide +kernel)
theorem d_L_law_830 : decode code 830 = .ok (.aload_n 0, 1) := ge_aload_n_0 (by decide +kernel)
theorem d_L_law_831 : decode code 831 = .ok (.iload_n 3, 1) := ge_iload_n_3 (by decide +kernel)
theorem d_L_law_832 : decode code 832 = .ok (.iconst 2, 1) := ge_iconst_2 (by decide +kernel)
theorem d_L_law_833 : decode code 833 = .ok (.iadd, 1) := ge_iadd (by decide +kernel)
theorem d_L_law_834 : decode code 834 = .ok (.iaload, 1) := ge_iaload (by decide +kernel)
theorem d_L_law_835 : decode code 835 = .ok (.invokevirtual 105, 3) := ge_invokevirtual (by decide +kernel)
theorem d_L_law_838 : decode code 838 = .ok (.pop, 1) := ge_pop (by decide +kernel)
theorem d_L_law_839 : decode code 839 = .ok (.goto 418, 3) := ge_goto (by decide +kernel)
theorem d_L_law_842 : decode code 842 = .ok (.aload_n 1, 1) := ge_aload_n_1 (by decide +kernel)
theorem d_L_law_843 : decode code 843 = .ok (.aload_n 0, 1) := ge_aload_n_0 (by decide +kernel)
theorem d_L_law_844 : decode code 844 = .ok (.iload_n 3, 1) := ge_iload_n_3 (by decide +kernel)
theorem d_L_law_845 : decode code 845 = .ok (.iconst 1, 1) := ge_iconst_1 (by decide +kernel)
theorem d_L_law_846 : decode code 846 = .ok (.iadd, 1) := ge_iadd (by decide +kernel)
theorem d_L_law_847 : decode code 847 = .ok (.iaload, 1) := ge_iaload (by decide +kernel)
theorem d_L_law_848 : decode code 848 = .ok (.aload_n 0, 1) := ge_aload_n_0 (by decide +kernel)
theorem d_L_law_849 : decode code 849 = .ok (.iload_n 3, 1) := ge_iload_n_3 (by decide +kernel)
theorem d_L_law_850 : decode code 850 = .ok (.iconst 2, 1) := ge_iconst_2 (by decide +kernel)
theorem d_L_law_851 : decode code 851 = .ok (.iadd, 1) := ge_iadd (by decide +kernel)
theorem d_L_law_852 : decode code 852 = .ok (.iaload, 1) := ge_iaload (by decide +kernel)
theorem d_L_law_853 : decode code 853 = .ok (.aload_n 0, 1) := ge_aload_n_0 (by decide +kernel)
theorem d_L_law_854 : decode code 854 = .ok (.iload_n 3, 1) := ge_iload_n_3 (by decide +kernel)
theorem d_L_law_855 : decode code 855 = .ok (.iconst 3, 1) := ge_iconst_3 (by decide +kernel)
theorem d_L_law_856 : decode code 856 = .ok (.iadd, 1) := ge_iadd (by decide +kernel)
theorem d_L_law_857 : decode code 857 = .ok (.iaload, 1) := ge_iaload (by decide +kernel)
theorem d_L_law_858 : decode code 858 = .ok (.invokevirtual 106, 3) := ge_invokevirtual (by decide +kernel)
theorem d_L_law_861 : decode code 861 = .ok (.pop, 1) := ge_pop (by decide +kernel)
theorem d_L_law_862 : decode code 862 = .ok (.aload_n 2, 1) := ge_aload_n_2 (by decide +kernel)
theorem d_L_law_863 : decode code 863 = .ok (.aload_n 0, 1) := ge_aload_n_0 (by decide +kernel)
theorem d_L_law_864 : decode code 864 = .ok (.iload_n 3, 1) := ge_iload_n_3 (by decide +kernel)
theorem d_L_law_865 : decode code 865 = .ok (.iconst 1, 1) := ge_iconst_1 (by decide +kernel)
theorem d_L_law_866 : decode code 866 = .ok (.iadd, 1) := ge_iadd (by decide +kernel)
theorem d_L_law_867 : decode code 867 = .ok (.iaload, 1) := ge_iaload (by decide +kernel)
theorem d_L_law_868 : decode code 868 = .ok (.aload_n 0, 1) := ge_aload_n_0 (by decide +kernel)
theorem d_L_law_869 : decode code 869 = .ok (.iload_n 3, 1) := ge_iload_n_3 (by decide +kernel)
theorem d_L_law_870 : decode code 870 = .ok (.iconst 2, 1) := ge_iconst_2 (by decide +kernel)
theorem d_L_law_871 : decode code 871 = .ok (.iadd, 1) := ge_iadd (by decide +kernel)
theorem d_L_law_872 : decode code 872 = .ok (.iaload, 1) := ge_iaload (by decide +kernel)
theorem d_L_law_873 : decode code 873 = .ok (.aload_n 0, 1) := ge_aload_n_0 (by decide +kernel)
theorem d_L_law_874 : decode code 874 = .ok (.iload_n 3, 1) := ge_iload_n_3 (by decide +kernel)
theorem d_L_law_875 : decode code 875 = .ok (.iconst 3, 1) := ge_iconst_3 (by decide +kernel)
theorem d_L_law_876 : decode code 876 = .ok (.iadd, 1) := ge_iadd (by decide +kernel)
theorem d_L_law_877 : decode code 877 = .ok (.iaload, 1) := ge_iaload (by decide +kernel)
theorem d_L_law_878 : decode code 878 = .ok (.invokevirtual 109, 3) := ge_invokevirtual (by decide +kernel)
theorem d_L_law_881 : decode code 881 = .ok (.pop, 1) := ge_pop (by decide +kernel)
theorem d_L_law_882 : decode code 882 = .ok (.goto 375, 3) := ge_goto (by decide +kernel)
theorem d_L_law_885 : decode code 885 = .ok (.aload_n 1, 1) := ge_aload_n_1 (by decide +kernel)
theorem d_L_law_886 : decode code 886 = .ok (.aload_n 0, 1) := ge_aload_n_0 (by decide +kernel)
theorem d_L_law_887 : decode code 887 = .ok (.iload_n 3, 1) := ge_iload_n_3 (by decide +kernel)
theorem d_L_law_888 : decode code 888 = .ok (.iconst 1, 1) := ge_iconst_1 (by decide +kernel)
theorem d_L_law_889 : decode code 889 = .ok (.iadd, 1) := ge_iadd (by decide +kernel)
theorem d_L_law_890 : decode code 890 = .ok (.iaload, 1) := ge_iaload (by decide +kernel)
theorem d_L_law_891 : decode code 891 = .ok (.aload_n 0, 1) := ge_aload_n_0 (by decide +kernel)
theorem d_L_law_892 : decode code 892 = .ok (.iload_n 3, 1) := ge_iload_n_3 (by decide +kernel)
theorem d_L_law_893 : decode code 893 = .ok (.iconst 2, 1) := ge_iconst_2 (by decide +kernel)
theorem d_L_law_894 : decode code 894 = .ok (.iadd, 1) := ge_iadd (by decide +kernel)
theorem d_L_law_895 : decode code 895 = .ok (.iaload, 1) := ge_iaload (by decide +kernel)
theorem d_L_law_896 : decode code 896 = .ok (.invokevirtual 110, 3) := ge_invokevirtual (by decide +kernel)
theorem d_L_law_899 : decode code 899 = .ok (.pop, 1) := ge_pop (by decide +kernel)
theorem d_L_law_900 : decode code 900 = .ok (.aload_n 2, 1) := ge_aload_n_2 (by decide +kernel)
theorem d_L_law_901 : decode code 901 = .ok (.aload_n 0, 1) := ge_aload_n_0 (by decide +kernel)
theorem d_L_law_902 : decode code 902 = .ok (.iload_n 3, 1) := ge_iload_n_3 (by decide +kernel)
theorem d_L_law_903 : decode code 903 = .ok (.iconst 1, 1) := ge_iconst_1 (by decide +kernel)
theorem d_L_law_904 : decode code 904 = .ok (.iadd, 1) := ge_iadd (by decide +kernel)
theorem d_L_law_905 : decode code 905 = .ok (.iaload, 1) := ge_iaload (by decide +kernel)
theorem d_L_law_906 : decode code 906 = .ok (.aload_n 0, 1) := ge_aload_n_0 (by decide +kernel)
theorem d_L_law_907 : decode code 907 = .ok (.iload_n 3, 1) := ge_iload_n_3 (by decide +kernel)
theorem d_L_law_908 : decode code 908 = .ok (.iconst 2, 1) := ge_iconst_2 (by decide +kernel)
theorem d_L_law_909 : decode code 909 = .ok (.iadd, 1) := ge_iadd (by decide +kernel)
theorem d_L_law_910 : decode code 910 = .ok (.iaload, 1) := ge_iaload (by decide +kernel)
theorem d_L_law_911 : decode code 911 = .ok (.invokevirtual 113, 3) := ge_invokevirtual (by decide +kernel)
theorem d_L_law_914 : decode code 914 = .ok (.pop, 1) := ge_pop (by decide +kernel)
theorem d_L_law_915 : decode code 915 = .ok (.goto 342, 3) := ge_goto (by decide +kernel)
theorem d_L_law_918 : decode code 918 = .ok (.aload_n 1, 1) := ge_aload_n_1 (by decide +kernel)
theorem d_L_law_919 : decode code 919 = .ok (.aload_n 0, 1) := ge_aload_n_0 (by decide +kernel)
theorem d_L_law_920 : decode code 920 = .ok (.iload_n 3, 1) := ge_iload_n_3 (by decide +kernel)
theorem d_L_law_921 : decode code 921 = .ok (.iconst 1, 1) := ge_iconst_1 (by decide +kernel)
theorem d_L_law_922 : decode code 922 = .ok (.iadd, 1) := ge_iadd (by decide +kernel)
theorem d_L_law_923 : decode code 923 = .ok (.iaload, 1) := ge_iaload (by decide +kernel)
theorem d_L_law_924 : decode code 924 = .ok (.aload_n 0, 1) := ge_aload_n_0 (by decide +kernel)
theorem d_L_law_925 : decode code 925 = .ok (.iload_n 3, 1) := ge_iload_n_3 (by decide +kernel)
theorem d_L_law_926 : decode code 926 = .ok (.iconst 2, 1) := ge_iconst_2 (by decide +kernel)
theorem d_L_law_927 : decode code 927 = .ok (.iadd, 1) := ge_iadd (by decide +kernel)
theorem d_L_law_928 : decode code 928 = .ok (.iaload, 1) := ge_iaload (by decide +kernel)
theorem d_L_law_929 : decode code 929 = .ok (.invokevirtual 114, 3) := ge_invokevirtual (by decide +kernel)
theorem d_L_law_932 : decode code 932 = .ok (.pop, 1) := ge_pop (by decide +kernel)
theorem d_L_law_933 : decode code 933 = .ok (.aload_n 2, 1) := ge_aload_n_2 (by decide +kernel)
theorem d_L_law_934 : decode code 934 = .ok (.aload_n 0, 1) := ge_aload_n_0 (by decide +kernel)
theorem d_L_law_935 : decode code 935 = .ok (.iload_n 3, 1) := ge_iload_n_3 (by decide +kernel)
theorem d_L_law_936 : decode code 936 = .ok (.iconst 1, 1) := ge_iconst_1 (by decide +kernel)
theorem d_L_law_937 : decode code 937 = .ok (.iadd, 1) := ge_iadd (by decide +kernel)
theorem d_L_law_938 : decode code 938 = .ok (.iaload, 1) := ge_iaload (by decide +kernel)
theorem d_L_law_939 : decode code 939 = .ok (.aload_n 0, 1) := ge_aload_n_0 (by decide +kernel)
theorem d_L_law_940 : decode code 940 = .ok (.iload_n 3, 1) := ge_iload_n_3 (by decide +kernel)
theorem d_L_law_941 : decode code 941 = .ok (.iconst 2, 1) := ge_iconst_2 (by decide +kernel)
theorem d_L_law_942 : decode code 942 = .ok (.iadd, 1) := ge_iadd (by decide +kernel)
theorem d_L_law_943 : decode code 943 = .ok (.iaload, 1) := ge_iaload (by decide +kernel)
theorem d_L_law_944 : decode code 944 = .ok (.invokevirtual 117, 3) := ge_invokevirtual (by decide +kernel)
theorem d_L_law_947 : decode code 947 = .ok (.pop, 1) := ge_pop (by decide +kernel)
theorem d_L_law_948 : decode code 948 = .ok (.goto 309, 3) := ge_goto (by decide +kernel)
theorem d_L_law_951 : decode code 951 = .ok (.aload_n 1, 1) := ge_aload_n_1 (by decide +kernel)
theorem d_L_law_952 : decode code 952 = .ok (.aload_n 0, 1) := ge_aload_n_0 (by decide +kernel)
theorem d_L_law_953 : decode code 953 = .ok (.iload_n 3, 1) := ge_iload_n_3 (by decide +kernel)
theorem d_L_law_954 : decode code 954 = .ok (.iconst 1, 1) := ge_iconst_1 (by decide +kernel)
theorem d_L_law_955 : decode code 955 = .ok (.iadd, 1) := ge_iadd (by decide +kernel)
theorem d_L_law_956 : decode code 956 = .ok (.iaload, 1) := ge_iaload (by decide +kernel)
theorem d_L_law_957 : decode code 957 = .ok (.invokevirtual 118, 3) := ge_invokevirtual (by decide +kernel)
theorem d_L_law_960 : decode code 960 = .ok (.pop, 1) := ge_pop (by decide +kernel)
theorem d_L_law_961 : decode code 961 = .ok (.aload_n 2, 1) := ge_aload_n_2 (by decide +kernel)
theorem d_L_law_962 : decode code 962 = .ok (.aload_n 0, 1) := ge_aload_n_0 (by decide +kernel)
theorem d_L_law_963 : decode code 963 = .ok (.iload_n 3, 1) := ge_iload_n_3 (by decide +kernel)
theorem d_L_law_964 : decode code 964 = .ok (.iconst 1, 1) := ge_iconst_1 (by decide +kernel)
theorem d_L_law_965 : decode code 965 = .ok (.iadd, 1) := ge_iadd (by decide +kernel)
theorem d_L_law_966 : decode code 966 = .ok (.iaload, 1) := ge_iaload (by decide +kernel)
theorem d_L_law_967 : decode code 967 = .ok (.invokevirtual 121, 3) := ge_invokevirtual (by decide +kernel)
theorem d_L_law_970 : decode code 970 = .ok (.pop, 1) := ge_pop (by decide +kernel)
theorem d_L_law_971 : decode code 971 = .ok (.goto 286, 3) := ge_goto (by decide +kernel)
theorem d_L_law_974 : decode code 974 = .ok (.aload_n 1, 1) := ge_aload_n_1 (by decide +kernel)
theorem d_L_law_975 : decode code 975 = .ok (.aload_n 0, 1) := ge_aload_n_0 (by decide +kernel)
theorem d_L_law_976 : decode code 976 = .ok (.iload_n 3, 1) := ge_iload_n_3 (by decide +kernel)
theorem d_L_law_977 : decode code 977 = .ok (.iconst 1, 1) := ge_iconst_1 (by decide +kernel)
theorem d_L_law_978 : decode code 978 = .ok (.iadd, 1) := ge_iadd (by decide +kernel)
theorem d_L_law_979 : decode code 979 = .ok (.iaload, 1) := ge_iaload (by decide +kernel)
theorem d_L_law_980 : decode code 980 = .ok (.aload_n 0, 1) := ge_aload_n_0 (by decide +kernel)
theorem d_L_law_981 : decode code 981 = .ok (.iload_n 3, 1) := ge_iload_n_3 (by decide +kernel)
theorem d_L_law_982 : decode code 982 = .ok (.iconst 2, 1) := ge_iconst_2 (by decide +kernel)
theorem d_L_law_983 : decode code 983 = .ok (.iadd, 1) := ge_iadd (by decide +kernel)
theorem d_L_law_984 : decode code 984 = .ok (.iaload, 1) := ge_iaload (by decide +kernel)
theorem d_L_law_985 : decode code 985 = .ok (.invokevirtual 122, 3) := ge_invokevirtual (by decide +kernel)
theorem d_L_law_988 : decode code 988 = .ok (.pop2, 1) := ge_pop2 (by decide +kernel)
theorem d_L_law_989 : decode code 989 = .ok (.aload_n 2, 1) := ge_aload_n_2 (by decide +kernel)
theorem d_L_law_990 : decode code 990 = .ok (.aload_n 0, 1) := ge_aload_n_0 (by decide +kernel)
theorem d_L_law_991 : decode code 991 = .ok (.iload_n 3, 1) := ge_iload_n_3 (by decide +kernel)
theorem d_L_law_992 : decode code 992 = .ok (.iconst 1, 1) := ge_iconst_1 (by decide +kernel)
theorem d_L_law_993 : decode code 993 = .ok (.iadd, 1) := ge_iadd (by decide +kernel)
theorem d_L_law_994 : decode code 994 = .ok (.iaload, 1) := ge_iaload (by decide +kernel)
theorem d_L_law_995 : decode code 995 = .ok (.aload_n 0, 1) := ge_aload_n_0 (by decide +kernel)
theorem d_L_law_996 : decode code 996 = .ok (.iload_n 3, 1) := ge_iload_n_3 (by decide +kernel)
theorem d_L_law_997 : decode code 997 = .ok (.iconst 2, 1) := ge_iconst_2 (by decide +kernel)
theorem d_L_law_998 : decode code 998 = .ok (.iadd, 1) := ge_iadd (by decide +kernel)
theorem d_L_law_999 : decode code 999 = .ok (.iaload, 1) := ge_iaload (by decide +kernel)
theorem d_L_law_1000 : decode code 1000 = .ok (.invokevirtual 126, 3) := ge_invokevirtual (by decide +kernel)
theorem d_L_law_1003 : decode code 1003 = .ok (.pop2, 1) := ge_pop2 (by decide +kernel)
theorem d_L_law_1004 : decode code 1004 = .ok (.goto 253, 3) := ge_goto (by decide +kernel)
theorem d_L_law_1007 : decode code 1007 = .ok (.aload_n 1, 1) := ge_aload_n_1 (by decide +kernel)
theorem d_L_law_1008 : decode code 1008 = .ok (.aload_n 0, 1) := ge_aload_n_0 (by decide +kernel)
theorem d_L_law_1009 : decode code 1009 = .ok (.iload_n 3, 1) := ge_iload_n_3 (by decide +kernel)
theorem d_L_law_1010 : decode code 1010 = .ok (.iconst 1, 1) := ge_iconst_1 (by decide +kernel)
theorem d_L_law_1011 : decode code 1011 = .ok (.iadd, 1) := ge_iadd (by decide +kernel)
theorem d_L_law_1012 : decode code 1012 = .ok (.iaload, 1) := ge_iaload (by decide +kernel)
theorem d_L_law_1013 : decode code 1013 = .ok (.aload_n 0, 1) := ge_aload_n_0 (by decide +kernel)
theorem d_L_law_1014 : decode code 1014 = .ok (.iload_n 3, 1) := ge_iload_n_3 (by decide +kernel)
theorem d_L_law_1015 : decode code 1015 = .ok (.iconst 2, 1) := ge_iconst_2 (by decide +kernel)
theorem d_L_law_1016 : decode code 1016 = .ok (.iadd, 1) := ge_iadd (by decide +kernel)
theorem d_L_law_1017 : decode code 1017 = .ok (.iaload, 1) := ge_iaload (by decide +kernel)
theorem d_L_law_1018 : decode code 1018 = .ok (.invokevirtual 127, 3) := ge_invokevirtual (by decide +kernel)
theorem d_L_law_1021 : decode code 1021 = .ok (.pop, 1) := ge_pop (by decide +kernel)
theorem d_L_law_1022 : decode code 1022 = .ok (.aload_n 2, 1) := ge_aload_n_2 (by decide +kernel)
theorem d_L_law_1023 : decode code 1023 = .ok (.aload_n 0, 1) := ge_aload_n_0 (by decide +kernel)
theorem d_L_law_1024 : decode code 1024 = .ok (.iload_n 3, 1) := ge_iload_n_3 (by decide +kernel)
theorem d_L_law_1025 : decode code 1025 = .ok (.iconst 1, 1) := ge_iconst_1 (by decide +kernel)
theorem d_L_law_1026 : decode code 1026 = .ok (.iadd, 1) := ge_iadd (by decide +kernel)
theorem d_L_law_1027 : decode code 1027 = .ok (.iaload, 1) := ge_iaload (by decide +kernel)
theorem d_L_law_1028 : decode code 1028 = .ok (.aload_n 0, 1) := ge_aload_n_0 (by decide +kernel)
theorem d_L_law_1029 : decode code 1029 = .ok (.iload_n 3, 1) := ge_iload_n_3 (by decide +kernel)
theorem d_L_law_1030 : decode code 1030 = .ok (.iconst 2, 1) := ge_iconst_2 (by decide +kernel)
theorem d_L_law_1031 : decode code 1031 = .ok (.iadd, 1) := ge_iadd (by decide +kernel)
theorem d_L_law_1032 : decode code 1032 = .ok (.iaload, 1) := ge_iaload (by decide +kernel)
theorem d_L_law_1033 : decode code 1033 = .ok (.invokevirtual 130, 3) := ge_invokevirtual (by decide +kernel)
theorem d_L_law_1036 : decode code 1036 = .ok (.pop, 1) := ge_pop (by decide +kernel)
theorem d_L_law_1037 : decode code 1037 = .ok (.goto 220, 3) := ge_goto (by decide +kernel)
theorem d_L_law_1040 : decode code 1040 = .ok (.aload_n 1, 1) := ge_aload_n_1 (by decide +kernel)
theorem d_L_law_1041 : decode code 1041 = .ok (.aload_n 0, 1) := ge_aload_n_0 (by decide +kernel)
theorem d_L_law_1042 : decode code 1042 = .ok (.iload_n 3, 1) := ge_iload_n_3 (by decide +kernel)
theorem d_L_law_1043 : decode code 1043 = .ok (.iconst 1, 1) := ge_iconst_1 (by decide +kernel)
theorem d_L_law_1044 : decode code 1044 = .ok (.iadd, 1) := ge_iadd (by decide +kernel)
theorem d_L_law_1045 : decode code 1045 = .ok (.iaload, 1) := ge_iaload (by decide +kernel)
theorem d_L_law_1046 : decode code 1046 = .ok (.invokevirtual 131, 3) := ge_invokevirtual (by decide +kernel)
theorem d_L_law_1049 : decode code 1049 = .ok (.pop, 1) := ge_pop (by decide +kernel)
theorem d_L_law_1050 : decode code 1050 = .ok (.aload_n 2, 1) := ge_aload_n_2 (by decide +kernel)
theorem d_L_law_1051 : decode code 1051 = .ok (.aload_n 0, 1) := ge_aload_n_0 (by decide +kernel)
theorem d_L_law_1052 : decode code 1052 = .ok (.iload_n 3, 1) := ge_iload_n_3 (by decide +kernel)
theorem d_L_law_1053 : decode code 1053 = .ok (.iconst 1, 1) := ge_iconst_1 (by decide +kernel)
theorem d_L_law_1054 : decode code 1054 = .ok (.iadd, 1) := ge_iadd (by decide +kernel)
theorem d_L_law_1055 : decode code 1055 = .ok (.iaload, 1) := ge_iaload (by decide +kernel)
theorem d_L_law_1056 : decode code 1056 = .ok (.invokevirtual 134, 3) := ge_invokevirtual (by decide +kernel)
theorem d_L_law_1059 : decode code 1059 = .ok (.pop, 1) := ge_pop (by decide +kernel)
theorem d_L_law_1060 : decode code 1060 = .ok (.goto 197, 3) := ge_goto (by decide +kernel)
theorem d_L_law_1063 : decode code 1063 = .ok (.aload_n 1, 1) := ge_aload_n_1 (by decide +kernel)
theorem d_L_law_1064 : decode code 1064 = .ok (.aload_n 0, 1) := ge_aload_n_0 (by decide +kernel)
theorem d_L_law_1065 : decode code 1065 = .ok (.iload_n 3, 1) := ge_iload_n_3 (by decide +kernel)
theorem d_L_law_1066 : decode code 1066 = .ok (.iconst 1, 1) := ge_iconst_1 (by decide +kernel)
theorem d_L_law_1067 : decode code 1067 = .ok (.iadd, 1) := ge_iadd (by decide +kernel)
theorem d_L_law_1068 : decode code 1068 = .ok (.iaload, 1) := ge_iaload (by decide +kernel)
theorem d_L_law_1069 : decode code 1069 = .ok (.aload_n 0, 1) := ge_aload_n_0 (by decide +kernel)
theorem d_L_law_1070 : decode code 1070 = .ok (.iload_n 3, 1) := ge_iload_n_3 (by decide +kernel)
theorem d_L_law_1071 : decode code 1071 = .ok (.iconst 2, 1) := ge_iconst_2 (by decide +kernel)
theorem d_L_law_1072 : decode code 1072 = .ok (.iadd, 1) := ge_iadd (by decide +kernel)
theorem d_L_law_1073 : decode code 1073 = .ok (.iaload, 1) := ge_iaload (by decide +kernel)
theorem d_L_law_1074 : decode code 1074 = .ok (.invokevirtual 135, 3) := ge_invokevirtual (by decide +kernel)
theorem d_L_law_1077 : decode code 1077 = .ok (.pop, 1) := ge_pop (by decide +kernel)
theorem d_L_law_1078 : decode code 1078 = .ok (.aload_n 2, 1) := ge_aload_n_2 (by decide +kernel)
theorem d_L_law_1079 : decode code 1079 = .ok (.aload_n 0, 1) := ge_aload_n_0 (by decide +kernel)
theorem d_L_law_1080 : decode code 1080 = .ok (.iload_n 3, 1) := ge_iload_n_3 (by decide +kernel)
theorem d_L_law_1081 : decode code 1081 = .ok (.iconst 1, 1) := ge_iconst_1 (by decide +kernel)
theorem d_L_law_1082 : decode code 1082 = .ok (.iadd, 1) := ge_iadd (by decide +kernel)
theorem d_L_law_1083 : decode code 1083 = .ok (.iaload, 1) := ge_iaload (by decide +kernel)
theorem d_L_law_1084 : decode code 1084 = .ok (.aload_n 0, 1) := ge_aload_n_0 (by decide +kernel)
theorem d_L_law_1085 : decode code 1085 = .ok (.iload_n 3, 1) := ge_iload_n_3 (by decide +kernel)
theorem d_L_law_1086 : decode code 1086 = .ok (.iconst 2, 1) := ge_iconst_2 (by decide +kernel)
theorem d_L_law_1087 : decode code 1087 = .ok (.iadd, 1) := ge_iadd (by decide +kernel)
theorem d_L_law_1088 : decode code 1088 = .ok (.iaload, 1) := ge_iaload (by decide +kernel)
theorem d_L_law_1089 : decode code 1089 = .ok (.invokevirtual 138, 3) := ge_invokevirtual (by decide +kernel)
theorem d_L_law_1092 : decode code 1092 = .ok (.pop, 1) := ge_pop (by decide +kernel)
theorem d_L_law_1093 : decode code 1093 = .ok (.goto 164, 3) := ge_goto (by decide +kernel)
theorem d_L_law_1096 : decode code 1096 = .ok (.aload_n 1, 1) := ge_aload_n_1 (by decide +kernel)
theorem d_L_law_1097 : decode code 1097 = .ok (.invokevirtual 139, 3) := ge_invokevirtual (by decide +kernel)
theorem d_L_law_1100 : decode code 1100 = .ok (.pop, 1) := ge_pop (by decide +kernel)
theorem d_L_law_1101 : decode code 1101 = .ok (.aload_n 2, 1) := ge_aload_n_2 (by decide +kernel)
theorem d_L_law_1102 : decode code 1102 = .ok (.invokevirtual 142, 3) := ge_invokevirtual (by decide +kernel)
theorem d_L_law_1105 : decode code 1105 = .ok (.pop, 1) := ge_pop (by decide +kernel)
theorem d_L_law_1106 : decode code 1106 = .ok (.goto 151, 3) := ge_goto (by decide +kernel)
theorem d_L_law_1109 : decode code 1109 = .ok (.aload_n 1, 1) := ge_aload_n_1 (by decide +kernel)
theorem d_L_law_1110 : decode code 1110 = .ok (.aload_n 0, 1) := ge_aload_n_0 (by decide +kernel)
theorem d_L_law_1111 : decode code 1111 = .ok (.iload_n 3, 1) := ge_iload_n_3 (by decide +kernel)
theorem d_L_law_1112 : decode code 1112 = .ok (.iconst 1, 1) := ge_iconst_1 (by decide +kernel)
theorem d_L_law_1113 : decode code 1113 = .ok (.iadd, 1) := ge_iadd (by decide +kernel)
theorem d_L_law_1114 : decode code 1114 = .ok (.iaload, 1) := ge_iaload (by decide +kernel)
theorem d_L_law_1115 : decode code 1115 = .ok (.aload_n 0, 1) := ge_aload_n_0 (by decide +kernel)
theorem d_L_law_1116 : decode code 1116 = .ok (.iload_n 3, 1) := ge_iload_n_3 (by decide +kernel)
theorem d_L_law_1117 : decode code 1117 = .ok (.iconst 2, 1) := ge_iconst_2 (by decide +kernel)
theorem d_L_law_1118 : decode code 1118 = .ok (.iadd, 1) := ge_iadd (by decide +kernel)
theorem d_L_law_1119 : decode code 1119 = .ok (.iaload, 1) := ge_iaload (by decide +kernel)
theorem d_L_law_1120 : decode code 1120 = .ok (.aload_n 0, 1) := ge_aload_n_0 (by decide +kernel)
theorem d_L_law_1121 : decode code 1121 = .ok (.iload_n 3, 1) := ge_iload_n_3 (by decide +kernel)
theorem d_L_law_1122 : decode code 1122 = .ok (.iconst 3, 1) := ge_iconst_3 (by decide +kernel)
theorem d_L_law_1123 : decode code 1123 = .ok (.iadd, 1) := ge_iadd (by decide +kernel)
theorem d_L_law_1124 : decode code 1124 = .ok (.iaload, 1) := ge_iaload (by decide +kernel)
theorem d_L_law_1125 : decode code 1125 = .ok (.invokevirtual 143, 3) := ge_invokevirtual (by decide +kernel)
theorem d_L_law_1128 : decode code 1128 = .ok (.pop, 1) := ge_pop (by decide +kernel)
theorem d_L_law_1129 : decode code 1129 = .ok (.aload_n 2, 1) := ge_aload_n_2 (by decide +kernel)
theorem d_L_law_1130 : decode code 1130 = .ok (.aload_n 0, 1) := ge_aload_n_0 (by decide +kernel)
theorem d_L_law_1131 : decode code 1131 = .ok (.iload_n 3, 1) := ge_iload_n_3 (by decide +kernel)
theorem d_L_law_1132 : decode code 1132 = .ok (.iconst 1, 1) := ge_iconst_1 (by decide +kernel)
theorem d_L_law_1133 : decode code 1133 = .ok (.iadd, 1) := ge_iadd (by decide +kernel)
theorem d_L_law_1134 : decode code 1134 = .ok (.iaload, 1) := ge_iaload (by decide +kernel)
theorem d_L_law_1135 : decode code 1135 = .ok (.aload_n 0, 1) := ge_aload_n_0 (by decide +kernel)
theorem d_L_law_1136 : decode code 1136 = .ok (.iload_n 3, 1) := ge_iload_n_3 (by decide +kernel)
theorem d_L_law_1137 : decode code 1137 = .ok (.iconst 2, 1) := ge_iconst_2 (by decide +kernel)
theorem d_L_law_1138 : decode code 1138 = .ok (.iadd, 1) := ge_iadd (by decide +kernel)
theorem d_L_law_1139 : decode code 1139 = .ok (.iaload, 1) := ge_iaload (by decide +kernel)
theorem d_L_law_1140 : decode code 1140 = .ok (.aload_n 0, 1) := ge_aload_n_0 (by decide +kernel)
theorem d_L_law_1141 : decode code 1141 = .ok (.iload_n 3, 1) := ge_iload_n_3 (by decide +kernel)
theorem d_L_law_1142 : decode code 1142 = .ok (.iconst 3, 1) := ge_iconst_3 (by decide +kernel)
theorem d_L_law_1143 : decode code 1143 = .ok (.iadd, 1) := ge_iadd (by decide +kernel)
theorem d_L_law_1144 : decode code 1144 = .ok (.iaload, 1) := ge_iaload (by decide +kernel)
theorem d_L_law_1145 : decode code 1145 = .ok (.invokevirtual 146, 3) := ge_invokevirtual (by decide +kernel)
theorem d_L_law_1148 : decode code 1148 = .ok (.pop, 1) := ge_pop (by decide +kernel)
theorem d_L_law_1149 : decode code 1149 = .ok (.goto 108, 3) := ge_goto (by decide +kernel)
theorem d_L_law_1152 : decode code 1152 = .ok (.aload_n 1, 1) := ge_aload_n_1 (by decide +kernel)
theorem d_L_law_1153 : decode code 1153 = .ok (.aload_n 0, 1) := ge_aload_n_0 (by decide +kernel)
theorem d_L_law_1154 : decode code 1154 = .ok (.iload_n 3, 1) := ge_iload_n_3 (by decide +kernel)
theorem d_L_law_1155 : decode code 1155 = .ok (.iconst 1, 1) := ge_iconst_1 (by decide +kernel)
theorem d_L_law_1156 : decode code 1156 = .ok (.iadd, 1) := ge_iadd (by decide +kernel)
theorem d_L_law_1157 : decode code 1157 = .ok (.iaload, 1) := ge_iaload (by decide +kernel)
theorem d_L_law_1158 : decode code 1158 = .ok (.invokevirtual 147, 3) := ge_invokevirtual (by decide +kernel)
theorem d_L_law_1161 : decode code 1161 = .ok (.pop, 1) := ge_pop (by decide +kernel)
theorem d_L_law_1162 : decode code 1162 = .ok (.aload_n 2, 1) := ge_aload_n_2 (by decide +kernel)
theorem d_L_law_1163 : decode code 1163 = .ok (.aload_n 0, 1) := ge_aload_n_0 (by decide +kernel)
theorem d_L_law_1164 : decode code 1164 = .ok (.iload_n 3, 1) := ge_iload_n_3 (by decide +kernel)
theorem d_L_law_1165 : decode code 1165 = .ok (.iconst 1, 1) := ge_iconst_1 (by decide +kernel)
theorem d_L_law_1166 : decode code 1166 = .ok (.iadd, 1) := ge_iadd (by decide +kernel)
theorem d_L_law_1167 : decode code 1167 = .ok (.iaload, 1) := ge_iaload (by decide +kernel)
theorem d_L_law_1168 : decode code 1168 = .ok (.invokevirtual 150, 3) := ge_invokevirtual (by decide +kernel)
theorem d_L_law_1171 : decode code 1171 = .ok (.pop, 1) := ge_pop (by decide +kernel)
theorem d_L_law_1172 : decode code 1172 = .ok (.goto 85, 3) := ge_goto (by decide +kernel)
theorem d_L_law_1175 : decode code 1175 = .ok (.aload_n 1, 1) := ge_aload_n_1 (by decide +kernel)
theorem d_L_law_1176 : decode code 1176 = .ok (.aload_n 0, 1) := ge_aload_n_0 (by decide +kernel)
theorem d_L_law_1177 : decode code 1177 = .ok (.iload_n 3, 1) := ge_iload_n_3 (by decide +kernel)
theorem d_L_law_1178 : decode code 1178 = .ok (.iconst 1, 1) := ge_iconst_1 (by decide +kernel)
theorem d_L_law_1179 : decode code 1179 = .ok (.iadd, 1) := ge_iadd (by decide +kernel)
theorem d_L_law_1180 : decode code 1180 = .ok (.iaload, 1) := ge_iaload (by decide +kernel)
theorem d_L_law_1181 : decode code 1181 = .ok (.aload_n 0, 1) := ge_aload_n_0 (by decide +kernel)
theorem d_L_law_1182 : decode code 1182 = .ok (.iload_n 3, 1) := ge_iload_n_3 (by decide +kernel)
theorem d_L_law_1183 : decode code 1183 = .ok (.iconst 2, 1) := ge_iconst_2 (by decide +kernel)
theorem d_L_law_1184 : decode code 1184 = .ok (.iadd, 1) := ge_iadd (by decide +kernel)
theorem d_L_law_1185 : decode code 1185 = .ok (.iaload, 1) := ge_iaload (by decide +kernel)
theorem d_L_law_1186 : decode code 1186 = .ok (.invokevirtual 151, 3) := ge_invokevirtual (by decide +kernel)
theorem d_L_law_1189 : decode code 1189 = .ok (.pop, 1) := ge_pop (by decide +kernel)
theorem d_L_law_1190 : decode code 1190 = .ok (.aload_n 2, 1) := ge_aload_n_2 (by decide +kernel)
theorem d_L_law_1191 : decode code 1191 = .ok (.aload_n 0, 1) := ge_aload_n_0 (by decide +kernel)
theorem d_L_law_1192 : decode code 1192 = .ok (.iload_n 3, 1) := ge_iload_n_3 (by decide +kernel)
theorem d_L_law_1193 : decode code 1193 = .ok (.iconst 1, 1) := ge_iconst_1 (by decide +kernel)
theorem d_L_law_1194 : decode code 1194 = .ok (.iadd, 1) := ge_iadd (by decide +kernel)
theorem d_L_law_1195 : decode code 1195 = .ok (.iaload, 1) := ge_iaload (by decide +kernel)
theorem d_L_law_1196 : decode code 1196 = .ok (.aload_n 0, 1) := ge_aload_n_0 (by decide +kernel)
theorem d_L_law_1197 : decode code 1197 = .ok (.iload_n 3, 1) := ge_iload_n_3 (by decide +kernel)
theorem d_L_law_1198 : decode code 1198 = .ok (.iconst 2, 1) := ge_iconst_2 (by decide +kernel)
theorem d_L_law_1199 : decode code 1199 = .ok (.iadd, 1) := ge_iadd (by decide +kernel)
theorem d_L_law_1200 : decode code 1200 = .ok (.iaload, 1) := ge_iaload (by decide +kernel)
theorem d_L_law_1201 : decode code 1201 = .ok (.invokevirtual 154, 3) := ge_invokevirtual (by decide +kernel)
theorem d_L_law_1204 : decode code 1204 = .ok (.pop, 1) := ge_pop (by decide +kernel)
theorem d_L_law_1205 : decode code 1205 = .ok (.goto 52, 3) := ge_goto (by decide +kernel)
theorem d_L_law_1208 : decode code 1208 = .ok (.aload_n 1, 1) := ge_aload_n_1 (by decide +kernel)
theorem d_L_law_1209 : decode code 1209 = .ok (.invokevirtual 155, 3) := ge_invokevirtual (by decide +kernel)
theorem d_L_law_1212 : decode code 1212 = .ok (.pop, 1) := ge_pop (by decide +kernel)
theorem d_L_law_1213 : decode code 1213 = .ok (.aload_n 2, 1) := ge_aload_n_2 (by decide +kernel)
theorem d_L_law_1214 : decode code 1214 = .ok (.invokevirtual 158, 3) := ge_invokevirtual (by decide +kernel)
theorem d_L_law_1217 : decode code 1217 = .ok (.pop, 1) := ge_pop (by decide +kernel)
theorem d_L_law_1218 : decode code 1218 = .ok (.goto 39, 3) := ge_goto (by decide +kernel)
theorem d_L_law_1221 : decode code 1221 = .ok (.aload_n 1, 1) := ge_aload_n_1 (by decide +kernel)
theorem d_L_law_1222 : decode code 1222 = .ok (.invokevirtual 159, 3) := ge_invokevirtual (by decide +kernel)
theorem d_L_law_1225 : decode code 1225 = .ok (.aload_n 2, 1) := ge_aload_n_2 (by decide +kernel)
theorem d_L_law_1226 : decode code 1226 = .ok (.invokevirtual 162, 3) := ge_invokevirtual (by decide +kernel)
theorem d_L_law_1229 : decode code 1229 = .ok (.if_icmp .eq 28, 3) := ge_if_icmp_eq (by decide +kernel)
theorem d_L_law_1232 : decode code 1232 = .ok (.iconst 0, 1) := ge_iconst_0 (by decide +kernel)
theorem d_L_law_1233 : decode code 1233 = .ok (.ireturn, 1) := ge_ireturn (by decide +kernel)
theorem d_L_law_1234 : decode code 1234 = .ok (.aload_n 1, 1) := ge_aload_n_1 (by decide +kernel)
theorem d_L_law_1235 : decode code 1235 = .ok (.aload_n 0, 1) := ge_aload_n_0 (by decide +kernel)
theorem d_L_law_1236 : decode code 1236 = .ok (.iload_n 3, 1) := ge_iload_n_3 (by decide +kernel)
theorem d_L_law_1237 : decode code 1237 = .ok (.iconst 1, 1) := ge_iconst_1 (by decide +kernel)
theorem d_L_law_1238 : decode code 1238 = .ok (.iadd, 1) := ge_iadd (by decide +kernel)
theorem d_L_law_1239 : decode code 1239 = .ok (.iaload, 1) := ge_iaload (by decide +kernel)
theorem d_L_law_1240 : decode code 1240 = .ok (.invokevirtual 163, 3) := ge_invokevirtual (by decide +kernel)
theorem d_L_law_1243 : decode code 1243 = .ok (.pop, 1) := ge_pop (by decide +kernel)
theorem d_L_law_1244 : decode code 1244 = .ok (.aload_n 2, 1) := ge_aload_n_2 (by decide +kernel)
theorem d_L_law_1245 : decode code 1245 = .ok (.aload_n 0, 1) := ge_aload_n_0 (by decide +kernel)
theorem d_L_law_1246 : decode code 1246 = .ok (.iload_n 3, 1) := ge_iload_n_3 (by decide +kernel)
theorem d_L_law_1247 : decode code 1247 = .ok (.iconst 1, 1) := ge_iconst_1 (by decide +kernel)
theorem d_L_law_1248 : decode code 1248 = .ok (.iadd, 1) := ge_iadd (by decide +kernel)
theorem d_L_law_1249 : decode code 1249 = .ok (.iaload, 1) := ge_iaload (by decide +kernel)
theorem d_L_law_1250 : decode code 1250 = .ok (.invokevirtual 166, 3) := ge_invokevirtual (by decide +kernel)
theorem d_L_law_1253 : decode code 1253 = .ok (.pop, 1) := ge_pop (by decide +kernel)
theorem d_L_law_1254 : decode code 1254 = .ok (.goto 3, 3) := ge_goto (by decide +kernel)
theorem d_L_law_1257 : decode code 1257 = .ok (.iinc 3 4, 3) := ge_iinc (by decide +kernel)
theorem d_L_law_1260 : decode code 1260 = .ok (.goto (-1242), 3) := ge_goto (by decide +kernel)
theorem d_L_law_1263 : decode code 1263 = .ok (.iconst 1, 1) := ge_iconst_1 (by decide +kernel)
theorem d_L_law_1264 : decode code 1264 = .ok (.ireturn, 1) := ge_ireturn (by decide +kernel)
def f_law (xs : Nat → Int32) (N : Nat) (μ : gm_M) : Option (Option Value × gm_M) := gm_mk μ 16 10 (fun q1 m2 => if gm_tag m2 q1 ≠ 0 then gm_bV (f_X11_init q1 m2) (fun m3 => gm_mk m3 17 23 (fun q5 m6 => if gm_tag m6 q5 ≠ 0 then gm_bV (f_X12_init q5 m6) (fun m7 => gm_loop (fun (s9 : Int32 × gm_M) => if ¬ s9.1 < 0 ∧ Int32.toNatClampNeg s9.1 ≤ 4096 then if ((Int32.ofNat N) - (4 : Int32)) < s9.1 then if (1 : Int32) = 0 ∨ (1 : Int32) = 1 then some (Sum.inr (some (.int (1 : Int32)), s9.2)) else none else gm_xl xs N s9.1 (fun y10 => gm_j (fun (s11 : gm_M) => some (Sum.inl ((s9.1 + (4 : Int32)), s11))) (fun j12 => if (y10 &&& (63 : Int32)) = 0 then gm_xl xs N (s9.1 + (1 : Int32)) (fun y13 => if gm_tag s9.2 q1 = 16 then gm_bI (f_X11_feed q1 y13 s9.2) (fun x15 m14 => gm_xl xs N (s9.1 + (1 : Int32)) (fun y16 => if gm_tag m14 q5 = 17 then gm_bI (f_X12_feed q5 y16 m14) (fun x18 m17 => j12 m17) else none)) else none) else if (y10 &&& (63 : Int32)) = 1 then if gm_tag s9.2 q1 = 16 then gm_bI (f_X11_afternoon q1 s9.2) (fun x20 m19 => if gm_tag m19 q5 = 17 then gm_bI (f_X12_afternoon q5 m19) (fun x22 m21 => j12 m21) else none) else none else if (y10 &&& (63 : Int32)) = 2 then gm_xl xs N (s9.1 + (1 : Int32)) (fun y23 => gm_xl xs N (s9.1 + (2 : Int32)) (fun y24 => if gm_tag s9.2 q1 = 16 then gm_bI (f_X11_child q1 y23 y24 s9.2) (fun x26 m25 => gm_xl xs N (s9.1 + (1 : Int32)) (fun y27 => gm_xl xs N (s9.1 + (2 : Int32)) (fun y28 => if gm_tag m25 q5 = 17 then gm_bI (f_X12_child q5 y27 y28 m25) (fun x30 m29 => j12 m29) else none))) else none)) else if (y10 &&& (63 : Int32)) = 3 then gm_xl xs N (s9.1 + (1 : Int32)) (fun y31 => gm_xl xs N (s9.1 + (2 : Int32)) (fun y32 => if gm_tag s9.2 q1 = 16 then gm_bI (f_X11_of q1 y31 y32 s9.2) (fun x34 m33 => gm_xl xs N (s9.1 + (1 : Int32)) (fun y35 => gm_xl xs N (s9.1 + (2 : Int32)) (fun y36 => if gm_tag m33 q5 = 17 then gm_bI (f_X12_of q5 y35 y36 m33) (fun x38 m37 => j12 m37) else none))) else none)) else if (y10 &&& (63 : Int32)) = 4 then gm_xl xs N (s9.1 + (1 : Int32)) (fun y39 => gm_xl xs N (s9.1 + (2 : Int32)) (fun y40 => gm_xl xs N (s9.1 + (3 : Int32)) (fun y41 => if gm_tag s9.2 q1 = 16 then gm_bI (f_X11_row q1 y39 y40 y41 s9.2) (fun x43 m42 => gm_xl xs N (s9.1 + (1 : Int32)) (fun y44 => gm_xl xs N (s9.1 + (2 : Int32)) (fun y45 => gm_xl xs N (s9.1 + (3 : Int32)) (fun y46 => if gm_tag m42 q5 = 17 then gm_bI (f_X12_row q5 y44 y45 y46 m42) (fun x48 m47 => j12 m47) else none)))) else none))) else if (y10 &&& (63 : Int32)) = 5 then gm_xl xs N (s9.1 + (1 : Int32)) (fun y49 => gm_xl xs N (s9.1 + (2 : Int32)) (fun y50 => gm_xl xs N (s9.1 + (3 : Int32)) (fun y51 => if gm_tag s9.2 q1 = 16 then gm_bI (f_X11_set q1 y49 y50 y51 s9.2) (fun x53 m52 => gm_xl xs N (s9.1 + (1 : Int32)) (fun y54 => gm_xl xs N (s9.1 + (2 : Int32)) (fun y55 => gm_xl xs N (s9.1 + (3 : Int32)) (fun y56 => if gm_tag m52 q5 = 17 then gm_bI (f_X12_set q5 y54 y55 y56 m52) (fun x58 m57 => j12 m57) else none)))) else none))) else if (y10 &&& (63 : Int32)) = 6 then gm_xl xs N (s9.1 + (1 : Int32)) (fun y59 => if gm_tag s9.2 q1 = 16 then gm_bI (f_X11_told q1 y59 s9.2) (fun x61 m60 => gm_xl xs N (s9.1 + (1 : Int32)) (fun y62 => if gm_tag m60 q5 = 17 then gm_bI (f_X12_told q5 y62 m60) (fun x64 m63 => j12 m63) else none)) else none) else if (y10 &&& (63 : Int32)) = 7 then gm_xl xs N (s9.1 + (1 : Int32)) (fun y65 => gm_xl xs N (s9.1 + (2 : Int32)) (fun y66 => if gm_tag s9.2 q1 = 16 then gm_bI (f_X11_blow q1 y65 y66 s9.2) (fun x68 m67 => gm_xl xs N (s9.1 + (1 : Int32)) (fun y69 => gm_xl xs N (s9.1 + (2 : Int32)) (fun y70 => if gm_tag m67 q5 = 17 then gm_bI (f_X12_blow q5 y69 y70 m67) (fun x72 m71 => j12 m71) else none))) else none)) else if (y10 &&& (63 : Int32)) = 8 then gm_xl xs N (s9.1 + (1 : Int32)) (fun y73 => if gm_tag s9.2 q1 = 16 then gm_bI (f_X11_pass q1 y73 s9.2) (fun x75 m74 => gm_xl xs N (s9.1 + (1 : Int32)) (fun y76 => if gm_tag m74 q5 = 17 then gm_bI (f_X12_pass q5 y76 m74) (fun x78 m77 => j12 m77) else none)) else none) else if (y10 &&& (63 : Int32)) = 9 then gm_xl xs N (s9.1 + (1 : Int32)) (fun y79 => gm_xl xs N (s9.1 + (2 : Int32)) (fun y80 => if gm_tag s9.2 q1 = 16 then gm_bI (f_X11_on q1 y79 y80 s9.2) (fun x82 m81 => gm_xl xs N (s9.1 + (1 : Int32)) (fun y83 => gm_xl xs N (s9.1 + (2 : Int32)) (fun y84 => if gm_tag m81 q5 = 17 then gm_bI (f_X12_on q5 y83 y84 m81) (fun x86 m85 => j12 m85) else none))) else none)) else if (y10 &&& (63 : Int32)) = 10 then gm_xl xs N (s9.1 + (1 : Int32)) (fun y87 => gm_xl xs N (s9.1 + (2 : Int32)) (fun y88 => if gm_tag s9.2 q1 = 16 then gm_bI (f_X11_when q1 y87 y88 s9.2) (fun x90 m89 => gm_xl xs N (s9.1 + (1 : Int32)) (fun y91 => gm_xl xs N (s9.1 + (2 : Int32)) (fun y92 => if gm_tag m89 q5 = 17 then gm_bI (f_X12_when q5 y91 y92 m89) (fun x94 m93 => j12 m93) else none))) else none)) else if (y10 &&& (63 : Int32)) = 11 then gm_xl xs N (s9.1 + (1 : Int32)) (fun y95 => gm_xl xs N (s9.1 + (2 : Int32)) (fun y96 => if gm_tag s9.2 q1 = 16 then gm_bI (f_X11_soon q1 y95 y96 s9.2) (fun x98 m97 => gm_xl xs N (s9.1 + (1 : Int32)) (fun y99 => gm_xl xs N (s9.1 + (2 : Int32)) (fun y100 => if gm_tag m97 q5 = 17 then gm_bI (f_X12_soon q5 y99 y100 m97) (fun x102 m101 => j12 m101) else none))) else none)) else if (y10 &&& (63 : Int32)) = 12 then gm_xl xs N (s9.1 + (1 : Int32)) (fun y103 => gm_xl xs N (s9.1 + (2 : Int32)) (fun y104 => if gm_tag s9.2 q1 = 16 then gm_bI (f_X11_pieces q1 y103 y104 s9.2) (fun x106 m105 => gm_xl xs N (s9.1 + (1 : Int32)) (fun y107 => gm_xl xs N (s9.1 + (2 : Int32)) (fun y108 => if gm_tag m105 q5 = 17 then gm_bI (f_X12_pieces q5 y107 y108 m105) (fun x110 m109 => j12 m109) else none))) else none)) else if (y10 &&& (63 : Int32)) = 13 then gm_xl xs N (s9.1 + (1 : Int32)) (fun y111 => gm_xl xs N (s9.1 + (2 : Int32)) (fun y112 => if gm_tag s9.2 q1 = 16 then gm_bI (f_X11_breaths q1 y111 y112 s9.2) (fun x114 m113 => gm_xl xs N (s9.1 + (1 : Int32)) (fun y115 => gm_xl xs N (s9.1 + (2 : Int32)) (fun y116 => if gm_tag m113 q5 = 17 then gm_bI (f_X12_breaths q5 y115 y116 m113) (fun x118 m117 => j12 m117) else none))) else none)) else if (y10 &&& (63 : Int32)) = 14 then gm_xl xs N (s9.1 + (1 : Int32)) (fun y119 => if gm_tag s9.2 q1 = 16 then gm_bI (f_X11_slack q1 y119 s9.2) (fun x121 m120 => gm_xl xs N (s9.1 + (1 : Int32)) (fun y122 => if gm_tag m120 q5 = 17 then gm_bI (f_X12_slack q5 y122 m120) (fun x124 m123 => j12 m123) else none)) else none) else if (y10 &&& (63 : Int32)) = 15 then gm_xl xs N (s9.1 + (1 : Int32)) (fun y125 => gm_xl xs N (s9.1 + (2 : Int32)) (fun y126 => gm_xl xs N (s9.1 + (3 : Int32)) (fun y127 => if gm_tag s9.2 q1 = 16 then gm_bL (f_X11_likely q1 y125 y126 y127 s9.2) (fun x129 m128 => gm_xl xs N (s9.1 + (1 : Int32)) (fun y130 => gm_xl xs N (s9.1 + (2 : Int32)) (fun y131 => gm_xl xs N (s9.1 + (3 : Int32)) (fun y132 => if gm_tag m128 q5 = 17 then gm_bL (f_X12_likely q5 y130 y131 y132 m128) (fun x134 m133 => j12 m133) else none)))) else none))) else if (y10 &&& (63 : Int32)) = 16 then gm_xl xs N (s9.1 + (1 : Int32)) (fun y135 => if gm_tag s9.2 q1 = 16 then gm_bI (f_X11_dare q1 y135 s9.2) (fun x137 m136 => gm_xl xs N (s9.1 + (1 : Int32)) (fun y138 => if gm_tag m136 q5 = 17 then gm_bI (f_X12_dare q5 y138 m136) (fun x140 m139 => j12 m139) else none)) else none) else if (y10 &&& (63 : Int32)) = 17 then if gm_tag s9.2 q1 = 16 then gm_bI (f_X11_first q1 s9.2) (fun x142 m141 => if gm_tag m141 q5 = 17 then gm_bI (f_X12_first q5 m141) (fun x144 m143 => j12 m143) else none) else none else if (y10 &&& (63 : Int32)) = 18 then gm_xl xs N (s9.1 + (1 : Int32)) (fun y145 => gm_xl xs N (s9.1 + (2 : Int32)) (fun y146 => gm_xl xs N (s9.1 + (3 : Int32)) (fun y147 => if gm_tag s9.2 q1 = 16 then gm_bL (f_X11_beats q1 y145 y146 y147 s9.2) (fun x149 m148 => gm_xl xs N (s9.1 + (1 : Int32)) (fun y150 => gm_xl xs N (s9.1 + (2 : Int32)) (fun y151 => gm_xl xs N (s9.1 + (3 : Int32)) (fun y152 => if gm_tag m148 q5 = 17 then gm_bL (f_X12_beats q5 y150 y151 y152 m148) (fun x154 m153 => j12 m153) else none)))) else none))) else if (y10 &&& (63 : Int32)) = 19 then if gm_tag s9.2 q1 = 16 then gm_bI (f_X11_swap q1 s9.2) (fun x156 m155 => if gm_tag m155 q5 = 17 then gm_bI (f_X12_swap q5 m155) (fun x158 m157 => j12 m157) else none) else none else if (y10 &&& (63 : Int32)) = 20 then gm_xl xs N (s9.1 + (1 : Int32)) (fun y159 => if gm_tag s9.2 q1 = 16 then gm_bI (f_X11_order q1 y159 s9.2) (fun x161 m160 => gm_xl xs N (s9.1 + (1 : Int32)) (fun y162 => if gm_tag m160 q5 = 17 then gm_bI (f_X12_order q5 y162 m160) (fun x164 m163 => j12 m163) else none)) else none) else if (y10 &&& (63 : Int32)) = 21 then gm_xl xs N (s9.1 + (1 : Int32)) (fun y165 => gm_xl xs N (s9.1 + (2 : Int32)) (fun y166 => if gm_tag s9.2 q1 = 16 then gm_bI (f_X11_clean q1 y165 y166 s9.2) (fun x168 m167 => gm_xl xs N (s9.1 + (1 : Int32)) (fun y169 => gm_xl xs N (s9.1 + (2 : Int32)) (fun y170 => if gm_tag m167 q5 = 17 then gm_bI (f_X12_clean q5 y169 y170 m167) (fun x172 m171 => j12 m171) else none))) else none)) else if (y10 &&& (63 : Int32)) = 22 then gm_xl xs N (s9.1 + (1 : Int32)) (fun y173 => gm_xl xs N (s9.1 + (2 : Int32)) (fun y174 => gm_xl xs N (s9.1 + (3 : Int32)) (fun y175 => if gm_tag s9.2 q1 = 16 then gm_bI (f_X11_see q1 y173 y174 y175 s9.2) (fun x177 m176 => gm_xl xs N (s9.1 + (1 : Int32)) (fun y178 => gm_xl xs N (s9.1 + (2 : Int32)) (fun y179 => gm_xl xs N (s9.1 + (3 : Int32)) (fun y180 => if gm_tag m176 q5 = 17 then gm_bI (f_X12_see q5 y178 y179 y180 m176) (fun x182 m181 => j12 m181) else none)))) else none))) else if (y10 &&& (63 : Int32)) = 23 then gm_xl xs N (s9.1 + (1 : Int32)) (fun y183 => gm_xl xs N (s9.1 + (2 : Int32)) (fun y184 => if gm_tag s9.2 q1 = 16 then gm_bI (f_X11_who q1 y183 y184 s9.2) (fun x186 m185 => gm_xl xs N (s9.1 + (1 : Int32)) (fun y187 => gm_xl xs N (s9.1 + (2 : Int32)) (fun y188 => if gm_tag m185 q5 = 17 then gm_bI (f_X12_who q5 y187 y188 m185) (fun x190 m189 => j12 m189) else none))) else none)) else if (y10 &&& (63 : Int32)) = 24 then gm_xl xs N (s9.1 + (1 : Int32)) (fun y191 => gm_xl xs N (s9.1 + (2 : Int32)) (fun y192 => if gm_tag s9.2 q1 = 16 then gm_bI (f_X11_firm q1 y191 y192 s9.2) (fun x194 m193 => gm_xl xs N (s9.1 + (1 : Int32)) (fun y195 => gm_xl xs N (s9.1 + (2 : Int32)) (fun y196 => if gm_tag m193 q5 = 17 then gm_bI (f_X12_firm q5 y195 y196 m193) (fun x198 m197 => j12 m197) else none))) else none)) else if (y10 &&& (63 : Int32)) = 25 then gm_xl xs N (s9.1 + (1 : Int32)) (fun y199 => if gm_tag s9.2 q1 = 16 then gm_bI (f_X11_had q1 y199 s9.2) (fun x201 m200 => gm_xl xs N (s9.1 + (1 : Int32)) (fun y202 => if gm_tag m200 q5 = 17 then gm_bI (f_X12_had q5 y202 m200) (fun x204 m203 => j12 m203) else none)) else none) else if (y10 &&& (63 : Int32)) = 26 then gm_xl xs N (s9.1 + (1 : Int32)) (fun y205 => gm_xl xs N (s9.1 + (2 : Int32)) (fun y206 => if gm_tag s9.2 q1 = 16 then gm_bL (f_X11_mean q1 y205 y206 s9.2) (fun x208 m207 => gm_xl xs N (s9.1 + (1 : Int32)) (fun y209 => gm_xl xs N (s9.1 + (2 : Int32)) (fun y210 => if gm_tag m207 q5 = 17 then gm_bL (f_X12_mean q5 y209 y210 m207) (fun x212 m211 => j12 m211) else none))) else none)) else if (y10 &&& (63 : Int32)) = 27 then gm_xl xs N (s9.1 + (1 : Int32)) (fun y213 => gm_xl xs N (s9.1 + (2 : Int32)) (fun y214 => if gm_tag s9.2 q1 = 16 then gm_bI (f_X11_plan q1 y213 y214 s9.2) (fun x216 m215 => gm_xl xs N (s9.1 + (1 : Int32)) (fun y217 => gm_xl xs N (s9.1 + (2 : Int32)) (fun y218 => if gm_tag m215 q5 = 17 then gm_bI (f_X12_plan q5 y217 y218 m215) (fun x220 m219 => j12 m219) else none))) else none)) else if (y10 &&& (63 : Int32)) = 28 then gm_xl xs N (s9.1 + (1 : Int32)) (fun y221 => if gm_tag s9.2 q1 = 16 then gm_bI (f_X11_done q1 y221 s9.2) (fun x223 m222 => gm_xl xs N (s9.1 + (1 : Int32)) (fun y224 => if gm_tag m222 q5 = 17 then gm_bI (f_X12_done q5 y224 m222) (fun x226 m225 => j12 m225) else none)) else none) else if (y10 &&& (63 : Int32)) = 29 then gm_xl xs N (s9.1 + (1 : Int32)) (fun y227 => gm_xl xs N (s9.1 + (2 : Int32)) (fun y228 => if gm_tag s9.2 q1 = 16 then gm_bI (f_X11_book q1 y227 y228 s9.2) (fun x230 m229 => gm_xl xs N (s9.1 + (1 : Int32)) (fun y231 => gm_xl xs N (s9.1 + (2 : Int32)) (fun y232 => if gm_tag m229 q5 = 17 then gm_bI (f_X12_book q5 y231 y232 m229) (fun x234 m233 => j12 m233) else none))) else none)) else if (y10 &&& (63 : Int32)) = 30 then if gm_tag s9.2 q1 = 16 then gm_bI (f_X11_looked q1 s9.2) (fun x236 m235 => if gm_tag m235 q5 = 17 then gm_bI (f_X12_looked q5 m235) (fun x238 m237 => j12 m237) else none) else none else if (y10 &&& (63 : Int32)) = 31 then gm_xl xs N (s9.1 + (1 : Int32)) (fun y239 => gm_xl xs N (s9.1 + (2 : Int32)) (fun y240 => gm_xl xs N (s9.1 + (3 : Int32)) (fun y241 => if gm_tag s9.2 q1 = 16 then gm_bI (f_X11_act q1 y239 y240 y241 s9.2) (fun x243 m242 => gm_xl xs N (s9.1 + (1 : Int32)) (fun y244 => gm_xl xs N (s9.1 + (2 : Int32)) (fun y245 => gm_xl xs N (s9.1 + (3 : Int32)) (fun y246 => if gm_tag m242 q5 = 17 then gm_bI (f_X12_act q5 y244 y245 y246 m242) (fun x248 m247 => j12 m247) else none)))) else none))) else if (y10 &&& (63 : Int32)) = 32 then gm_xl xs N (s9.1 + (1 : Int32)) (fun y249 => if gm_tag s9.2 q1 = 16 then gm_bI (f_X11_trace q1 y249 s9.2) (fun x251 m250 => gm_xl xs N (s9.1 + (1 : Int32)) (fun y252 => if gm_tag m250 q5 = 17 then gm_bI (f_X12_trace q5 y252 m250) (fun x254 m253 => j12 m253) else none)) else none) else if (y10 &&& (63 : Int32)) = 33 then gm_xl xs N (s9.1 + (1 : Int32)) (fun y255 => gm_xl xs N (s9.1 + (2 : Int32)) (fun y256 => if gm_tag s9.2 q1 = 16 then gm_bI (f_X11_as q1 y255 y256 s9.2) (fun x258 m257 => gm_xl xs N (s9.1 + (1 : Int32)) (fun y259 => gm_xl xs N (s9.1 + (2 : Int32)) (fun y260 => if gm_tag m257 q5 = 17 then gm_bI (f_X12_as q5 y259 y260 m257) (fun x262 m261 => j12 m261) else none))) else none)) else if (y10 &&& (63 : Int32)) = 34 then if gm_tag s9.2 q1 = 16 then gm_bI (f_X11_image q1 s9.2) (fun x264 m263 => if gm_tag m263 q5 = 17 then gm_bI (f_X12_image q5 m263) (fun x266 m265 => j12 m265) else none) else none else if (y10 &&& (63 : Int32)) = 35 then if gm_tag s9.2 q1 = 16 then gm_bI (f_X11_undo q1 s9.2) (fun x268 m267 => if gm_tag m267 q5 = 17 then gm_bI (f_X12_undo q5 m267) (fun x270 m269 => if x268 = x270 then j12 m269 else if (0 : Int32) = 0 ∨ (0 : Int32) = 1 then some (Sum.inr (some (.int (0 : Int32)), m269)) else none) else none) else none else if (y10 &&& (63 : Int32)) = 36 then gm_xl xs N (s9.1 + (1 : Int32)) (fun y271 => if gm_tag s9.2 q1 = 16 then gm_bI (f_X11_count q1 y271 s9.2) (fun x273 m272 => gm_xl xs N (s9.1 + (1 : Int32)) (fun y274 => if gm_tag m272 q5 = 17 then gm_bI (f_X12_count q5 y274 m272) (fun x276 m275 => j12 m275) else none)) else none) else j12 s9.2)) else none) 5000 ((0 : Int32), m7)) else none)) else none)
set_option maxHeartbeats 4000000 in
theorem cl_0 {nm0 : String} {a N : Nat} {xs : Nat → Int32} {res : Option Value} {μe : gm_M} {q1 q5 : Nat} {s9 : Int32 × gm_M} {G : Int32 × gm_M → Prop} (hg : ¬ s9.1 < 0 ∧ Int32.toNatClampNeg s9.1 ≤ 4096) {j12 : gm_M → Option ((Int32 × gm_M) ⊕ (Option Value × gm_M))}
    (hj12 : ∀ s : gm_M, gm_A "GumBubbleLaw" (nm0, gm_sx a N xs) code 4 (some .boolean) room_1 res μe (200 + 5 * s9.1.toNatClampNeg + 5) (8000 + 140 * s9.1.toNatClampNeg + 140) s 1257 [(0, .float 0), (1, .ref q1), (2, .ref q5), (3, .int s9.1)] [] (j12 s) (gm_kl G (fun b => b = (res, μe)))) :
    gm_A "GumBubbleLaw" (nm0, gm_sx a N xs) code 4 (some .boolean) room_1 res μe (200 + 5 * s9.1.toNatClampNeg) (8000 + 140 * s9.1.toNatClampNeg) s9.2 196 [(0, .float 0), (1, .ref q1), (2, .ref q5), (3, .int s9.1)] []
      (gm_xl xs N (s9.1 + (1 : Int32)) (fun y13 => if gm_tag s9.2 q1 = 16 then gm_bI (f_X11_feed q1 y13 s9.2) (fun x15 m14 => gm_xl xs N (s9.1 + (1 : Int32)) (fun y16 => if gm_tag m14 q5 = 17 then gm_bI (f_X12_feed q5 y16 m14) (fun x18 m17 => j12 m17) else none)) else none)) (gm_kl G (fun b => b = (res, μe))) := by
  refine gm_aload_n d_L_law_196 rfl 1 rfl ?_
  refine gm_aloadS d_L_law_197 rfl 0 rfl ?_
  refine gm_iload_n d_L_law_198 rfl 3 rfl ?_
  refine gm_iconst (v := 1) d_L_law_199 (by decide) ?_
  refine gm_iadd d_L_law_200 ?_
  refine gm_sldN d_L_law_201 rfl (fun y13 _ => ?_)
  refine gm_grd (fun g202 => ?_)
  refine gm_callV (k0 := 11) [.int y13] (c_X11_feed q1 y13 s9.2) g202 rfl B_X11_feed gw_292 gw_294 (gm_hit2 (Nat.le_of_ble_eq_true rfl) (Nat.le_of_ble_eq_true rfl) (by show _ ≤ 600000; omega) (by show _ ≤ 7302250; omega)) rfl rfl d_L_law_202 (gm_kI (fun x15 m14 => ?_))
  refine gm_pop d_L_law_205 rfl ?_
  refine gm_aload_n d_L_law_206 rfl 2 rfl ?_
  refine gm_aloadS d_L_law_207 rfl 0 rfl ?_
  refine gm_iload_n d_L_law_208 rfl 3 rfl ?_
  refine gm_iconst (v := 1) d_L_law_209 (by decide) ?_
  refine gm_iadd d_L_law_210 ?_
  refine gm_sldN d_L_law_211 rfl (fun y16 _ => ?_)
  refine gm_grd (fun g212 => ?_)
  refine gm_callV (k0 := 12) [.int y16] (c_X12_feed q5 y16 m14) g212 rfl B_X12_feed gw_960 gw_962 (gm_hit2 (Nat.le_of_ble_eq_true rfl) (Nat.le_of_ble_eq_true rfl) (by show _ ≤ 600000; omega) (by show _ ≤ 7302250; omega)) rfl rfl d_L_law_212 (gm_kI (fun x18 m17 => ?_))
  refine gm_pop d_L_law_215 rfl ?_
  refine gm_goto (tgt := 1257) d_L_law_216 (by decide) ?_
  refine gm_widen (k' := 200 + 5 * s9.1.toNatClampNeg + 5) (n' := 8000 + 140 * s9.1.toNatClampNeg + 140) (by omega) (by omega) ?_
  exact hj12 m17
set_option maxHeartbeats 4000000 in
theorem cl_1 {nm0 : String} {a N : Nat} {xs : Nat → Int32} {res : Option Value} {μe : gm_M} {q1 q5 : Nat} {s9 : Int32 × gm_M} {G : Int32 × gm_M → Prop} (hg : ¬ s9.1 < 0 ∧ Int32.toNatClampNeg s9.1 ≤ 4096) {j12 : gm_M → Option ((Int32 × gm_M) ⊕ (Option Value × gm_M))}
    (hj12 : ∀ s : gm_M, gm_A "GumBubbleLaw" (nm0, gm_sx a N xs) code 4 (some .boolean) room_1 res μe (200 + 5 * s9.1.toNatClampNeg + 5) (8000 + 140 * s9.1.toNatClampNeg + 140) s 1257 [(0, .float 0), (1, .ref q1), (2, .ref q5), (3, .int s9.1)] [] (j12 s) (gm_kl G (fun b => b = (res, μe)))) :
    gm_A "GumBubbleLaw" (nm0, gm_sx a N xs) code 4 (some .boolean) room_1 res μe (200 + 5 * s9.1.toNatClampNeg) (8000 + 140 * s9.1.toNatClampNeg) s9.2 219 [(0, .float 0), (1, .ref q1), (2, .ref q5), (3, .int s9.1)] []
      (if gm_tag s9.2 q1 = 16 then gm_bI (f_X11_afternoon q1 s9.2) (fun x20 m19 => if gm_tag m19 q5 = 17 then gm_bI (f_X12_afternoon q5 m19) (fun x22 m21 => j12 m21) else none) else none) (gm_kl G (fun b => b = (res, μe))) := by
  refine gm_aload_n d_L_law_219 rfl 1 rfl ?_
  refine gm_grd (fun g220 => ?_)
  refine gm_callV (k0 := 11) [] (c_X11_afternoon q1 s9.2) g220 rfl B_X11_afternoon gw_299 gw_301 (gm_hit2 (Nat.le_of_ble_eq_true rfl) (Nat.le_of_ble_eq_true rfl) (by show _ ≤ 600000; omega) (by show _ ≤ 7302250; omega)) rfl rfl d_L_law_220 (gm_kI (fun x20 m19 => ?_))
  refine gm_pop d_L_law_223 rfl ?_
  refine gm_aload_n d_L_law_224 rfl 2 rfl ?_
  refine gm_grd (fun g225 => ?_)
  refine gm_callV (k0 := 12) [] (c_X12_afternoon q5 m19) g225 rfl B_X12_afternoon gw_967 gw_969 (gm_hit2 (Nat.le_of_ble_eq_true rfl) (Nat.le_of_ble_eq_true rfl) (by show _ ≤ 600000; omega) (by show _ ≤ 7302250; omega)) rfl rfl d_L_law_225 (gm_kI (fun x22 m21 => ?_))
  refine gm_pop d_L_law_228 rfl ?_
  refine gm_goto (tgt := 1257) d_L_law_229 (by decide) ?_
  refine gm_widen (k' := 200 + 5 * s9.1.toNatClampNeg + 5) (n' := 8000 + 140 * s9.1.toNatClampNeg + 140) (by omega) (by omega) ?_
  exact hj12 m21
set_option maxHeartbeats 4000000 in
theorem cl_2 {nm0 : String} {a N : Nat} {xs : Nat → Int32} {res : Option Value} {μe : gm_M} {q1 q5 : Nat} {s9 : Int32 × gm_M} {G : Int32 × gm_M → Prop} (hg : ¬ s9.1 < 0 ∧ Int32.toNatClampNeg s9.1 ≤ 4096) {j12 : gm_M → Option ((Int32 × gm_M) ⊕ (Option Value × gm_M))}
    (hj12 : ∀ s : gm_M, gm_A "GumBubbleLaw" (nm0, gm_sx a N xs) code 4 (some .boolean) room_1 res μe (200 + 5 * s9.1.toNatClampNeg + 5) (8000 + 140 * s9.1.toNatClampNeg + 140) s 1257 [(0, .float 0), (1, .ref q1), (2, .ref q5), (3, .int s9.1)] [] (j12 s) (gm_kl G (fun b => b = (res, μe)))) :
    gm_A "GumBubbleLaw" (nm0, gm_sx a N xs) code 4 (some .boolean) room_1 res μe (200 + 5 * s9.1.toNatClampNeg) (8000 + 140 * s9.1.toNatClampNeg) s9.2 232 [(0, .float 0), (1, .ref q1), (2, .ref q5), (3, .int s9.1)] []
      (gm_xl xs N (s9.1 + (1 : Int32)) (fun y23 => gm_xl xs N (s9.1 + (2 : Int32)) (fun y24 => if gm_tag s9.2 q1 = 16 then gm_bI (f_X11_child q1 y23 y24 s9.2) (fun x26 m25 => gm_xl xs N (s9.1 + (1 : Int32)) (fun y27 => gm_xl xs N (s9.1 + (2 : Int32)) (fun y28 => if gm_tag m25 q5 = 17 then gm_bI (f_X12_child q5 y27 y28 m25) (fun x30 m29 => j12 m29) else none))) else none))) (gm_kl G (fun b => b = (res, μe))) := by
  refine gm_aload_n d_L_law_232 rfl 1 rfl ?_
  refine gm_aloadS d_L_law_233 rfl 0 rfl ?_
  refine gm_iload_n d_L_law_234 rfl 3 rfl ?_
  refine gm_iconst (v := 1) d_L_law_235 (by decide) ?_
  refine gm_iadd d_L_law_236 ?_
  refine gm_sldN d_L_law_237 rfl (fun y23 _ => ?_)
  refine gm_aloadS d_L_law_238 rfl 0 rfl ?_
  refine gm_iload_n d_L_law_239 rfl 3 rfl ?_
  refine gm_iconst (v := 2) d_L_law_240 (by decide) ?_
  refine gm_iadd d_L_law_241 ?_
  refine gm_sldN d_L_law_242 rfl (fun y24 _ => ?_)
  refine gm_grd (fun g243 => ?_)
  refine gm_callV (k0 := 11) [.int y23, .int y24] (c_X11_child q1 y23 y24 s9.2) g243 rfl B_X11_child gw_466 gw_468 (gm_hit2 (Nat.le_of_ble_eq_true rfl) (Nat.le_of_ble_eq_true rfl) (by show _ ≤ 600000; omega) (by show _ ≤ 7302250; omega)) rfl rfl d_L_law_243 (gm_kI (fun x26 m25 => ?_))
  refine gm_pop d_L_law_246 rfl ?_
  refine gm_aload_n d_L_law_247 rfl 2 rfl ?_
  refine gm_aloadS d_L_law_248 rfl 0 rfl ?_
  refine gm_iload_n d_L_law_249 rfl 3 rfl ?_
  refine gm_iconst (v := 1) d_L_law_250 (by decide) ?_
  refine gm_iadd d_L_law_251 ?_
  refine gm_sldN d_L_law_252 rfl (fun y27 _ => ?_)
  refine gm_aloadS d_L_law_253 rfl 0 rfl ?_
  refine gm_iload_n d_L_law_254 rfl 3 rfl ?_
  refine gm_iconst (v := 2) d_L_law_255 (by decide) ?_
  refine gm_iadd d_L_law_256 ?_
  refine gm_sldN d_L_law_257 rfl (fun y28 _ => ?_)
  refine gm_grd (fun g258 => ?_)
  refine gm_callV (k0 := 12) [.int y27, .int y28] (c_X12_child q5 y27 y28 m25) g258 rfl B_X12_child gw_1031 gw_1033 (gm_hit2 (Nat.le_of_ble_eq_true rfl) (Nat.le_of_ble_eq_true rfl) (by show _ ≤ 600000; omega) (by show _ ≤ 7302250; omega)) rfl rfl d_L_law_258 (gm_kI (fun x30 m29 => ?_))
  refine gm_pop d_L_law_261 rfl ?_
  refine gm_goto (tgt := 1257) d_L_law_262 (by decide) ?_
  refine gm_widen (k' := 200 + 5 * s9.1.toNatClampNeg + 5) (n' := 8000 + 140 * s9.1.toNatClampNeg + 140) (by omega) (by omega) ?_
  exact hj12 m29
set_option maxHeartbeats 4000000 in
theorem cl_3 {nm0 : String} {a N : Nat} {xs : Nat → Int32} {res : Option Value} {μe : gm_M} {q1 q5 : Nat} {s9 : Int32 × gm_M} {G : Int32 × gm_M → Prop} (hg : ¬ s9.1 < 0 ∧ Int32.toNatClampNeg s9.1 ≤ 4096) {j12 : gm_M → Option ((Int32 × gm_M) ⊕ (Option Value × gm_M))}
    (hj12 : ∀ s : gm_M, gm_A "GumBubbleLaw" (nm0, gm_sx a N xs) code 4 (some .boolean) room_1 res μe (200 + 5 * s9.1.toNatClampNeg + 5) (8000 + 140 * s9.1.toNatClampNeg + 140) s 1257 [(0, .float 0), (1, .ref q1), (2, .ref q5), (3, .int s9.1)] [] (j12 s) (gm_kl G (fun b => b = (res, μe)))) :
    gm_A "GumBubbleLaw" (nm0, gm_sx a N xs) code 4 (some .boolean) room_1 res μe (200 + 5 * s9.1.toNatClampNeg) (8000 + 140 * s9.1.toNatClampNeg) s9.2 265 [(0, .float 0), (1, .ref q1), (2, .ref q5), (3, .int s9.1)] []
      (gm_xl xs N (s9.1 + (1 : Int32)) (fun y31 => gm_xl xs N (s9.1 + (2 : Int32)) (fun y32 => if gm_tag s9.2 q1 = 16 then gm_bI (f_X11_of q1 y31 y32 s9.2) (fun x34 m33 => gm_xl xs N (s9.1 + (1 : Int32)) (fun y35 => gm_xl xs N (s9.1 + (2 : Int32)) (fun y36 => if gm_tag m33 q5 = 17 then gm_bI (f_X12_of q5 y35 y36 m33) (fun x38 m37 => j12 m37) else none))) else none))) (gm_kl G (fun b => b = (res, μe))) := by
  refine gm_aload_n d_L_law_265 rfl 1 rfl ?_
  refine gm_aloadS d_L_law_266 rfl 0 rfl ?_
  refine gm_iload_n d_L_law_267 rfl 3 rfl ?_
  refine gm_iconst (v := 1) d_L_law_268 (by decide) ?_
  refine gm_iadd d_L_law_269 ?_
  refine gm_sldN d_L_law_270 rfl (fun y31 _ => ?_)
  refine gm_aloadS d_L_law_271 rfl 0 rfl ?_
  refine gm_iload_n d_L_law_272 rfl 3 rfl ?_
  refine gm_iconst (v := 2) d_L_law_273 (by decide) ?_
  refine gm_iadd d_L_law_274 ?_
  refine gm_sldN d_L_law_275 rfl (fun y32 _ => ?_)
  refine gm_grd (fun g276 => ?_)
  refine gm_callV (k0 := 11) [.int y31, .int y32] (c_X11_of q1 y31 y32 s9.2) g276 rfl B_X11_of gw_474 gw_476 (gm_hit2 (Nat.le_of_ble_eq_true rfl) (Nat.le_of_ble_eq_true rfl) (by show _ ≤ 600000; omega) (by show _ ≤ 7302250; omega)) rfl rfl d_L_law_276 (gm_kI (fun x34 m33 => ?_))
  refine gm_pop d_L_law_279 rfl ?_
  refine gm_aload_n d_L_law_280 rfl 2 rfl ?_
  refine gm_aloadS d_L_law_281 rfl 0 rfl ?_
  refine gm_iload_n d_L_law_282 rfl 3 rfl ?_
  refine gm_iconst (v := 1) d_L_law_283 (by decide) ?_
  refine gm_iadd d_L_law_284 ?_
  refine gm_sldN d_L_law_285 rfl (fun y35 _ => ?_)
  refine gm_aloadS d_L_law_286 rfl 0 rfl ?_
  refine gm_iload_n d_L_law_287 rfl 3 rfl ?_
  refine gm_iconst (v := 2) d_L_law_288 (by decide) ?_
  refine gm_iadd d_L_law_289 ?_
  refine gm_sldN d_L_law_290 rfl (fun y36 _ => ?_)
  refine gm_grd (fun g291 => ?_)
  refine gm_callV (k0 := 12) [.int y35, .int y36] (c_X12_of q5 y35 y36 m33) g291 rfl B_X12_of gw_1043 gw_1045 (gm_hit2 (Nat.le_of_ble_eq_true rfl) (Nat.le_of_ble_eq_true rfl) (by show _ ≤ 600000; omega) (by show _ ≤ 7302250; omega)) rfl rfl d_L_law_291 (gm_kI (fun x38 m37 => ?_))
  refine gm_pop d_L_law_294 rfl ?_
  refine gm_goto (tgt := 1257) d_L_law_295 (by decide) ?_
  refine gm_widen (k' := 200 + 5 * s9.1.toNatClampNeg + 5) (n' := 8000 + 140 * s9.1.toNatClampNeg + 140) (by omega) (by omega) ?_
  exact hj12 m37
set_option maxHeartbeats 4000000 in
theorem cl_4 {nm0 : String} {a N : Nat} {xs : Nat → Int32} {res : Option Value} {μe : gm_M} {q1 q5 : Nat} {s9 : Int32 × gm_M} {G : Int32 × gm_M → Prop} (hg : ¬ s9.1 < 0 ∧ Int32.toNatClampNeg s9.1 ≤ 4096) {j12 : gm_M → Option ((Int32 × gm_M) ⊕ (Option Value × gm_M))}
    (hj12 : ∀ s : gm_M, gm_A "GumBubbleLaw" (nm0, gm_sx a N xs) code 4 (some .boolean) room_1 res μe (200 + 5 * s9.1.toNatClampNeg + 5) (8000 + 140 * s9.1.toNatClampNeg + 140) s 1257 [(0, .float 0), (1, .ref q1), (2, .ref q5), (3, .int s9.1)] [] (j12 s) (gm_kl G (fun b => b = (res, μe)))) :
    gm_A "GumBubbleLaw" (nm0, gm_sx a N xs) code 4 (some .boolean) room_1 res μe (200 + 5 * s9.1.toNatClampNeg) (8000 + 140 * s9.1.toNatClampNeg) s9.2 298 [(0, .float 0), (1, .ref q1), (2, .ref q5), (3, .int s9.1)] []
      (gm_xl xs N (s9.1 + (1 : Int32)) (fun y39 => gm_xl xs N (s9.1 + (2 : Int32)) (fun y40 => gm_xl xs N (s9.1 + (3 : Int32)) (fun y41 => if gm_tag s9.2 q1 = 16 then gm_bI (f_X11_row q1 y39 y40 y41 s9.2) (fun x43 m42 => gm_xl xs N (s9.1 + (1 : Int32)) (fun y44 => gm_xl xs N (s9.1 + (2 : Int32)) (fun y45 => gm_xl xs N (s9.1 + (3 : Int32)) (fun y46 => if gm_tag m42 q5 = 17 then gm_bI (f_X12_row q5 y44 y45 y46 m42) (fun x48 m47 => j12 m47) else none)))) else none)))) (gm_kl G (fun b => b = (res, μe))) := by
  refine gm_aload_n d_L_law_298 rfl 1 rfl ?_
  refine gm_aloadS d_L_law_299 rfl 0 rfl ?_
  refine gm_iload_n d_L_law_300 rfl 3 rfl ?_
  refine gm_iconst (v := 1) d_L_law_301 (by decide) ?_
  refine gm_iadd d_L_law_302 ?_
  refine gm_sldN d_L_law_303 rfl (fun y39 _ => ?_)
  refine gm_aloadS d_L_law_304 rfl 0 rfl ?_
  refine gm_iload_n d_L_law_305 rfl 3 rfl ?_
  refine gm_iconst (v := 2) d_L_law_306 (by decide) ?_
  refine gm_iadd d_L_law_307 ?_
  refine gm_sldN d_L_law_308 rfl (fun y40 _ => ?_)
  refine gm_aloadS d_L_law_309 rfl 0 rfl ?_
  refine gm_iload_n d_L_law_310 rfl 3 rfl ?_
  refine gm_iconst (v := 3) d_L_law_311 (by decide) ?_
  refine gm_iadd d_L_law_312 ?_
  refine gm_sldN d_L_law_313 rfl (fun y41 _ => ?_)
  refine gm_grd (fun g314 => ?_)
  refine gm_callV (k0 := 11) [.int y39, .int y40, .int y41] (c_X11_row q1 y39 y40 y41 s9.2) g314 rfl B_X11_row gw_565 gw_567 (gm_hit2 (Nat.le_of_ble_eq_true rfl) (Nat.le_of_ble_eq_true rfl) (by show _ ≤ 600000; omega) (by show _ ≤ 7302250; omega)) rfl rfl d_L_law_314 (gm_kI (fun x43 m42 => ?_))
  refine gm_pop d_L_law_317 rfl ?_
  refine gm_aload_n d_L_law_318 rfl 2 rfl ?_
  refine gm_aloadS d_L_law_319 rfl 0 rfl ?_
  refine gm_iload_n d_L_law_320 rfl 3 rfl ?_
  refine gm_iconst (v := 1) d_L_law_321 (by decide) ?_
  refine gm_iadd d_L_law_322 ?_
  refine gm_sldN d_L_law_323 rfl (fun y44 _ => ?_)
  refine gm_aloadS d_L_law_324 rfl 0 rfl ?_
  refine gm_iload_n d_L_law_325 rfl 3 rfl ?_
  refine gm_iconst (v := 2) d_L_law_326 (by decide) ?_
  refine gm_iadd d_L_law_327 ?_
  refine gm_sldN d_L_law_328 rfl (fun y45 _ => ?_)
  refine gm_aloadS d_L_law_329 rfl 0 rfl ?_
  refine gm_iload_n d_L_law_330 rfl 3 rfl ?_
  refine gm_iconst (v := 3) d_L_law_331 (by decide) ?_
  refine gm_iadd d_L_law_332 ?_
  refine gm_sldN d_L_law_333 rfl (fun y46 _ => ?_)
  refine gm_grd (fun g334 => ?_)
  refine gm_callV (k0 := 12) [.int y44, .int y45, .int y46] (c_X12_row q5 y44 y45 y46 m42) g334 rfl B_X12_row gw_1078 gw_1080 (gm_hit2 (Nat.le_of_ble_eq_true rfl) (Nat.le_of_ble_eq_true rfl) (by show _ ≤ 600000; omega) (by show _ ≤ 7302250; omega)) rfl rfl d_L_law_334 (gm_kI (fun x48 m47 => ?_))
  refine gm_pop d_L_law_337 rfl ?_
  refine gm_goto (tgt := 1257) d_L_law_338 (by decide) ?_
  refine gm_widen (k' := 200 + 5 * s9.1.toNatClampNeg + 5) (n' := 8000 + 140 * s9.1.toNatClampNeg + 140) (by omega) (by omega) ?_
  exact hj12 m47
set_option maxHeartbeats 4000000 in
theorem cl_5 {nm0 : String} {a N : Nat} {xs : Nat → Int32} {res : Option Value} {μe : gm_M} {q1 q5 : Nat} {s9 : Int32 × gm_M} {G : Int32 × gm_M → Prop} (hg : ¬ s9.1 < 0 ∧ Int32.toNatClampNeg s9.1 ≤ 4096) {j12 : gm_M → Option ((Int32 × gm_M) ⊕ (Option Value × gm_M))}
    (hj12 : ∀ s : gm_M, gm_A "GumBubbleLaw" (nm0, gm_sx a N xs) code 4 (some .boolean) room_1 res μe (200 + 5 * s9.1.toNatClampNeg + 5) (8000 + 140 * s9.1.toNatClampNeg + 140) s 1257 [(0, .float 0), (1, .ref q1), (2, .ref q5), (3, .int s9.1)] [] (j12 s) (gm_kl G (fun b => b = (res, μe)))) :
    gm_A "GumBubbleLaw" (nm0, gm_sx a N xs) code 4 (some .boolean) room_1 res μe (200 + 5 * s9.1.toNatClampNeg) (8000 + 140 * s9.1.toNatClampNeg) s9.2 341 [(0, .float 0), (1, .ref q1), (2, .ref q5), (3, .int s9.1)] []
      (gm_xl xs N (s9.1 + (1 : Int32)) (fun y49 => gm_xl xs N (s9.1 + (2 : Int32)) (fun y50 => gm_xl xs N (s9.1 + (3 : Int32)) (fun y51 => if gm_tag s9.2 q1 = 16 then gm_bI (f_X11_set q1 y49 y50 y51 s9.2) (fun x53 m52 => gm_xl xs N (s9.1 + (1 : Int32)) (fun y54 => gm_xl xs N (s9.1 + (2 : Int32)) (fun y55 => gm_xl xs N (s9.1 + (3 : Int32)) (fun y56 => if gm_tag m52 q5 = 17 then gm_bI (f_X12_set q5 y54 y55 y56 m52) (fun x58 m57 => j12 m57) else none)))) else none)))) (gm_kl G (fun b => b = (res, μe))) := by
  refine gm_aload_n d_L_law_341 rfl 1 rfl ?_
  refine gm_aloadS d_L_law_342 rfl 0 rfl ?_
  refine gm_iload_n d_L_law_343 rfl 3 rfl ?_
  refine gm_iconst (v := 1) d_L_law_344 (by decide) ?_
  refine gm_iadd d_L_law_345 ?_
  refine gm_sldN d_L_law_346 rfl (fun y49 _ => ?_)
  refine gm_aloadS d_L_law_347 rfl 0 rfl ?_
  refine gm_iload_n d_L_law_348 rfl 3 rfl ?_
  refine gm_iconst (v := 2) d_L_law_349 (by decide) ?_
  refine gm_iadd d_L_law_350 ?_
  refine gm_sldN d_L_law_351 rfl (fun y50 _ => ?_)
  refine gm_aloadS d_L_law_352 rfl 0 rfl ?_
  refine gm_iload_n d_L_law_353 rfl 3 rfl ?_
  refine gm_iconst (v := 3) d_L_law_354 (by decide) ?_
  refine gm_iadd d_L_law_355 ?_
  refine gm_sldN d_L_law_356 rfl (fun y51 _ => ?_)
  refine gm_grd (fun g357 => ?_)
  refine gm_callV (k0 := 11) [.int y49, .int y50, .int y51] (c_X11_set q1 y49 y50 y51 s9.2) g357 rfl B_X11_set gw_569 gw_571 (gm_hit2 (Nat.le_of_ble_eq_true rfl) (Nat.le_of_ble_eq_true rfl) (by show _ ≤ 600000; omega) (by show _ ≤ 7302250; omega)) rfl rfl d_L_law_357 (gm_kI (fun x53 m52 => ?_))
  refine gm_pop d_L_law_360 rfl ?_
  refine gm_aload_n d_L_law_361 rfl 2 rfl ?_
  refine gm_aloadS d_L_law_362 rfl 0 rfl ?_
  refine gm_iload_n d_L_law_363 rfl 3 rfl ?_
  refine gm_iconst (v := 1) d_L_law_364 (by decide) ?_
  refine gm_iadd d_L_law_365 ?_
  refine gm_sldN d_L_law_366 rfl (fun y54 _ => ?_)
  refine gm_aloadS d_L_law_367 rfl 0 rfl ?_
  refine gm_iload_n d_L_law_368 rfl 3 rfl ?_
  refine gm_iconst (v := 2) d_L_law_369 (by decide) ?_
  refine gm_iadd d_L_law_370 ?_
  refine gm_sldN d_L_law_371 rfl (fun y55 _ => ?_)
  refine gm_aloadS d_L_law_372 rfl 0 rfl ?_
  refine gm_iload_n d_L_law_373 rfl 3 rfl ?_
  refine gm_iconst (v := 3) d_L_law_374 (by decide) ?_
  refine gm_iadd d_L_law_375 ?_
  refine gm_sldN d_L_law_376 rfl (fun y56 _ => ?_)
  refine gm_grd (fun g377 => ?_)
  refine gm_callV (k0 := 12) [.int y54, .int y55, .int y56] (c_X12_set q5 y54 y55 y56 m52) g377 rfl B_X12_set gw_1082 gw_1084 (gm_hit2 (Nat.le_of_ble_eq_true rfl) (Nat.le_of_ble_eq_true rfl) (by show _ ≤ 600000; omega) (by show _ ≤ 7302250; omega)) rfl rfl d_L_law_377 (gm_kI (fun x58 m57 => ?_))
  refine gm_pop d_L_law_380 rfl ?_
  refine gm_goto (tgt := 1257) d_L_law_381 (by decide) ?_
  refine gm_widen (k' := 200 + 5 * s9.1.toNatClampNeg + 5) (n' := 8000 + 140 * s9.1.toNatClampNeg + 140) (by omega) (by omega) ?_
  exact hj12 m57
set_option maxHeartbeats 4000000 in
theorem cl_6 {nm0 : String} {a N : Nat} {xs : Nat → Int32} {res : Option Value} {μe : gm_M} {q1 q5 : Nat} {s9 : Int32 × gm_M} {G : Int32 × gm_M → Prop} (hg : ¬ s9.1 < 0 ∧ Int32.toNatClampNeg s9.1 ≤ 4096) {j12 : gm_M → Option ((Int32 × gm_M) ⊕ (Option Value × gm_M))}
    (hj12 : ∀ s : gm_M, gm_A "GumBubbleLaw" (nm0, gm_sx a N xs) code 4 (some .boolean) room_1 res μe (200 + 5 * s9.1.toNatClampNeg + 5) (8000 + 140 * s9.1.toNatClampNeg + 140) s 1257 [(0, .float 0), (1, .ref q1), (2, .ref q5), (3, .int s9.1)] [] (j12 s) (gm_kl G (fun b => b = (res, μe)))) :
    gm_A "GumBubbleLaw" (nm0, gm_sx a N xs) code 4 (some .boolean) room_1 res μe (200 + 5 * s9.1.toNatClampNeg) (8000 + 140 * s9.1.toNatClampNeg) s9.2 384 [(0, .float 0), (1, .ref q1), (2, .ref q5), (3, .int s9.1)] []
      (gm_xl xs N (s9.1 + (1 : Int32)) (fun y59 => if gm_tag s9.2 q1 = 16 then gm_bI (f_X11_told q1 y59 s9.2) (fun x61 m60 => gm_xl xs N (s9.1 + (1 : Int32)) (fun y62 => if gm_tag m60 q5 = 17 then gm_bI (f_X12_told q5 y62 m60) (fun x64 m63 => j12 m63) else none)) else none)) (gm_kl G (fun b => b = (res, μe))) := by
  refine gm_aload_n d_L_law_384 rfl 1 rfl ?_
  refine gm_aloadS d_L_law_385 rfl 0 rfl ?_
  refine gm_iload_n d_L_law_386 rfl 3 rfl ?_
  refine gm_iconst (v := 1) d_L_law_387 (by decide) ?_
  refine gm_iadd d_L_law_388 ?_
  refine gm_sldN d_L_law_389 rfl (fun y59 _ => ?_)
  refine gm_grd (fun g390 => ?_)
  refine gm_callV (k0 := 11) [.int y59] (c_X11_told q1 y59 s9.2) g390 rfl B_X11_told gw_573 gw_575 (gm_hit2 (Nat.le_of_ble_eq_true rfl) (Nat.le_of_ble_eq_true rfl) (by show _ ≤ 600000; omega) (by show _ ≤ 7302250; omega)) rfl rfl d_L_law_390 (gm_kI (fun x61 m60 => ?_))
  refine gm_pop d_L_law_393 rfl ?_
  refine gm_aload_n d_L_law_394 rfl 2 rfl ?_
  refine gm_aloadS d_L_law_395 rfl 0 rfl ?_
  refine gm_iload_n d_L_law_396 rfl 3 rfl ?_
  refine gm_iconst (v := 1) d_L_law_397 (by decide) ?_
  refine gm_iadd d_L_law_398 ?_
  refine gm_sldN d_L_law_399 rfl (fun y62 _ => ?_)
  refine gm_grd (fun g400 => ?_)
  refine gm_callV (k0 := 12) [.int y62] (c_X12_told q5 y62 m60) g400 rfl B_X12_told gw_1086 gw_1088 (gm_hit2 (Nat.le_of_ble_eq_true rfl) (Nat.le_of_ble_eq_true rfl) (by show _ ≤ 600000; omega) (by show _ ≤ 7302250; omega)) rfl rfl d_L_law_400 (gm_kI (fun x64 m63 => ?_))
  refine gm_pop d_L_law_403 rfl ?_
  refine gm_goto (tgt := 1257) d_L_law_404 (by decide) ?_
  refine gm_widen (k' := 200 + 5 * s9.1.toNatClampNeg + 5) (n' := 8000 + 140 * s9.1.toNatClampNeg + 140) (by omega) (by omega) ?_
  exact hj12 m63
set_option maxHeartbeats 4000000 in
theorem cl_7 {nm0 : String} {a N : Nat} {xs : Nat → Int32} {res : Option Value} {μe : gm_M} {q1 q5 : Nat} {s9 : Int32 × gm_M} {G : Int32 × gm_M → Prop} (hg : ¬ s9.1 < 0 ∧ Int32.toNatClampNeg s9.1 ≤ 4096) {j12 : gm_M → Option ((Int32 × gm_M) ⊕ (Option Value × gm_M))}
    (hj12 : ∀ s : gm_M, gm_A "GumBubbleLaw" (nm0, gm_sx a N xs) code 4 (some .boolean) room_1 res μe (200 + 5 * s9.1.toNatClampNeg + 5) (8000 + 140 * s9.1.toNatClampNeg + 140) s 1257 [(0, .float 0), (1, .ref q1), (2, .ref q5), (3, .int s9.1)] [] (j12 s) (gm_kl G (fun b => b = (res, μe)))) :
    gm_A "GumBubbleLaw" (nm0, gm_sx a N xs) code 4 (some .boolean) room_1 res μe (200 + 5 * s9.1.toNatClampNeg) (8000 + 140 * s9.1.toNatClampNeg) s9.2 407 [(0, .float 0), (1, .ref q1), (2, .ref q5), (3, .int s9.1)] []
      (gm_xl xs N (s9.1 + (1 : Int32)) (fun y65 => gm_xl xs N (s9.1 + (2 : Int32)) (fun y66 => if gm_tag s9.2 q1 = 16 then gm_bI (f_X11_blow q1 y65 y66 s9.2) (fun x68 m67 => gm_xl xs N (s9.1 + (1 : Int32)) (fun y69 => gm_xl xs N (s9.1 + (2 : Int32)) (fun y70 => if gm_tag m67 q5 = 17 then gm_bI (f_X12_blow q5 y69 y70 m67) (fun x72 m71 => j12 m71) else none))) else none))) (gm_kl G (fun b => b = (res, μe))) := by
  refine gm_aload_n d_L_law_407 rfl 1 rfl ?_
  refine gm_aloadS d_L_law_408 rfl 0 rfl ?_
  refine gm_iload_n d_L_law_409 rfl 3 rfl ?_
  refine gm_iconst (v := 1) d_L_law_410 (by decide) ?_
  refine gm_iadd d_L_law_411 ?_
  refine gm_sldN d_L_law_412 rfl (fun y65 _ => ?_)
  refine gm_aloadS d_L_law_413 rfl 0 rfl ?_
  refine gm_iload_n d_L_law_414 rfl 3 rfl ?_
  refine gm_iconst (v := 2) d_L_law_415 (by decide) ?_
  refine gm_iadd d_L_law_416 ?_
  refine gm_sldN d_L_law_417 rfl (fun y66 _ => ?_)
  refine gm_grd (fun g418 => ?_)
  refine gm_callV (k0 := 11) [.int y65, .int y66] (c_X11_blow q1 y65 y66 s9.2) g418 rfl B_X11_blow gw_607 gw_609 (gm_hit2 (Nat.le_of_ble_eq_true rfl) (Nat.le_of_ble_eq_true rfl) (by show _ ≤ 600000; omega) (by show _ ≤ 7302250; omega)) rfl rfl d_L_law_418 (gm_kI (fun x68 m67 => ?_))
  refine gm_pop d_L_law_421 rfl ?_
  refine gm_aload_n d_L_law_422 rfl 2 rfl ?_
  refine gm_aloadS d_L_law_423 rfl 0 rfl ?_
  refine gm_iload_n d_L_law_424 rfl 3 rfl ?_
  refine gm_iconst (v := 1) d_L_law_425 (by decide) ?_
  refine gm_iadd d_L_law_426 ?_
  refine gm_sldN d_L_law_427 rfl (fun y69 _ => ?_)
  refine gm_aloadS d_L_law_428 rfl 0 rfl ?_
  refine gm_iload_n d_L_law_429 rfl 3 rfl ?_
  refine gm_iconst (v := 2) d_L_law_430 (by decide) ?_
  refine gm_iadd d_L_law_431 ?_
  refine gm_sldN d_L_law_432 rfl (fun y70 _ => ?_)
  refine gm_grd (fun g433 => ?_)
  refine gm_callV (k0 := 12) [.int y69, .int y70] (c_X12_blow q5 y69 y70 m67) g433 rfl B_X12_blow gw_1098 gw_1100 (gm_hit2 (Nat.le_of_ble_eq_true rfl) (Nat.le_of_ble_eq_true rfl) (by show _ ≤ 600000; omega) (by show _ ≤ 7302250; omega)) rfl rfl d_L_law_433 (gm_kI (fun x72 m71 => ?_))
  refine gm_pop d_L_law_436 rfl ?_
  refine gm_goto (tgt := 1257) d_L_law_437 (by decide) ?_
  refine gm_widen (k' := 200 + 5 * s9.1.toNatClampNeg + 5) (n' := 8000 + 140 * s9.1.toNatClampNeg + 140) (by omega) (by omega) ?_
  exact hj12 m71
set_option maxHeartbeats 4000000 in
theorem cl_8 {nm0 : String} {a N : Nat} {xs : Nat → Int32} {res : Option Value} {μe : gm_M} {q1 q5 : Nat} {s9 : Int32 × gm_M} {G : Int32 × gm_M → Prop} (hg : ¬ s9.1 < 0 ∧ Int32.toNatClampNeg s9.1 ≤ 4096) {j12 : gm_M → Option ((Int32 × gm_M) ⊕ (Option Value × gm_M))}
    (hj12 : ∀ s : gm_M, gm_A "GumBubbleLaw" (nm0, gm_sx a N xs) code 4 (some .boolean) room_1 res μe (200 + 5 * s9.1.toNatClampNeg + 5) (8000 + 140 * s9.1.toNatClampNeg + 140) s 1257 [(0, .float 0), (1, .ref q1), (2, .ref q5), (3, .int s9.1)] [] (j12 s) (gm_kl G (fun b => b = (res, μe)))) :
    gm_A "GumBubbleLaw" (nm0, gm_sx a N xs) code 4 (some .boolean) room_1 res μe (200 + 5 * s9.1.toNatClampNeg) (8000 + 140 * s9.1.toNatClampNeg) s9.2 440 [(0, .float 0), (1, .ref q1), (2, .ref q5), (3, .int s9.1)] []
      (gm_xl xs N (s9.1 + (1 : Int32)) (fun y73 => if gm_tag s9.2 q1 = 16 then gm_bI (f_X11_pass q1 y73 s9.2) (fun x75 m74 => gm_xl xs N (s9.1 + (1 : Int32)) (fun y76 => if gm_tag m74 q5 = 17 then gm_bI (f_X12_pass q5 y76 m74) (fun x78 m77 => j12 m77) else none)) else none)) (gm_kl G (fun b => b = (res, μe))) := by
  refine gm_aload_n d_L_law_440 rfl 1 rfl ?_
  refine gm_aloadS d_L_law_441 rfl 0 rfl ?_
  refine gm_iload_n d_L_law_442 rfl 3 rfl ?_
  refine gm_iconst (v := 1) d_L_law_443 (by decide) ?_
  refine gm_iadd d_L_law_444 ?_
  refine gm_sldN d_L_law_445 rfl (fun y73 _ => ?_)
  refine gm_grd (fun g446 => ?_)
  refine gm_callV (k0 := 11) [.int y73] (c_X11_pass q1 y73 s9.2) g446 rfl B_X11_pass gw_615 gw_617 (gm_hit2 (Nat.le_of_ble_eq_true rfl) (Nat.le_of_ble_eq_true rfl) (by show _ ≤ 600000; omega) (by show _ ≤ 7302250; omega)) rfl rfl d_L_law_446 (gm_kI (fun x75 m74 => ?_))
  refine gm_pop d_L_law_449 rfl ?_
  refine gm_aload_n d_L_law_450 rfl 2 rfl ?_
  refine gm_aloadS d_L_law_451 rfl 0 rfl ?_
  refine gm_iload_n d_L_law_452 rfl 3 rfl ?_
  refine gm_iconst (v := 1) d_L_law_453 (by decide) ?_
  refine gm_iadd d_L_law_454 ?_
  refine gm_sldN d_L_law_455 rfl (fun y76 _ => ?_)
  refine gm_grd (fun g456 => ?_)
  refine gm_callV (k0 := 12) [.int y76] (c_X12_pass q5 y76 m74) g456 rfl B_X12_pass gw_1106 gw_1108 (gm_hit2 (Nat.le_of_ble_eq_true rfl) (Nat.le_of_ble_eq_true rfl) (by show _ ≤ 600000; omega) (by show _ ≤ 7302250; omega)) rfl rfl d_L_law_456 (gm_kI (fun x78 m77 => ?_))
  refine gm_pop d_L_law_459 rfl ?_
  refine gm_goto (tgt := 1257) d_L_law_460 (by decide) ?_
  refine gm_widen (k' := 200 + 5 * s9.1.toNatClampNeg + 5) (n' := 8000 + 140 * s9.1.toNatClampNeg + 140) (by omega) (by omega) ?_
  exact hj12 m77
set_option maxHeartbeats 4000000 in
theorem cl_9 {nm0 : String} {a N : Nat} {xs : Nat → Int32} {res : Option Value} {μe : gm_M} {q1 q5 : Nat} {s9 : Int32 × gm_M} {G : Int32 × gm_M → Prop} (hg : ¬ s9.1 < 0 ∧ Int32.toNatClampNeg s9.1 ≤ 4096) {j12 : gm_M → Option ((Int32 × gm_M) ⊕ (Option Value × gm_M))}
    (hj12 : ∀ s : gm_M, gm_A "GumBubbleLaw" (nm0, gm_sx a N xs) code 4 (some .boolean) room_1 res μe (200 + 5 * s9.1.toNatClampNeg + 5) (8000 + 140 * s9.1.toNatClampNeg + 140) s 1257 [(0, .float 0), (1, .ref q1), (2, .ref q5), (3, .int s9.1)] [] (j12 s) (gm_kl G (fun b => b = (res, μe)))) :
    gm_A "GumBubbleLaw" (nm0, gm_sx a N xs) code 4 (some .boolean) room_1 res μe (200 + 5 * s9.1.toNatClampNeg) (8000 + 140 * s9.1.toNatClampNeg) s9.2 463 [(0, .float 0), (1, .ref q1), (2, .ref q5), (3, .int s9.1)] []
      (gm_xl xs N (s9.1 + (1 : Int32)) (fun y79 => gm_xl xs N (s9.1 + (2 : Int32)) (fun y80 => if gm_tag s9.2 q1 = 16 then gm_bI (f_X11_on q1 y79 y80 s9.2) (fun x82 m81 => gm_xl xs N (s9.1 + (1 : Int32)) (fun y83 => gm_xl xs N (s9.1 + (2 : Int32)) (fun y84 => if gm_tag m81 q5 = 17 then gm_bI (f_X12_on q5 y83 y84 m81) (fun x86 m85 => j12 m85) else none))) else none))) (gm_kl G (fun b => b = (res, μe))) := by
  refine gm_aload_n d_L_law_463 rfl 1 rfl ?_
  refine gm_aloadS d_L_law_464 rfl 0 rfl ?_
  refine gm_iload_n d_L_law_465 rfl 3 rfl ?_
  refine gm_iconst (v := 1) d_L_law_466 (by decide) ?_
  refine gm_iadd d_L_law_467 ?_
  refine gm_sldN d_L_law_468 rfl (fun y79 _ => ?_)
  refine gm_aloadS d_L_law_469 rfl 0 rfl ?_
  refine gm_iload_n d_L_law_470 rfl 3 rfl ?_
  refine gm_iconst (v := 2) d_L_law_471 (by decide) ?_
  refine gm_iadd d_L_law_472 ?_
  refine gm_sldN d_L_law_473 rfl (fun y80 _ => ?_)
  refine gm_grd (fun g474 => ?_)
  refine gm_callV (k0 := 11) [.int y79, .int y80] (c_X11_on q1 y79 y80 s9.2) g474 rfl B_X11_on gw_619 gw_621 (gm_hit2 (Nat.le_of_ble_eq_true rfl) (Nat.le_of_ble_eq_true rfl) (by show _ ≤ 600000; omega) (by show _ ≤ 7302250; omega)) rfl rfl d_L_law_474 (gm_kI (fun x82 m81 => ?_))
  refine gm_pop d_L_law_477 rfl ?_
  refine gm_aload_n d_L_law_478 rfl 2 rfl ?_
  refine gm_aloadS d_L_law_479 rfl 0 rfl ?_
  refine gm_iload_n d_L_law_480 rfl 3 rfl ?_
  refine gm_iconst (v := 1) d_L_law_481 (by decide) ?_
  refine gm_iadd d_L_law_482 ?_
  refine gm_sldN d_L_law_483 rfl (fun y83 _ => ?_)
  refine gm_aloadS d_L_law_484 rfl 0 rfl ?_
  refine gm_iload_n d_L_law_485 rfl 3 rfl ?_
  refine gm_iconst (v := 2) d_L_law_486 (by decide) ?_
  refine gm_iadd d_L_law_487 ?_
  refine gm_sldN d_L_law_488 rfl (fun y84 _ => ?_)
  refine gm_grd (fun g489 => ?_)
  refine gm_callV (k0 := 12) [.int y83, .int y84] (c_X12_on q5 y83 y84 m81) g489 rfl B_X12_on gw_1122 gw_1124 (gm_hit2 (Nat.le_of_ble_eq_true rfl) (Nat.le_of_ble_eq_true rfl) (by show _ ≤ 600000; omega) (by show _ ≤ 7302250; omega)) rfl rfl d_L_law_489 (gm_kI (fun x86 m85 => ?_))
  refine gm_pop d_L_law_492 rfl ?_
  refine gm_goto (tgt := 1257) d_L_law_493 (by decide) ?_
  refine gm_widen (k' := 200 + 5 * s9.1.toNatClampNeg + 5) (n' := 8000 + 140 * s9.1.toNatClampNeg + 140) (by omega) (by omega) ?_
  exact hj12 m85
set_option maxHeartbeats 4000000 in
theorem cl_10 {nm0 : String} {a N : Nat} {xs : Nat → Int32} {res : Option Value} {μe : gm_M} {q1 q5 : Nat} {s9 : Int32 × gm_M} {G : Int32 × gm_M → Prop} (hg : ¬ s9.1 < 0 ∧ Int32.toNatClampNeg s9.1 ≤ 4096) {j12 : gm_M → Option ((Int32 × gm_M) ⊕ (Option Value × gm_M))}
    (hj12 : ∀ s : gm_M, gm_A "GumBubbleLaw" (nm0, gm_sx a N xs) code 4 (some .boolean) room_1 res μe (200 + 5 * s9.1.toNatClampNeg + 5) (8000 + 140 * s9.1.toNatClampNeg + 140) s 1257 [(0, .float 0), (1, .ref q1), (2, .ref q5), (3, .int s9.1)] [] (j12 s) (gm_kl G (fun b => b = (res, μe)))) :
    gm_A "GumBubbleLaw" (nm0, gm_sx a N xs) code 4 (some .boolean) room_1 res μe (200 + 5 * s9.1.toNatClampNeg) (8000 + 140 * s9.1.toNatClampNeg) s9.2 496 [(0, .float 0), (1, .ref q1), (2, .ref q5), (3, .int s9.1)] []
      (gm_xl xs N (s9.1 + (1 : Int32)) (fun y87 => gm_xl xs N (s9.1 + (2 : Int32)) (fun y88 => if gm_tag s9.2 q1 = 16 then gm_bI (f_X11_when q1 y87 y88 s9.2) (fun x90 m89 => gm_xl xs N (s9.1 + (1 : Int32)) (fun y91 => gm_xl xs N (s9.1 + (2 : Int32)) (fun y92 => if gm_tag m89 q5 = 17 then gm_bI (f_X12_when q5 y91 y92 m89) (fun x94 m93 => j12 m93) else none))) else none))) (gm_kl G (fun b => b = (res, μe))) := by
  refine gm_aload_n d_L_law_496 rfl 1 rfl ?_
  refine gm_aloadS d_L_law_497 rfl 0 rfl ?_
  refine gm_iload_n d_L_law_498 rfl 3 rfl ?_
  refine gm_iconst (v := 1) d_L_law_499 (by decide) ?_
  refine gm_iadd d_L_law_500 ?_
  refine gm_sldN d_L_law_501 rfl (fun y87 _ => ?_)
  refine gm_aloadS d_L_law_502 rfl 0 rfl ?_
  refine gm_iload_n d_L_law_503 rfl 3 rfl ?_
  refine gm_iconst (v := 2) d_L_law_504 (by decide) ?_
  refine gm_iadd d_L_law_505 ?_
  refine gm_sldN d_L_law_506 rfl (fun y88 _ => ?_)
  refine gm_grd (fun g507 => ?_)
  refine gm_callV (k0 := 11) [.int y87, .int y88] (c_X11_when q1 y87 y88 s9.2) g507 rfl B_X11_when gw_623 gw_625 (gm_hit2 (Nat.le_of_ble_eq_true rfl) (Nat.le_of_ble_eq_true rfl) (by show _ ≤ 600000; omega) (by show _ ≤ 7302250; omega)) rfl rfl d_L_law_507 (gm_kI (fun x90 m89 => ?_))
  refine gm_pop d_L_law_510 rfl ?_
  refine gm_aload_n d_L_law_511 rfl 2 rfl ?_
  refine gm_aloadS d_L_law_512 rfl 0 rfl ?_
  refine gm_iload_n d_L_law_513 rfl 3 rfl ?_
  refine gm_iconst (v := 1) d_L_law_514 (by decide) ?_
  refine gm_iadd d_L_law_515 ?_
  refine gm_sldN d_L_law_516 rfl (fun y91 _ => ?_)
  refine gm_aloadS d_L_law_517 rfl 0 rfl ?_
  refine gm_iload_n d_L_law_518 rfl 3 rfl ?_
  refine gm_iconst (v := 2) d_L_law_519 (by decide) ?_
  refine gm_iadd d_L_law_520 ?_
  refine gm_sldN d_L_law_521 rfl (fun y92 _ => ?_)
  refine gm_grd (fun g522 => ?_)
  refine gm_callV (k0 := 12) [.int y91, .int y92] (c_X12_when q5 y91 y92 m89) g522 rfl B_X12_when gw_1134 gw_1136 (gm_hit2 (Nat.le_of_ble_eq_true rfl) (Nat.le_of_ble_eq_true rfl) (by show _ ≤ 600000; omega) (by show _ ≤ 7302250; omega)) rfl rfl d_L_law_522 (gm_kI (fun x94 m93 => ?_))
  refine gm_pop d_L_law_525 rfl ?_
  refine gm_goto (tgt := 1257) d_L_law_526 (by decide) ?_
  refine gm_widen (k' := 200 + 5 * s9.1.toNatClampNeg + 5) (n' := 8000 + 140 * s9.1.toNatClampNeg + 140) (by omega) (by omega) ?_
  exact hj12 m93
set_option maxHeartbeats 4000000 in
theorem cl_11 {nm0 : String} {a N : Nat} {xs : Nat → Int32} {res : Option Value} {μe : gm_M} {q1 q5 : Nat} {s9 : Int32 × gm_M} {G : Int32 × gm_M → Prop} (hg : ¬ s9.1 < 0 ∧ Int32.toNatClampNeg s9.1 ≤ 4096) {j12 : gm_M → Option ((Int32 × gm_M) ⊕ (Option Value × gm_M))}
    (hj12 : ∀ s : gm_M, gm_A "GumBubbleLaw" (nm0, gm_sx a N xs) code 4 (some .boolean) room_1 res μe (200 + 5 * s9.1.toNatClampNeg + 5) (8000 + 140 * s9.1.toNatClampNeg + 140) s 1257 [(0, .float 0), (1, .ref q1), (2, .ref q5), (3, .int s9.1)] [] (j12 s) (gm_kl G (fun b => b = (res, μe)))) :
    gm_A "GumBubbleLaw" (nm0, gm_sx a N xs) code 4 (some .boolean) room_1 res μe (200 + 5 * s9.1.toNatClampNeg) (8000 + 140 * s9.1.toNatClampNeg) s9.2 529 [(0, .float 0), (1, .ref q1), (2, .ref q5), (3, .int s9.1)] []
      (gm_xl xs N (s9.1 + (1 : Int32)) (fun y95 => gm_xl xs N (s9.1 + (2 : Int32)) (fun y96 => if gm_tag s9.2 q1 = 16 then gm_bI (f_X11_soon q1 y95 y96 s9.2) (fun x98 m97 => gm_xl xs N (s9.1 + (1 : Int32)) (fun y99 => gm_xl xs N (s9.1 + (2 : Int32)) (fun y100 => if gm_tag m97 q5 = 17 then gm_bI (f_X12_soon q5 y99 y100 m97) (fun x102 m101 => j12 m101) else none))) else none))) (gm_kl G (fun b => b = (res, μe))) := by
  refine gm_aload_n d_L_law_529 rfl 1 rfl ?_
  refine gm_aloadS d_L_law_530 rfl 0 rfl ?_
  refine gm_iload_n d_L_law_531 rfl 3 rfl ?_
  refine gm_iconst (v := 1) d_L_law_532 (by decide) ?_
  refine gm_iadd d_L_law_533 ?_
  refine gm_sldN d_L_law_534 rfl (fun y95 _ => ?_)
  refine gm_aloadS d_L_law_535 rfl 0 rfl ?_
  refine gm_iload_n d_L_law_536 rfl 3 rfl ?_
  refine gm_iconst (v := 2) d_L_law_537 (by decide) ?_
  refine gm_iadd d_L_law_538 ?_
  refine gm_sldN d_L_law_539 rfl (fun y96 _ => ?_)
  refine gm_grd (fun g540 => ?_)
  refine gm_callV (k0 := 11) [.int y95, .int y96] (c_X11_soon q1 y95 y96 s9.2) g540 rfl B_X11_soon gw_631 gw_633 (gm_hit2 (Nat.le_of_ble_eq_true rfl) (Nat.le_of_ble_eq_true rfl) (by show _ ≤ 600000; omega) (by show _ ≤ 7302250; omega)) rfl rfl d_L_law_540 (gm_kI (fun x98 m97 => ?_))
  refine gm_pop d_L_law_543 rfl ?_
  refine gm_aload_n d_L_law_544 rfl 2 rfl ?_
  refine gm_aloadS d_L_law_545 rfl 0 rfl ?_
  refine gm_iload_n d_L_law_546 rfl 3 rfl ?_
  refine gm_iconst (v := 1) d_L_law_547 (by decide) ?_
  refine gm_iadd d_L_law_548 ?_
  refine gm_sldN d_L_law_549 rfl (fun y99 _ => ?_)
  refine gm_aloadS d_L_law_550 rfl 0 rfl ?_
  refine gm_iload_n d_L_law_551 rfl 3 rfl ?_
  refine gm_iconst (v := 2) d_L_law_552 (by decide) ?_
  refine gm_iadd d_L_law_553 ?_
  refine gm_sldN d_L_law_554 rfl (fun y100 _ => ?_)
  refine gm_grd (fun g555 => ?_)
  refine gm_callV (k0 := 12) [.int y99, .int y100] (c_X12_soon q5 y99 y100 m97) g555 rfl B_X12_soon gw_1146 gw_1148 (gm_hit2 (Nat.le_of_ble_eq_true rfl) (Nat.le_of_ble_eq_true rfl) (by show _ ≤ 600000; omega) (by show _ ≤ 7302250; omega)) rfl rfl d_L_law_555 (gm_kI (fun x102 m101 => ?_))
  refine gm_pop d_L_law_558 rfl ?_
  refine gm_goto (tgt := 1257) d_L_law_559 (by decide) ?_
  refine gm_widen (k' := 200 + 5 * s9.1.toNatClampNeg + 5) (n' := 8000 + 140 * s9.1.toNatClampNeg + 140) (by omega) (by omega) ?_
  exact hj12 m101
set_option maxHeartbeats 4000000 in
theorem cl_12 {nm0 : String} {a N : Nat} {xs : Nat → Int32} {res : Option Value} {μe : gm_M} {q1 q5 : Nat} {s9 : Int32 × gm_M} {G : Int32 × gm_M → Prop} (hg : ¬ s9.1 < 0 ∧ Int32.toNatClampNeg s9.1 ≤ 4096) {j12 : gm_M → Option ((Int32 × gm_M) ⊕ (Option Value × gm_M))}
    (hj12 : ∀ s : gm_M, gm_A "GumBubbleLaw" (nm0, gm_sx a N xs) code 4 (some .boolean) room_1 res μe (200 + 5 * s9.1.toNatClampNeg + 5) (8000 + 140 * s9.1.toNatClampNeg + 140) s 1257 [(0, .float 0), (1, .ref q1), (2, .ref q5), (3, .int s9.1)] [] (j12 s) (gm_kl G (fun b => b = (res, μe)))) :
    gm_A "GumBubbleLaw" (nm0, gm_sx a N xs) code 4 (some .boolean) room_1 res μe (200 + 5 * s9.1.toNatClampNeg) (8000 + 140 * s9.1.toNatClampNeg) s9.2 562 [(0, .float 0), (1, .ref q1), (2, .ref q5), (3, .int s9.1)] []
      (gm_xl xs N (s9.1 + (1 : Int32)) (fun y103 => gm_xl xs N (s9.1 + (2 : Int32)) (fun y104 => if gm_tag s9.2 q1 = 16 then gm_bI (f_X11_pieces q1 y103 y104 s9.2) (fun x106 m105 => gm_xl xs N (s9.1 + (1 : Int32)) (fun y107 => gm_xl xs N (s9.1 + (2 : Int32)) (fun y108 => if gm_tag m105 q5 = 17 then gm_bI (f_X12_pieces q5 y107 y108 m105) (fun x110 m109 => j12 m109) else none))) else none))) (gm_kl G (fun b => b = (res, μe))) := by
  refine gm_aload_n d_L_law_562 rfl 1 rfl ?_
  refine gm_aloadS d_L_law_563 rfl 0 rfl ?_
  refine gm_iload_n d_L_law_564 rfl 3 rfl ?_
  refine gm_iconst (v := 1) d_L_law_565 (by decide) ?_
  refine gm_iadd d_L_law_566 ?_
  refine gm_sldN d_L_law_567 rfl (fun y103 _ => ?_)
  refine gm_aloadS d_L_law_568 rfl 0 rfl ?_
  refine gm_iload_n d_L_law_569 rfl 3 rfl ?_
  refine gm_iconst (v := 2) d_L_law_570 (by decide) ?_
  refine gm_iadd d_L_law_571 ?_
  refine gm_sldN d_L_law_572 rfl (fun y104 _ => ?_)
  refine gm_grd (fun g573 => ?_)
  refine gm_callV (k0 := 11) [.int y103, .int y104] (c_X11_pieces q1 y103 y104 s9.2) g573 rfl B_X11_pieces gw_635 gw_637 (gm_hit2 (Nat.le_of_ble_eq_true rfl) (Nat.le_of_ble_eq_true rfl) (by show _ ≤ 600000; omega) (by show _ ≤ 7302250; omega)) rfl rfl d_L_law_573 (gm_kI (fun x106 m105 => ?_))
  refine gm_pop d_L_law_576 rfl ?_
  refine gm_aload_n d_L_law_577 rfl 2 rfl ?_
  refine gm_aloadS d_L_law_578 rfl 0 rfl ?_
  refine gm_iload_n d_L_law_579 rfl 3 rfl ?_
  refine gm_iconst (v := 1) d_L_law_580 (by decide) ?_
  refine gm_iadd d_L_law_581 ?_
  refine gm_sldN d_L_law_582 rfl (fun y107 _ => ?_)
  refine gm_aloadS d_L_law_583 rfl 0 rfl ?_
  refine gm_iload_n d_L_law_584 rfl 3 rfl ?_
  refine gm_iconst (v := 2) d_L_law_585 (by decide) ?_
  refine gm_iadd d_L_law_586 ?_
  refine gm_sldN d_L_law_587 rfl (fun y108 _ => ?_)
  refine gm_grd (fun g588 => ?_)
  refine gm_callV (k0 := 12) [.int y107, .int y108] (c_X12_pieces q5 y107 y108 m105) g588 rfl B_X12_pieces gw_1150 gw_1152 (gm_hit2 (Nat.le_of_ble_eq_true rfl) (Nat.le_of_ble_eq_true rfl) (by show _ ≤ 600000; omega) (by show _ ≤ 7302250; omega)) rfl rfl d_L_law_588 (gm_kI (fun x110 m109 => ?_))
  refine gm_pop d_L_law_591 rfl ?_
  refine gm_goto (tgt := 1257) d_L_law_592 (by decide) ?_
  refine gm_widen (k' := 200 + 5 * s9.1.toNatClampNeg + 5) (n' := 8000 + 140 * s9.1.toNatClampNeg + 140) (by omega) (by omega) ?_
  exact hj12 m109
set_option maxHeartbeats 4000000 in
theorem cl_13 {nm0 : String} {a N : Nat} {xs : Nat → Int32} {res : Option Value} {μe : gm_M} {q1 q5 : Nat} {s9 : Int32 × gm_M} {G : Int32 × gm_M → Prop} (hg : ¬ s9.1 < 0 ∧ Int32.toNatClampNeg s9.1 ≤ 4096) {j12 : gm_M → Option ((Int32 × gm_M) ⊕ (Option Value × gm_M))}
    (hj12 : ∀ s : gm_M, gm_A "GumBubbleLaw" (nm0, gm_sx a N xs) code 4 (some .boolean) room_1 res μe (200 + 5 * s9.1.toNatClampNeg + 5) (8000 + 140 * s9.1.toNatClampNeg + 140) s 1257 [(0, .float 0), (1, .ref q1), (2, .ref q5), (3, .int s9.1)] [] (j12 s) (gm_kl G (fun b => b = (res, μe)))) :
    gm_A "GumBubbleLaw" (nm0, gm_sx a N xs) code 4 (some .boolean) room_1 res μe (200 + 5 * s9.1.toNatClampNeg) (8000 + 140 * s9.1.toNatClampNeg) s9.2 595 [(0, .float 0), (1, .ref q1), (2, .ref q5), (3, .int s9.1)] []
      (gm_xl xs N (s9.1 + (1 : Int32)) (fun y111 => gm_xl xs N (s9.1 + (2 : Int32)) (fun y112 => if gm_tag s9.2 q1 = 16 then gm_bI (f_X11_breaths q1 y111 y112 s9.2) (fun x114 m113 => gm_xl xs N (s9.1 + (1 : Int32)) (fun y115 => gm_xl xs N (s9.1 + (2 : Int32)) (fun y116 => if gm_tag m113 q5 = 17 then gm_bI (f_X12_breaths q5 y115 y116 m113) (fun x118 m117 => j12 m117) else none))) else none))) (gm_kl G (fun b => b = (res, μe))) := by
  refine gm_aload_n d_L_law_595 rfl 1 rfl ?_
  refine gm_aloadS d_L_law_596 rfl 0 rfl ?_
  refine gm_iload_n d_L_law_597 rfl 3 rfl ?_
  refine gm_iconst (v := 1) d_L_law_598 (by decide) ?_
  refine gm_iadd d_L_law_599 ?_
  refine gm_sldN d_L_law_600 rfl (fun y111 _ => ?_)
  refine gm_aloadS d_L_law_601 rfl 0 rfl ?_
  refine gm_iload_n d_L_law_602 rfl 3 rfl ?_
  refine gm_iconst (v := 2) d_L_law_603 (by decide) ?_
  refine gm_iadd d_L_law_604 ?_
  refine gm_sldN d_L_law_605 rfl (fun y112 _ => ?_)
  refine gm_grd (fun g606 => ?_)
  refine gm_callV (k0 := 11) [.int y111, .int y112] (c_X11_breaths q1 y111 y112 s9.2) g606 rfl B_X11_breaths gw_639 gw_641 (gm_hit2 (Nat.le_of_ble_eq_true rfl) (Nat.le_of_ble_eq_true rfl) (by show _ ≤ 600000; omega) (by show _ ≤ 7302250; omega)) rfl rfl d_L_law_606 (gm_kI (fun x114 m113 => ?_))
  refine gm_pop d_L_law_609 rfl ?_
  refine gm_aload_n d_L_law_610 rfl 2 rfl ?_
  refine gm_aloadS d_L_law_611 rfl 0 rfl ?_
  refine gm_iload_n d_L_law_612 rfl 3 rfl ?_
  refine gm_iconst (v := 1) d_L_law_613 (by decide) ?_
  refine gm_iadd d_L_law_614 ?_
  refine gm_sldN d_L_law_615 rfl (fun y115 _ => ?_)
  refine gm_aloadS d_L_law_616 rfl 0 rfl ?_
  refine gm_iload_n d_L_law_617 rfl 3 rfl ?_
  refine gm_iconst (v := 2) d_L_law_618 (by decide) ?_
  refine gm_iadd d_L_law_619 ?_
  refine gm_sldN d_L_law_620 rfl (fun y116 _ => ?_)
  refine gm_grd (fun g621 => ?_)
  refine gm_callV (k0 := 12) [.int y115, .int y116] (c_X12_breaths q5 y115 y116 m113) g621 rfl B_X12_breaths gw_1154 gw_1156 (gm_hit2 (Nat.le_of_ble_eq_true rfl) (Nat.le_of_ble_eq_true rfl) (by show _ ≤ 600000; omega) (by show _ ≤ 7302250; omega)) rfl rfl d_L_law_621 (gm_kI (fun x118 m117 => ?_))
  refine gm_pop d_L_law_624 rfl ?_
  refine gm_goto (tgt := 1257) d_L_law_625 (by decide) ?_
  refine gm_widen (k' := 200 + 5 * s9.1.toNatClampNeg + 5) (n' := 8000 + 140 * s9.1.toNatClampNeg + 140) (by omega) (by omega) ?_
  exact hj12 m117
set_option maxHeartbeats 4000000 in
theorem cl_14 {nm0 : String} {a N : Nat} {xs : Nat → Int32} {res : Option Value} {μe : gm_M} {q1 q5 : Nat} {s9 : Int32 × gm_M} {G : Int32 × gm_M → Prop} (hg : ¬ s9.1 < 0 ∧ Int32.toNatClampNeg s9.1 ≤ 4096) {j12 : gm_M → Option ((Int32 × gm_M) ⊕ (Option Value × gm_M))}
    (hj12 : ∀ s : gm_M, gm_A "GumBubbleLaw" (nm0, gm_sx a N xs) code 4 (some .boolean) room_1 res μe (200 + 5 * s9.1.toNatClampNeg + 5) (8000 + 140 * s9.1.toNatClampNeg + 140) s 1257 [(0, .float 0), (1, .ref q1), (2, .ref q5), (3, .int s9.1)] [] (j12 s) (gm_kl G (fun b => b = (res, μe)))) :
    gm_A "GumBubbleLaw" (nm0, gm_sx a N xs) code 4 (some .boolean) room_1 res μe (200 + 5 * s9.1.toNatClampNeg) (8000 + 140 * s9.1.toNatClampNeg) s9.2 628 [(0, .float 0), (1, .ref q1), (2, .ref q5), (3, .int s9.1)] []
      (gm_xl xs N (s9.1 + (1 : Int32)) (fun y119 => if gm_tag s9.2 q1 = 16 then gm_bI (f_X11_slack q1 y119 s9.2) (fun x121 m120 => gm_xl xs N (s9.1 + (1 : Int32)) (fun y122 => if gm_tag m120 q5 = 17 then gm_bI (f_X12_slack q5 y122 m120) (fun x124 m123 => j12 m123) else none)) else none)) (gm_kl G (fun b => b = (res, μe))) := by
  refine gm_aload_n d_L_law_628 rfl 1 rfl ?_
  refine gm_aloadS d_L_law_629 rfl 0 rfl ?_
  refine gm_iload_n d_L_law_630 rfl 3 rfl ?_
  refine gm_iconst (v := 1) d_L_law_631 (by decide) ?_
  refine gm_iadd d_L_law_632 ?_
  refine gm_sldN d_L_law_633 rfl (fun y119 _ => ?_)
  refine gm_grd (fun g634 => ?_)
  refine gm_callV (k0 := 11) [.int y119] (c_X11_slack q1 y119 s9.2) g634 rfl B_X11_slack gw_644 gw_646 (gm_hit2 (Nat.le_of_ble_eq_true rfl) (Nat.le_of_ble_eq_true rfl) (by show _ ≤ 600000; omega) (by show _ ≤ 7302250; omega)) rfl rfl d_L_law_634 (gm_kI (fun x121 m120 => ?_))
  refine gm_pop d_L_law_637 rfl ?_
  refine gm_aload_n d_L_law_638 rfl 2 rfl ?_
  refine gm_aloadS d_L_law_639 rfl 0 rfl ?_
  refine gm_iload_n d_L_law_640 rfl 3 rfl ?_
  refine gm_iconst (v := 1) d_L_law_641 (by decide) ?_
  refine gm_iadd d_L_law_642 ?_
  refine gm_sldN d_L_law_643 rfl (fun y122 _ => ?_)
  refine gm_grd (fun g644 => ?_)
  refine gm_callV (k0 := 12) [.int y122] (c_X12_slack q5 y122 m120) g644 rfl B_X12_slack gw_1162 gw_1164 (gm_hit2 (Nat.le_of_ble_eq_true rfl) (Nat.le_of_ble_eq_true rfl) (by show _ ≤ 600000; omega) (by show _ ≤ 7302250; omega)) rfl rfl d_L_law_644 (gm_kI (fun x124 m123 => ?_))
  refine gm_pop d_L_law_647 rfl ?_
  refine gm_goto (tgt := 1257) d_L_law_648 (by decide) ?_
  refine gm_widen (k' := 200 + 5 * s9.1.toNatClampNeg + 5) (n' := 8000 + 140 * s9.1.toNatClampNeg + 140) (by omega) (by omega) ?_
  exact hj12 m123
set_option maxHeartbeats 4000000 in
theorem cl_15 {nm0 : String} {a N : Nat} {xs : Nat → Int32} {res : Option Value} {μe : gm_M} {q1 q5 : Nat} {s9 : Int32 × gm_M} {G : Int32 × gm_M → Prop} (hg : ¬ s9.1 < 0 ∧ Int32.toNatClampNeg s9.1 ≤ 4096) {j12 : gm_M → Option ((Int32 × gm_M) ⊕ (Option Value × gm_M))}
    (hj12 : ∀ s : gm_M, gm_A "GumBubbleLaw" (nm0, gm_sx a N xs) code 4 (some .boolean) room_1 res μe (200 + 5 * s9.1.toNatClampNeg + 5) (8000 + 140 * s9.1.toNatClampNeg + 140) s 1257 [(0, .float 0), (1, .ref q1), (2, .ref q5), (3, .int s9.1)] [] (j12 s) (gm_kl G (fun b => b = (res, μe)))) :
    gm_A "GumBubbleLaw" (nm0, gm_sx a N xs) code 4 (some .boolean) room_1 res μe (200 + 5 * s9.1.toNatClampNeg) (8000 + 140 * s9.1.toNatClampNeg) s9.2 651 [(0, .float 0), (1, .ref q1), (2, .ref q5), (3, .int s9.1)] []
      (gm_xl xs N (s9.1 + (1 : Int32)) (fun y125 => gm_xl xs N (s9.1 + (2 : Int32)) (fun y126 => gm_xl xs N (s9.1 + (3 : Int32)) (fun y127 => if gm_tag s9.2 q1 = 16 then gm_bL (f_X11_likely q1 y125 y126 y127 s9.2) (fun x129 m128 => gm_xl xs N (s9.1 + (1 : Int32)) (fun y130 => gm_xl xs N (s9.1 + (2 : Int32)) (fun y131 => gm_xl xs N (s9.1 + (3 : Int32)) (fun y132 => if gm_tag m128 q5 = 17 then gm_bL (f_X12_likely q5 y130 y131 y132 m128) (fun x134 m133 => j12 m133) else none)))) else none)))) (gm_kl G (fun b => b = (res, μe))) := by
  refine gm_aload_n d_L_law_651 rfl 1 rfl ?_
  refine gm_aloadS d_L_law_652 rfl 0 rfl ?_
  refine gm_iload_n d_L_law_653 rfl 3 rfl ?_
  refine gm_iconst (v := 1) d_L_law_654 (by decide) ?_
  refine gm_iadd d_L_law_655 ?_
  refine gm_sldN d_L_law_656 rfl (fun y125 _ => ?_)
  refine gm_aloadS d_L_law_657 rfl 0 rfl ?_
  refine gm_iload_n d_L_law_658 rfl 3 rfl ?_
  refine gm_iconst (v := 2) d_L_law_659 (by decide) ?_
  refine gm_iadd d_L_law_660 ?_
  refine gm_sldN d_L_law_661 rfl (fun y126 _ => ?_)
  refine gm_aloadS d_L_law_662 rfl 0 rfl ?_
  refine gm_iload_n d_L_law_663 rfl 3 rfl ?_
  refine gm_iconst (v := 3) d_L_law_664 (by decide) ?_
  refine gm_iadd d_L_law_665 ?_
  refine gm_sldN d_L_law_666 rfl (fun y127 _ => ?_)
  refine gm_grd (fun g667 => ?_)
  refine gm_callV (k0 := 11) [.int y125, .int y126, .int y127] (c_X11_likely q1 y125 y126 y127 s9.2) g667 rfl B_X11_likely gw_648 gw_650 (gm_hit2 (Nat.le_of_ble_eq_true rfl) (Nat.le_of_ble_eq_true rfl) (by show _ ≤ 600000; omega) (by show _ ≤ 7302250; omega)) rfl rfl d_L_law_667 (gm_kL (fun x129 m128 => ?_))
  refine gm_pop2 d_L_law_670 rfl ?_
  refine gm_aload_n d_L_law_671 rfl 2 rfl ?_
  refine gm_aloadS d_L_law_672 rfl 0 rfl ?_
  refine gm_iload_n d_L_law_673 rfl 3 rfl ?_
  refine gm_iconst (v := 1) d_L_law_674 (by decide) ?_
  refine gm_iadd d_L_law_675 ?_
  refine gm_sldN d_L_law_676 rfl (fun y130 _ => ?_)
  refine gm_aloadS d_L_law_677 rfl 0 rfl ?_
  refine gm_iload_n d_L_law_678 rfl 3 rfl ?_
  refine gm_iconst (v := 2) d_L_law_679 (by decide) ?_
  refine gm_iadd d_L_law_680 ?_
  refine gm_sldN d_L_law_681 rfl (fun y131 _ => ?_)
  refine gm_aloadS d_L_law_682 rfl 0 rfl ?_
  refine gm_iload_n d_L_law_683 rfl 3 rfl ?_
  refine gm_iconst (v := 3) d_L_law_684 (by decide) ?_
  refine gm_iadd d_L_law_685 ?_
  refine gm_sldN d_L_law_686 rfl (fun y132 _ => ?_)
  refine gm_grd (fun g687 => ?_)
  refine gm_callV (k0 := 12) [.int y130, .int y131, .int y132] (c_X12_likely q5 y130 y131 y132 m128) g687 rfl B_X12_likely gw_1166 gw_1168 (gm_hit2 (Nat.le_of_ble_eq_true rfl) (Nat.le_of_ble_eq_true rfl) (by show _ ≤ 600000; omega) (by show _ ≤ 7302250; omega)) rfl rfl d_L_law_687 (gm_kL (fun x134 m133 => ?_))
  refine gm_pop2 d_L_law_690 rfl ?_
  refine gm_goto (tgt := 1257) d_L_law_691 (by decide) ?_
  refine gm_widen (k' := 200 + 5 * s9.1.toNatClampNeg + 5) (n' := 8000 + 140 * s9.1.toNatClampNeg + 140) (by omega) (by omega) ?_
  exact hj12 m133
set_option maxHeartbeats 4000000 in
theorem cl_16 {nm0 : String} {a N : Nat} {xs : Nat → Int32} {res : Option Value} {μe : gm_M} {q1 q5 : Nat} {s9 : Int32 × gm_M} {G : Int32 × gm_M → Prop} (hg : ¬ s9.1 < 0 ∧ Int32.toNatClampNeg s9.1 ≤ 4096) {j12 : gm_M → Option ((Int32 × gm_M) ⊕ (Option Value × gm_M))}
    (hj12 : ∀ s : gm_M, gm_A "GumBubbleLaw" (nm0, gm_sx a N xs) code 4 (some .boolean) room_1 res μe (200 + 5 * s9.1.toNatClampNeg + 5) (8000 + 140 * s9.1.toNatClampNeg + 140) s 1257 [(0, .float 0), (1, .ref q1), (2, .ref q5), (3, .int s9.1)] [] (j12 s) (gm_kl G (fun b => b = (res, μe)))) :
    gm_A "GumBubbleLaw" (nm0, gm_sx a N xs) code 4 (some .boolean) room_1 res μe (200 + 5 * s9.1.toNatClampNeg) (8000 + 140 * s9.1.toNatClampNeg) s9.2 694 [(0, .float 0), (1, .ref q1), (2, .ref q5), (3, .int s9.1)] []
      (gm_xl xs N (s9.1 + (1 : Int32)) (fun y135 => if gm_tag s9.2 q1 = 16 then gm_bI (f_X11_dare q1 y135 s9.2) (fun x137 m136 => gm_xl xs N (s9.1 + (1 : Int32)) (fun y138 => if gm_tag m136 q5 = 17 then gm_bI (f_X12_dare q5 y138 m136) (fun x140 m139 => j12 m139) else none)) else none)) (gm_kl G (fun b => b = (res, μe))) := by
  refine gm_aload_n d_L_law_694 rfl 1 rfl ?_
  refine gm_aloadS d_L_law_695 rfl 0 rfl ?_
  refine gm_iload_n d_L_law_696 rfl 3 rfl ?_
  refine gm_iconst (v := 1) d_L_law_697 (by decide) ?_
  refine gm_iadd d_L_law_698 ?_
  refine gm_sldN d_L_law_699 rfl (fun y135 _ => ?_)
  refine gm_grd (fun g700 => ?_)
  refine gm_callV (k0 := 11) [.int y135] (c_X11_dare q1 y135 s9.2) g700 rfl B_X11_dare gw_668 gw_670 (gm_hit2 (Nat.le_of_ble_eq_true rfl) (Nat.le_of_ble_eq_true rfl) (by show _ ≤ 600000; omega) (by show _ ≤ 7302250; omega)) rfl rfl d_L_law_700 (gm_kI (fun x137 m136 => ?_))
  refine gm_pop d_L_law_703 rfl ?_
  refine gm_aload_n d_L_law_704 rfl 2 rfl ?_
  refine gm_aloadS d_L_law_705 rfl 0 rfl ?_
  refine gm_iload_n d_L_law_706 rfl 3 rfl ?_
  refine gm_iconst (v := 1) d_L_law_707 (by decide) ?_
  refine gm_iadd d_L_law_708 ?_
  refine gm_sldN d_L_law_709 rfl (fun y138 _ => ?_)
  refine gm_grd (fun g710 => ?_)
  refine gm_callV (k0 := 12) [.int y138] (c_X12_dare q5 y138 m136) g710 rfl B_X12_dare gw_1181 gw_1183 (gm_hit2 (Nat.le_of_ble_eq_true rfl) (Nat.le_of_ble_eq_true rfl) (by show _ ≤ 600000; omega) (by show _ ≤ 7302250; omega)) rfl rfl d_L_law_710 (gm_kI (fun x140 m139 => ?_))
  refine gm_pop d_L_law_713 rfl ?_
  refine gm_goto (tgt := 1257) d_L_law_714 (by decide) ?_
  refine gm_widen (k' := 200 + 5 * s9.1.toNatClampNeg + 5) (n' := 8000 + 140 * s9.1.toNatClampNeg + 140) (by omega) (by omega) ?_
  exact hj12 m139
set_option maxHeartbeats 4000000 in
theorem cl_17 {nm0 : String} {a N : Nat} {xs : Nat → Int32} {res : Option Value} {μe : gm_M} {q1 q5 : Nat} {s9 : Int32 × gm_M} {G : Int32 × gm_M → Prop} (hg : ¬ s9.1 < 0 ∧ Int32.toNatClampNeg s9.1 ≤ 4096) {j12 : gm_M → Option ((Int32 × gm_M) ⊕ (Option Value × gm_M))}
    (hj12 : ∀ s : gm_M, gm_A "GumBubbleLaw" (nm0, gm_sx a N xs) code 4 (some .boolean) room_1 res μe (200 + 5 * s9.1.toNatClampNeg + 5) (8000 + 140 * s9.1.toNatClampNeg + 140) s 1257 [(0, .float 0), (1, .ref q1), (2, .ref q5), (3, .int s9.1)] [] (j12 s) (gm_kl G (fun b => b = (res, μe)))) :
    gm_A "GumBubbleLaw" (nm0, gm_sx a N xs) code 4 (some .boolean) room_1 res μe (200 + 5 * s9.1.toNatClampNeg) (8000 + 140 * s9.1.toNatClampNeg) s9.2 717 [(0, .float 0), (1, .ref q1), (2, .ref q5), (3, .int s9.1)] []
      (if gm_tag s9.2 q1 = 16 then gm_bI (f_X11_first q1 s9.2) (fun x142 m141 => if gm_tag m141 q5 = 17 then gm_bI (f_X12_first q5 m141) (fun x144 m143 => j12 m143) else none) else none) (gm_kl G (fun b => b = (res, μe))) := by
  refine gm_aload_n d_L_law_717 rfl 1 rfl ?_
  refine gm_grd (fun g718 => ?_)
  refine gm_callV (k0 := 11) [] (c_X11_first q1 s9.2) g718 rfl B_X11_first gw_673 gw_675 (gm_hit2 (Nat.le_of_ble_eq_true rfl) (Nat.le_of_ble_eq_true rfl) (by show _ ≤ 600000; omega) (by show _ ≤ 7302250; omega)) rfl rfl d_L_law_718 (gm_kI (fun x142 m141 => ?_))
  refine gm_pop d_L_law_721 rfl ?_
  refine gm_aload_n d_L_law_722 rfl 2 rfl ?_
  refine gm_grd (fun g723 => ?_)
  refine gm_callV (k0 := 12) [] (c_X12_first q5 m141) g723 rfl B_X12_first gw_1185 gw_1187 (gm_hit2 (Nat.le_of_ble_eq_true rfl) (Nat.le_of_ble_eq_true rfl) (by show _ ≤ 600000; omega) (by show _ ≤ 7302250; omega)) rfl rfl d_L_law_723 (gm_kI (fun x144 m143 => ?_))
  refine gm_pop d_L_law_726 rfl ?_
  refine gm_goto (tgt := 1257) d_L_law_727 (by decide) ?_
  refine gm_widen (k' := 200 + 5 * s9.1.toNatClampNeg + 5) (n' := 8000 + 140 * s9.1.toNatClampNeg + 140) (by omega) (by omega) ?_
  exact hj12 m143
set_option maxHeartbeats 4000000 in
theorem cl_18 {nm0 : String} {a N : Nat} {xs : Nat → Int32} {res : Option Value} {μe : gm_M} {q1 q5 : Nat} {s9 : Int32 × gm_M} {G : Int32 × gm_M → Prop} (hg : ¬ s9.1 < 0 ∧ Int32.toNatClampNeg s9.1 ≤ 4096) {j12 : gm_M → Option ((Int32 × gm_M) ⊕ (Option Value × gm_M))}
    (hj12 : ∀ s : gm_M, gm_A "GumBubbleLaw" (nm0, gm_sx a N xs) code 4 (some .boolean) room_1 res μe (200 + 5 * s9.1.toNatClampNeg + 5) (8000 + 140 * s9.1.toNatClampNeg + 140) s 1257 [(0, .float 0), (1, .ref q1), (2, .ref q5), (3, .int s9.1)] [] (j12 s) (gm_kl G (fun b => b = (res, μe)))) :
    gm_A "GumBubbleLaw" (nm0, gm_sx a N xs) code 4 (some .boolean) room_1 res μe (200 + 5 * s9.1.toNatClampNeg) (8000 + 140 * s9.1.toNatClampNeg) s9.2 730 [(0, .float 0), (1, .ref q1), (2, .ref q5), (3, .int s9.1)] []
      (gm_xl xs N (s9.1 + (1 : Int32)) (fun y145 => gm_xl xs N (s9.1 + (2 : Int32)) (fun y146 => gm_xl xs N (s9.1 + (3 : Int32)) (fun y147 => if gm_tag s9.2 q1 = 16 then gm_bL (f_X11_beats q1 y145 y146 y147 s9.2) (fun x149 m148 => gm_xl xs N (s9.1 + (1 : Int32)) (fun y150 => gm_xl xs N (s9.1 + (2 : Int32)) (fun y151 => gm_xl xs N (s9.1 + (3 : Int32)) (fun y152 => if gm_tag m148 q5 = 17 then gm_bL (f_X12_beats q5 y150 y151 y152 m148) (fun x154 m153 => j12 m153) else none)))) else none)))) (gm_kl G (fun b => b = (res, μe))) := by
  refine gm_aload_n d_L_law_730 rfl 1 rfl ?_
  refine gm_aloadS d_L_law_731 rfl 0 rfl ?_
  refine gm_iload_n d_L_law_732 rfl 3 rfl ?_
  refine gm_iconst (v := 1) d_L_law_733 (by decide) ?_
  refine gm_iadd d_L_law_734 ?_
  refine gm_sldN d_L_law_735 rfl (fun y145 _ => ?_)
  refine gm_aloadS d_L_law_736 rfl 0 rfl ?_
  refine gm_iload_n d_L_law_737 rfl 3 rfl ?_
  refine gm_iconst (v := 2) d_L_law_738 (by decide) ?_
  refine gm_iadd d_L_law_739 ?_
  refine gm_sldN d_L_law_740 rfl (fun y146 _ => ?_)
  refine gm_aloadS d_L_law_741 rfl 0 rfl ?_
  refine gm_iload_n d_L_law_742 rfl 3 rfl ?_
  refine gm_iconst (v := 3) d_L_law_743 (by decide) ?_
  refine gm_iadd d_L_law_744 ?_
  refine gm_sldN d_L_law_745 rfl (fun y147 _ => ?_)
  refine gm_grd (fun g746 => ?_)
  refine gm_callV (k0 := 11) [.int y145, .int y146, .int y147] (c_X11_beats q1 y145 y146 y147 s9.2) g746 rfl B_X11_beats gw_677 gw_679 (gm_hit2 (Nat.le_of_ble_eq_true rfl) (Nat.le_of_ble_eq_true rfl) (by show _ ≤ 600000; omega) (by show _ ≤ 7302250; omega)) rfl rfl d_L_law_746 (gm_kL (fun x149 m148 => ?_))
  refine gm_pop2 d_L_law_749 rfl ?_
  refine gm_aload_n d_L_law_750 rfl 2 rfl ?_
  refine gm_aloadS d_L_law_751 rfl 0 rfl ?_
  refine gm_iload_n d_L_law_752 rfl 3 rfl ?_
  refine gm_iconst (v := 1) d_L_law_753 (by decide) ?_
  refine gm_iadd d_L_law_754 ?_
  refine gm_sldN d_L_law_755 rfl (fun y150 _ => ?_)
  refine gm_aloadS d_L_law_756 rfl 0 rfl ?_
  refine gm_iload_n d_L_law_757 rfl 3 rfl ?_
  refine gm_iconst (v := 2) d_L_law_758 (by decide) ?_
  refine gm_iadd d_L_law_759 ?_
  refine gm_sldN d_L_law_760 rfl (fun y151 _ => ?_)
  refine gm_aloadS d_L_law_761 rfl 0 rfl ?_
  refine gm_iload_n d_L_law_762 rfl 3 rfl ?_
  refine gm_iconst (v := 3) d_L_law_763 (by decide) ?_
  refine gm_iadd d_L_law_764 ?_
  refine gm_sldN d_L_law_765 rfl (fun y152 _ => ?_)
  refine gm_grd (fun g766 => ?_)
  refine gm_callV (k0 := 12) [.int y150, .int y151, .int y152] (c_X12_beats q5 y150 y151 y152 m148) g766 rfl B_X12_beats gw_1189 gw_1191 (gm_hit2 (Nat.le_of_ble_eq_true rfl) (Nat.le_of_ble_eq_true rfl) (by show _ ≤ 600000; omega) (by show _ ≤ 7302250; omega)) rfl rfl d_L_law_766 (gm_kL (fun x154 m153 => ?_))
  refine gm_pop2 d_L_law_769 rfl ?_
  refine gm_goto (tgt := 1257) d_L_law_770 (by decide) ?_
  refine gm_widen (k' := 200 + 5 * s9.1.toNatClampNeg + 5) (n' := 8000 + 140 * s9.1.toNatClampNeg + 140) (by omega) (by omega) ?_
  exact hj12 m153
set_option maxHeartbeats 4000000 in
theorem cl_19 {nm0 : String} {a N : Nat} {xs : Nat → Int32} {res : Option Value} {μe : gm_M} {q1 q5 : Nat} {s9 : Int32 × gm_M} {G : Int32 × gm_M → Prop} (hg : ¬ s9.1 < 0 ∧ Int32.toNatClampNeg s9.1 ≤ 4096) {j12 : gm_M → Option ((Int32 × gm_M) ⊕ (Option Value × gm_M))}
    (hj12 : ∀ s : gm_M, gm_A "GumBubbleLaw" (nm0, gm_sx a N xs) code 4 (some .boolean) room_1 res μe (200 + 5 * s9.1.toNatClampNeg + 5) (8000 + 140 * s9.1.toNatClampNeg + 140) s 1257 [(0, .float 0), (1, .ref q1), (2, .ref q5), (3, .int s9.1)] [] (j12 s) (gm_kl G (fun b => b = (res, μe)))) :
    gm_A "GumBubbleLaw" (nm0, gm_sx a N xs) code 4 (some .boolean) room_1 res μe (200 + 5 * s9.1.toNatClampNeg) (8000 + 140 * s9.1.toNatClampNeg) s9.2 773 [(0, .float 0), (1, .ref q1), (2, .ref q5), (3, .int s9.1)] []
      (if gm_tag s9.2 q1 = 16 then gm_bI (f_X11_swap q1 s9.2) (fun x156 m155 => if gm_tag m155 q5 = 17 then gm_bI (f_X12_swap q5 m155) (fun x158 m157 => j12 m157) else none) else none) (gm_kl G (fun b => b = (res, μe))) := by
  refine gm_aload_n d_L_law_773 rfl 1 rfl ?_
  refine gm_grd (fun g774 => ?_)
  refine gm_callV (k0 := 11) [] (c_X11_swap q1 s9.2) g774 rfl B_X11_swap gw_681 gw_683 (gm_hit2 (Nat.le_of_ble_eq_true rfl) (Nat.le_of_ble_eq_true rfl) (by show _ ≤ 600000; omega) (by show _ ≤ 7302250; omega)) rfl rfl d_L_law_774 (gm_kI (fun x156 m155 => ?_))
  refine gm_pop d_L_law_777 rfl ?_
  refine gm_aload_n d_L_law_778 rfl 2 rfl ?_
  refine gm_grd (fun g779 => ?_)
  refine gm_callV (k0 := 12) [] (c_X12_swap q5 m155) g779 rfl B_X12_swap gw_1194 gw_1196 (gm_hit2 (Nat.le_of_ble_eq_true rfl) (Nat.le_of_ble_eq_true rfl) (by show _ ≤ 600000; omega) (by show _ ≤ 7302250; omega)) rfl rfl d_L_law_779 (gm_kI (fun x158 m157 => ?_))
  refine gm_pop d_L_law_782 rfl ?_
  refine gm_goto (tgt := 1257) d_L_law_783 (by decide) ?_
  refine gm_widen (k' := 200 + 5 * s9.1.toNatClampNeg + 5) (n' := 8000 + 140 * s9.1.toNatClampNeg + 140) (by omega) (by omega) ?_
  exact hj12 m157
set_option maxHeartbeats 4000000 in
theorem cl_20 {nm0 : String} {a N : Nat} {xs : Nat → Int32} {res : Option Value} {μe : gm_M} {q1 q5 : Nat} {s9 : Int32 × gm_M} {G : Int32 × gm_M → Prop} (hg : ¬ s9.1 < 0 ∧ Int32.toNatClampNeg s9.1 ≤ 4096) {j12 : gm_M → Option ((Int32 × gm_M) ⊕ (Option Value × gm_M))}
    (hj12 : ∀ s : gm_M, gm_A "GumBubbleLaw" (nm0, gm_sx a N xs) code 4 (some .boolean) room_1 res μe (200 + 5 * s9.1.toNatClampNeg + 5) (8000 + 140 * s9.1.toNatClampNeg + 140) s 1257 [(0, .float 0), (1, .ref q1), (2, .ref q5), (3, .int s9.1)] [] (j12 s) (gm_kl G (fun b => b = (res, μe)))) :
    gm_A "GumBubbleLaw" (nm0, gm_sx a N xs) code 4 (some .boolean) room_1 res μe (200 + 5 * s9.1.toNatClampNeg) (8000 + 140 * s9.1.toNatClampNeg) s9.2 786 [(0, .float 0), (1, .ref q1), (2, .ref q5), (3, .int s9.1)] []
      (gm_xl xs N (s9.1 + (1 : Int32)) (fun y159 => if gm_tag s9.2 q1 = 16 then gm_bI (f_X11_order q1 y159 s9.2) (fun x161 m160 => gm_xl xs N (s9.1 + (1 : Int32)) (fun y162 => if gm_tag m160 q5 = 17 then gm_bI (f_X12_order q5 y162 m160) (fun x164 m163 => j12 m163) else none)) else none)) (gm_kl G (fun b => b = (res, μe))) := by
  refine gm_aload_n d_L_law_786 rfl 1 rfl ?_
  refine gm_aloadS d_L_law_787 rfl 0 rfl ?_
  refine gm_iload_n d_L_law_788 rfl 3 rfl ?_
  refine gm_iconst (v := 1) d_L_law_789 (by decide) ?_
  refine gm_iadd d_L_law_790 ?_
  refine gm_sldN d_L_law_791 rfl (fun y159 _ => ?_)
  refine gm_grd (fun g792 => ?_)
  refine gm_callV (k0 := 11) [.int y159] (c_X11_order q1 y159 s9.2) g792 rfl B_X11_order gw_689 gw_691 (gm_hit2 (Nat.le_of_ble_eq_true rfl) (Nat.le_of_ble_eq_true rfl) (by show _ ≤ 600000; omega) (by show _ ≤ 7302250; omega)) rfl rfl d_L_law_792 (gm_kI (fun x161 m160 => ?_))
  refine gm_pop d_L_law_795 rfl ?_
  refine gm_aload_n d_L_law_796 rfl 2 rfl ?_
  refine gm_aloadS d_L_law_797 rfl 0 rfl ?_
  refine gm_iload_n d_L_law_798 rfl 3 rfl ?_
  refine gm_iconst (v := 1) d_L_law_799 (by decide) ?_
  refine gm_iadd d_L_law_800 ?_
  refine gm_sldN d_L_law_801 rfl (fun y162 _ => ?_)
  refine gm_grd (fun g802 => ?_)
  refine gm_callV (k0 := 12) [.int y162] (c_X12_order q5 y162 m160) g802 rfl B_X12_order gw_1206 gw_1208 (gm_hit2 (Nat.le_of_ble_eq_true rfl) (Nat.le_of_ble_eq_true rfl) (by show _ ≤ 600000; omega) (by show _ ≤ 7302250; omega)) rfl rfl d_L_law_802 (gm_kI (fun x164 m163 => ?_))
  refine gm_pop d_L_law_805 rfl ?_
  refine gm_goto (tgt := 1257) d_L_law_806 (by decide) ?_
  refine gm_widen (k' := 200 + 5 * s9.1.toNatClampNeg + 5) (n' := 8000 + 140 * s9.1.toNatClampNeg + 140) (by omega) (by omega) ?_
  exact hj12 m163
set_option maxHeartbeats 4000000 in
theorem cl_21 {nm0 : String} {a N : Nat} {xs : Nat → Int32} {res : Option Value} {μe : gm_M} {q1 q5 : Nat} {s9 : Int32 × gm_M} {G : Int32 × gm_M → Prop} (hg : ¬ s9.1 < 0 ∧ Int32.toNatClampNeg s9.1 ≤ 4096) {j12 : gm_M → Option ((Int32 × gm_M) ⊕ (Option Value × gm_M))}
    (hj12 : ∀ s : gm_M, gm_A "GumBubbleLaw" (nm0, gm_sx a N xs) code 4 (some .boolean) room_1 res μe (200 + 5 * s9.1.toNatClampNeg + 5) (8000 + 140 * s9.1.toNatClampNeg + 140) s 1257 [(0, .float 0), (1, .ref q1), (2, .ref q5), (3, .int s9.1)] [] (j12 s) (gm_kl G (fun b => b = (res, μe)))) :
    gm_A "GumBubbleLaw" (nm0, gm_sx a N xs) code 4 (some .boolean) room_1 res μe (200 + 5 * s9.1.toNatClampNeg) (8000 + 140 * s9.1.toNatClampNeg) s9.2 809 [(0, .float 0), (1, .ref q1), (2, .ref q5), (3, .int s9.1)] []
      (gm_xl xs N (s9.1 + (1 : Int32)) (fun y165 => gm_xl xs N (s9.1 + (2 : Int32)) (fun y166 => if gm_tag s9.2 q1 = 16 then gm_bI (f_X11_clean q1 y165 y166 s9.2) (fun x168 m167 => gm_xl xs N (s9.1 + (1 : Int32)) (fun y169 => gm_xl xs N (s9.1 + (2 : Int32)) (fun y170 => if gm_tag m167 q5 = 17 then gm_bI (f_X12_clean q5 y169 y170 m167) (fun x172 m171 => j12 m171) else none))) else none))) (gm_kl G (fun b => b = (res, μe))) := by
  refine gm_aload_n d_L_law_809 rfl 1 rfl ?_
  refine gm_aloadS d_L_law_810 rfl 0 rfl ?_
  refine gm_iload_n d_L_law_811 rfl 3 rfl ?_
  refine gm_iconst (v := 1) d_L_law_812 (by decide) ?_
  refine gm_iadd d_L_law_813 ?_
  refine gm_sldN d_L_law_814 rfl (fun y165 _ => ?_)
  refine gm_aloadS d_L_law_815 rfl 0 rfl ?_
  refine gm_iload_n d_L_law_816 rfl 3 rfl ?_
  refine gm_iconst (v := 2) d_L_law_817 (by decide) ?_
  refine gm_iadd d_L_law_818 ?_
  refine gm_sldN d_L_law_819 rfl (fun y166 _ => ?_)
  refine gm_grd (fun g820 => ?_)
  refine gm_callV (k0 := 11) [.int y165, .int y166] (c_X11_clean q1 y165 y166 s9.2) g820 rfl B_X11_clean gw_702 gw_704 (gm_hit2 (Nat.le_of_ble_eq_true rfl) (Nat.le_of_ble_eq_true rfl) (by show _ ≤ 600000; omega) (by show _ ≤ 7302250; omega)) rfl rfl d_L_law_820 (gm_kI (fun x168 m167 => ?_))
  refine gm_pop d_L_law_823 rfl ?_
  refine gm_aload_n d_L_law_824 rfl 2 rfl ?_
  refine gm_aloadS d_L_law_825 rfl 0 rfl ?_
  refine gm_iload_n d_L_law_826 rfl 3 rfl ?_
  refine gm_iconst (v := 1) d_L_law_827 (by decide) ?_
  refine gm_iadd d_L_law_828 ?_
  refine gm_sldN d_L_law_829 rfl (fun y169 _ => ?_)
  refine gm_aloadS d_L_law_830 rfl 0 rfl ?_
  refine gm_iload_n d_L_law_831 rfl 3 rfl ?_
  refine gm_iconst (v := 2) d_L_law_832 (by decide) ?_
  refine gm_iadd d_L_law_833 ?_
  refine gm_sldN d_L_law_834 rfl (fun y170 _ => ?_)
  refine gm_grd (fun g835 => ?_)
  refine gm_callV (k0 := 12) [.int y169, .int y170] (c_X12_clean q5 y169 y170 m167) g835 rfl B_X12_clean gw_1214 gw_1216 (gm_hit2 (Nat.le_of_ble_eq_true rfl) (Nat.le_of_ble_eq_true rfl) (by show _ ≤ 600000; omega) (by show _ ≤ 7302250; omega)) rfl rfl d_L_law_835 (gm_kI (fun x172 m171 => ?_))
  refine gm_pop d_L_law_838 rfl ?_
  refine gm_goto (tgt := 1257) d_L_law_839 (by decide) ?_
  refine gm_widen (k' := 200 + 5 * s9.1.toNatClampNeg + 5) (n' := 8000 + 140 * s9.1.toNatClampNeg + 140) (by omega) (by omega) ?_
  exact hj12 m171
set_option maxHeartbeats 4000000 in
theorem cl_22 {nm0 : String} {a N : Nat} {xs : Nat → Int32} {res : Option Value} {μe : gm_M} {q1 q5 : Nat} {s9 : Int32 × gm_M} {G : Int32 × gm_M → Prop} (hg : ¬ s9.1 < 0 ∧ Int32.toNatClampNeg s9.1 ≤ 4096) {j12 : gm_M → Option ((Int32 × gm_M) ⊕ (Option Value × gm_M))}
    (hj12 : ∀ s : gm_M, gm_A "GumBubbleLaw" (nm0, gm_sx a N xs) code 4 (some .boolean) room_1 res μe (200 + 5 * s9.1.toNatClampNeg + 5) (8000 + 140 * s9.1.toNatClampNeg + 140) s 1257 [(0, .float 0), (1, .ref q1), (2, .ref q5), (3, .int s9.1)] [] (j12 s) (gm_kl G (fun b => b = (res, μe)))) :
    gm_A "GumBubbleLaw" (nm0, gm_sx a N xs) code 4 (some .boolean) room_1 res μe (200 + 5 * s9.1.toNatClampNeg) (8000 + 140 * s9.1.toNatClampNeg) s9.2 842 [(0, .float 0), (1, .ref q1), (2, .ref q5), (3, .int s9.1)] []
      (gm_xl xs N (s9.1 + (1 : Int32)) (fun y173 => gm_xl xs N (s9.1 + (2 : Int32)) (fun y174 => gm_xl xs N (s9.1 + (3 : Int32)) (fun y175 => if gm_tag s9.2 q1 = 16 then gm_bI (f_X11_see q1 y173 y174 y175 s9.2) (fun x177 m176 => gm_xl xs N (s9.1 + (1 : Int32)) (fun y178 => gm_xl xs N (s9.1 + (2 : Int32)) (fun y179 => gm_xl xs N (s9.1 + (3 : Int32)) (fun y180 => if gm_tag m176 q5 = 17 then gm_bI (f_X12_see q5 y178 y179 y180 m176) (fun x182 m181 => j12 m181) else none)))) else none)))) (gm_kl G (fun b => b = (res, μe))) := by
  refine gm_aload_n d_L_law_842 rfl 1 rfl ?_
  refine gm_aloadS d_L_law_843 rfl 0 rfl ?_
  refine gm_iload_n d_L_law_844 rfl 3 rfl ?_
  refine gm_iconst (v := 1) d_L_law_845 (by decide) ?_
  refine gm_iadd d_L_law_846 ?_
  refine gm_sldN d_L_law_847 rfl (fun y173 _ => ?_)
  refine gm_aloadS d_L_law_848 rfl 0 rfl ?_
  refine gm_iload_n d_L_law_849 rfl 3 rfl ?_
  refine gm_iconst (v := 2) d_L_law_850 (by decide) ?_
  refine gm_iadd d_L_law_851 ?_
  refine gm_sldN d_L_law_852 rfl (fun y174 _ => ?_)
  refine gm_aloadS d_L_law_853 rfl 0 rfl ?_
  refine gm_iload_n d_L_law_854 rfl 3 rfl ?_
  refine gm_iconst (v := 3) d_L_law_855 (by decide) ?_
  refine gm_iadd d_L_law_856 ?_
  refine gm_sldN d_L_law_857 rfl (fun y175 _ => ?_)
  refine gm_grd (fun g858 => ?_)
  refine gm_callV (k0 := 11) [.int y173, .int y174, .int y175] (c_X11_see q1 y173 y174 y175 s9.2) g858 rfl B_X11_see gw_706 gw_708 (gm_hit2 (Nat.le_of_ble_eq_true rfl) (Nat.le_of_ble_eq_true rfl) (by show _ ≤ 600000; omega) (by show _ ≤ 7302250; omega)) rfl rfl d_L_law_858 (gm_kI (fun x177 m176 => ?_))
  refine gm_pop d_L_law_861 rfl ?_
  refine gm_aload_n d_L_law_862 rfl 2 rfl ?_
  refine gm_aloadS d_L_law_863 rfl 0 rfl ?_
  refine gm_iload_n d_L_law_864 rfl 3 rfl ?_
  refine gm_iconst (v := 1) d_L_law_865 (by decide) ?_
  refine gm_iadd d_L_law_866 ?_
  refine gm_sldN d_L_law_867 rfl (fun y178 _ => ?_)
  refine gm_aloadS d_L_law_868 rfl 0 rfl ?_
  refine gm_iload_n d_L_law_869 rfl 3 rfl ?_
  refine gm_iconst (v := 2) d_L_law_870 (by decide) ?_
  refine gm_iadd d_L_law_871 ?_
  refine gm_sldN d_L_law_872 rfl (fun y179 _ => ?_)
  refine gm_aloadS d_L_law_873 rfl 0 rfl ?_
  refine gm_iload_n d_L_law_874 rfl 3 rfl ?_
  refine gm_iconst (v := 3) d_L_law_875 (by decide) ?_
  refine gm_iadd d_L_law_876 ?_
  refine gm_sldN d_L_law_877 rfl (fun y180 _ => ?_)
  refine gm_grd (fun g878 => ?_)
  refine gm_callV (k0 := 12) [.int y178, .int y179, .int y180] (c_X12_see q5 y178 y179 y180 m176) g878 rfl B_X12_see gw_1218 gw_1220 (gm_hit2 (Nat.le_of_ble_eq_true rfl) (Nat.le_of_ble_eq_true rfl) (by show _ ≤ 600000; omega) (by show _ ≤ 7302250; omega)) rfl rfl d_L_law_878 (gm_kI (fun x182 m181 => ?_))
  refine gm_pop d_L_law_881 rfl ?_
  refine gm_goto (tgt := 1257) d_L_law_882 (by decide) ?_
  refine gm_widen (k' := 200 + 5 * s9.1.toNatClampNeg + 5) (n' := 8000 + 140 * s9.1.toNatClampNeg + 140) (by omega) (by omega) ?_
  exact hj12 m181
set_option maxHeartbeats 4000000 in
theorem cl_23 {nm0 : String} {a N : Nat} {xs : Nat → Int32} {res : Option Value} {μe : gm_M} {q1 q5 : Nat} {s9 : Int32 × gm_M} {G : Int32 × gm_M → Prop} (hg : ¬ s9.1 < 0 ∧ Int32.toNatClampNeg s9.1 ≤ 4096) {j12 : gm_M → Option ((Int32 × gm_M) ⊕ (Option Value × gm_M))}
    (hj12 : ∀ s : gm_M, gm_A "GumBubbleLaw" (nm0, gm_sx a N xs) code 4 (some .boolean) room_1 res μe (200 + 5 * s9.1.toNatClampNeg + 5) (8000 + 140 * s9.1.toNatClampNeg + 140) s 1257 [(0, .float 0), (1, .ref q1), (2, .ref q5), (3, .int s9.1)] [] (j12 s) (gm_kl G (fun b => b = (res, μe)))) :
    gm_A "GumBubbleLaw" (nm0, gm_sx a N xs) code 4 (some .boolean) room_1 res μe (200 + 5 * s9.1.toNatClampNeg) (8000 + 140 * s9.1.toNatClampNeg) s9.2 885 [(0, .float 0), (1, .ref q1), (2, .ref q5), (3, .int s9.1)] []
      (gm_xl xs N (s9.1 + (1 : Int32)) (fun y183 => gm_xl xs N (s9.1 + (2 : Int32)) (fun y184 => if gm_tag s9.2 q1 = 16 then gm_bI (f_X11_who q1 y183 y184 s9.2) (fun x186 m185 => gm_xl xs N (s9.1 + (1 : Int32)) (fun y187 => gm_xl xs N (s9.1 + (2 : Int32)) (fun y188 => if gm_tag m185 q5 = 17 then gm_bI (f_X12_who q5 y187 y188 m185) (fun x190 m189 => j12 m189) else none))) else none))) (gm_kl G (fun b => b = (res, μe))) := by
  refine gm_aload_n d_L_law_885 rfl 1 rfl ?_
  refine gm_aloadS d_L_law_886 rfl 0 rfl ?_
  refine gm_iload_n d_L_law_887 rfl 3 rfl ?_
  refine gm_iconst (v := 1) d_L_law_888 (by decide) ?_
  refine gm_iadd d_L_law_889 ?_
  refine gm_sldN d_L_law_890 rfl (fun y183 _ => ?_)
  refine gm_aloadS d_L_law_891 rfl 0 rfl ?_
  refine gm_iload_n d_L_law_892 rfl 3 rfl ?_
  refine gm_iconst (v := 2) d_L_law_893 (by decide) ?_
  refine gm_iadd d_L_law_894 ?_
  refine gm_sldN d_L_law_895 rfl (fun y184 _ => ?_)
  refine gm_grd (fun g896 => ?_)
  refine gm_callV (k0 := 11) [.int y183, .int y184] (c_X11_who q1 y183 y184 s9.2) g896 rfl B_X11_who gw_722 gw_724 (gm_hit2 (Nat.le_of_ble_eq_true rfl) (Nat.le_of_ble_eq_true rfl) (by show _ ≤ 600000; omega) (by show _ ≤ 7302250; omega)) rfl rfl d_L_law_896 (gm_kI (fun x186 m185 => ?_))
  refine gm_pop d_L_law_899 rfl ?_
  refine gm_aload_n d_L_law_900 rfl 2 rfl ?_
  refine gm_aloadS d_L_law_901 rfl 0 rfl ?_
  refine gm_iload_n d_L_law_902 rfl 3 rfl ?_
  refine gm_iconst (v := 1) d_L_law_903 (by decide) ?_
  refine gm_iadd d_L_law_904 ?_
  refine gm_sldN d_L_law_905 rfl (fun y187 _ => ?_)
  refine gm_aloadS d_L_law_906 rfl 0 rfl ?_
  refine gm_iload_n d_L_law_907 rfl 3 rfl ?_
  refine gm_iconst (v := 2) d_L_law_908 (by decide) ?_
  refine gm_iadd d_L_law_909 ?_
  refine gm_sldN d_L_law_910 rfl (fun y188 _ => ?_)
  refine gm_grd (fun g911 => ?_)
  refine gm_callV (k0 := 12) [.int y187, .int y188] (c_X12_who q5 y187 y188 m185) g911 rfl B_X12_who gw_1222 gw_1224 (gm_hit2 (Nat.le_of_ble_eq_true rfl) (Nat.le_of_ble_eq_true rfl) (by show _ ≤ 600000; omega) (by show _ ≤ 7302250; omega)) rfl rfl d_L_law_911 (gm_kI (fun x190 m189 => ?_))
  refine gm_pop d_L_law_914 rfl ?_
  refine gm_goto (tgt := 1257) d_L_law_915 (by decide) ?_
  refine gm_widen (k' := 200 + 5 * s9.1.toNatClampNeg + 5) (n' := 8000 + 140 * s9.1.toNatClampNeg + 140) (by omega) (by omega) ?_
  exact hj12 m189
set_option maxHeartbeats 4000000 in
theorem cl_24 {nm0 : String} {a N : Nat} {xs : Nat → Int32} {res : Option Value} {μe : gm_M} {q1 q5 : Nat} {s9 : Int32 × gm_M} {G : Int32 × gm_M → Prop} (hg : ¬ s9.1 < 0 ∧ Int32.toNatClampNeg s9.1 ≤ 4096) {j12 : gm_M → Option ((Int32 × gm_M) ⊕ (Option Value × gm_M))}
    (hj12 : ∀ s : gm_M, gm_A "GumBubbleLaw" (nm0, gm_sx a N xs) code 4 (some .boolean) room_1 res μe (200 + 5 * s9.1.toNatClampNeg + 5) (8000 + 140 * s9.1.toNatClampNeg + 140) s 1257 [(0, .float 0), (1, .ref q1), (2, .ref q5), (3, .int s9.1)] [] (j12 s) (gm_kl G (fun b => b = (res, μe)))) :
    gm_A "GumBubbleLaw" (nm0, gm_sx a N xs) code 4 (some .boolean) room_1 res μe (200 + 5 * s9.1.toNatClampNeg) (8000 + 140 * s9.1.toNatClampNeg) s9.2 918 [(0, .float 0), (1, .ref q1), (2, .ref q5), (3, .int s9.1)] []
      (gm_xl xs N (s9.1 + (1 : Int32)) (fun y191 => gm_xl xs N (s9.1 + (2 : Int32)) (fun y192 => if gm_tag s9.2 q1 = 16 then gm_bI (f_X11_firm q1 y191 y192 s9.2) (fun x194 m193 => gm_xl xs N (s9.1 + (1 : Int32)) (fun y195 => gm_xl xs N (s9.1 + (2 : Int32)) (fun y196 => if gm_tag m193 q5 = 17 then gm_bI (f_X12_firm q5 y195 y196 m193) (fun x198 m197 => j12 m197) else none))) else none))) (gm_kl G (fun b => b = (res, μe))) := by
  refine gm_aload_n d_L_law_918 rfl 1 rfl ?_
  refine gm_aloadS d_L_law_919 rfl 0 rfl ?_
  refine gm_iload_n d_L_law_920 rfl 3 rfl ?_
  refine gm_iconst (v := 1) d_L_law_921 (by decide) ?_
  refine gm_iadd d_L_law_922 ?_
  refine gm_sldN d_L_law_923 rfl (fun y191 _ => ?_)
  refine gm_aloadS d_L_law_924 rfl 0 rfl ?_
  refine gm_iload_n d_L_law_925 rfl 3 rfl ?_
  refine gm_iconst (v := 2) d_L_law_926 (by decide) ?_
  refine gm_iadd d_L_law_927 ?_
  refine gm_sldN d_L_law_928 rfl (fun y192 _ => ?_)
  refine gm_grd (fun g929 => ?_)
  refine gm_callV (k0 := 11) [.int y191, .int y192] (c_X11_firm q1 y191 y192 s9.2) g929 rfl B_X11_firm gw_726 gw_728 (gm_hit2 (Nat.le_of_ble_eq_true rfl) (Nat.le_of_ble_eq_true rfl) (by show _ ≤ 600000; omega) (by show _ ≤ 7302250; omega)) rfl rfl d_L_law_929 (gm_kI (fun x194 m193 => ?_))
  refine gm_pop d_L_law_932 rfl ?_
  refine gm_aload_n d_L_law_933 rfl 2 rfl ?_
  refine gm_aloadS d_L_law_934 rfl 0 rfl ?_
  refine gm_iload_n d_L_law_935 rfl 3 rfl ?_
  refine gm_iconst (v := 1) d_L_law_936 (by decide) ?_
  refine gm_iadd d_L_law_937 ?_
  refine gm_sldN d_L_law_938 rfl (fun y195 _ => ?_)
  refine gm_aloadS d_L_law_939 rfl 0 rfl ?_
  refine gm_iload_n d_L_law_940 rfl 3 rfl ?_
  refine gm_iconst (v := 2) d_L_law_941 (by decide) ?_
  refine gm_iadd d_L_law_942 ?_
  refine gm_sldN d_L_law_943 rfl (fun y196 _ => ?_)
  refine gm_grd (fun g944 => ?_)
  refine gm_callV (k0 := 12) [.int y195, .int y196] (c_X12_firm q5 y195 y196 m193) g944 rfl B_X12_firm gw_1226 gw_1228 (gm_hit2 (Nat.le_of_ble_eq_true rfl) (Nat.le_of_ble_eq_true rfl) (by show _ ≤ 600000; omega) (by show _ ≤ 7302250; omega)) rfl rfl d_L_law_944 (gm_kI (fun x198 m197 => ?_))
  refine gm_pop d_L_law_947 rfl ?_
  refine gm_goto (tgt := 1257) d_L_law_948 (by decide) ?_
  refine gm_widen (k' := 200 + 5 * s9.1.toNatClampNeg + 5) (n' := 8000 + 140 * s9.1.toNatClampNeg + 140) (by omega) (by omega) ?_
  exact hj12 m197
set_option maxHeartbeats 4000000 in
theorem cl_25 {nm0 : String} {a N : Nat} {xs : Nat → Int32} {res : Option Value} {μe : gm_M} {q1 q5 : Nat} {s9 : Int32 × gm_M} {G : Int32 × gm_M → Prop} (hg : ¬ s9.1 < 0 ∧ Int32.toNatClampNeg s9.1 ≤ 4096) {j12 : gm_M → Option ((Int32 × gm_M) ⊕ (Option Value × gm_M))}
    (hj12 : ∀ s : gm_M, gm_A "GumBubbleLaw" (nm0, gm_sx a N xs) code 4 (some .boolean) room_1 res μe (200 + 5 * s9.1.toNatClampNeg + 5) (8000 + 140 * s9.1.toNatClampNeg + 140) s 1257 [(0, .float 0), (1, .ref q1), (2, .ref q5), (3, .int s9.1)] [] (j12 s) (gm_kl G (fun b => b = (res, μe)))) :
    gm_A "GumBubbleLaw" (nm0, gm_sx a N xs) code 4 (some .boolean) room_1 res μe (200 + 5 * s9.1.toNatClampNeg) (8000 + 140 * s9.1.toNatClampNeg) s9.2 951 [(0, .float 0), (1, .ref q1), (2, .ref q5), (3, .int s9.1)] []
      (gm_xl xs N (s9.1 + (1 : Int32)) (fun y199 => if gm_tag s9.2 q1 = 16 then gm_bI (f_X11_had q1 y199 s9.2) (fun x201 m200 => gm_xl xs N (s9.1 + (1 : Int32)) (fun y202 => if gm_tag m200 q5 = 17 then gm_bI (f_X12_had q5 y202 m200) (fun x204 m203 => j12 m203) else none)) else none)) (gm_kl G (fun b => b = (res, μe))) := by
  refine gm_aload_n d_L_law_951 rfl 1 rfl ?_
  refine gm_aloadS d_L_law_952 rfl 0 rfl ?_
  refine gm_iload_n d_L_law_953 rfl 3 rfl ?_
  refine gm_iconst (v := 1) d_L_law_954 (by decide) ?_
  refine gm_iadd d_L_law_955 ?_
  refine gm_sldN d_L_law_956 rfl (fun y199 _ => ?_)
  refine gm_grd (fun g957 => ?_)
  refine gm_callV (k0 := 11) [.int y199] (c_X11_had q1 y199 s9.2) g957 rfl B_X11_had gw_742 gw_744 (gm_hit2 (Nat.le_of_ble_eq_true rfl) (Nat.le_of_ble_eq_true rfl) (by show _ ≤ 600000; omega) (by show _ ≤ 7302250; omega)) rfl rfl d_L_law_957 (gm_kI (fun x201 m200 => ?_))
  refine gm_pop d_L_law_960 rfl ?_
  refine gm_aload_n d_L_law_961 rfl 2 rfl ?_
  refine gm_aloadS d_L_law_962 rfl 0 rfl ?_
  refine gm_iload_n d_L_law_963 rfl 3 rfl ?_
  refine gm_iconst (v := 1) d_L_law_964 (by decide) ?_
  refine gm_iadd d_L_law_965 ?_
  refine gm_sldN d_L_law_966 rfl (fun y202 _ => ?_)
  refine gm_grd (fun g967 => ?_)
  refine gm_callV (k0 := 12) [.int y202] (c_X12_had q5 y202 m200) g967 rfl B_X12_had gw_1238 gw_1240 (gm_hit2 (Nat.le_of_ble_eq_true rfl) (Nat.le_of_ble_eq_true rfl) (by show _ ≤ 600000; omega) (by show _ ≤ 7302250; omega)) rfl rfl d_L_law_967 (gm_kI (fun x204 m203 => ?_))
  refine gm_pop d_L_law_970 rfl ?_
  refine gm_goto (tgt := 1257) d_L_law_971 (by decide) ?_
  refine gm_widen (k' := 200 + 5 * s9.1.toNatClampNeg + 5) (n' := 8000 + 140 * s9.1.toNatClampNeg + 140) (by omega) (by omega) ?_
  exact hj12 m203
set_option maxHeartbeats 4000000 in
theorem cl_26 {nm0 : String} {a N : Nat} {xs : Nat → Int32} {res : Option Value} {μe : gm_M} {q1 q5 : Nat} {s9 : Int32 × gm_M} {G : Int32 × gm_M → Prop} (hg : ¬ s9.1 < 0 ∧ Int32.toNatClampNeg s9.1 ≤ 4096) {j12 : gm_M → Option ((Int32 × gm_M) ⊕ (Option Value × gm_M))}
    (hj12 : ∀ s : gm_M, gm_A "GumBubbleLaw" (nm0, gm_sx a N xs) code 4 (some .boolean) room_1 res μe (200 + 5 * s9.1.toNatClampNeg + 5) (8000 + 140 * s9.1.toNatClampNeg + 140) s 1257 [(0, .float 0), (1, .ref q1), (2, .ref q5), (3, .int s9.1)] [] (j12 s) (gm_kl G (fun b => b = (res, μe)))) :
    gm_A "GumBubbleLaw" (nm0, gm_sx a N xs) code 4 (some .boolean) room_1 res μe (200 + 5 * s9.1.toNatClampNeg) (8000 + 140 * s9.1.toNatClampNeg) s9.2 974 [(0, .float 0), (1, .ref q1), (2, .ref q5), (3, .int s9.1)] []
      (gm_xl xs N (s9.1 + (1 : Int32)) (fun y205 => gm_xl xs N (s9.1 + (2 : Int32)) (fun y206 => if gm_tag s9.2 q1 = 16 then gm_bL (f_X11_mean q1 y205 y206 s9.2) (fun x208 m207 => gm_xl xs N (s9.1 + (1 : Int32)) (fun y209 => gm_xl xs N (s9.1 + (2 : Int32)) (fun y210 => if gm_tag m207 q5 = 17 then gm_bL (f_X12_mean q5 y209 y210 m207) (fun x212 m211 => j12 m211) else none))) else none))) (gm_kl G (fun b => b = (res, μe))) := by
  refine gm_aload_n d_L_law_974 rfl 1 rfl ?_
  refine gm_aloadS d_L_law_975 rfl 0 rfl ?_
  refine gm_iload_n d_L_law_976 rfl 3 rfl ?_
  refine gm_iconst (v := 1) d_L_law_977 (by decide) ?_
  refine gm_iadd d_L_law_978 ?_
  refine gm_sldN d_L_law_979 rfl (fun y205 _ => ?_)
  refine gm_aloadS d_L_law_980 rfl 0 rfl ?_
  refine gm_iload_n d_L_law_981 rfl 3 rfl ?_
  refine gm_iconst (v := 2) d_L_law_982 (by decide) ?_
  refine gm_iadd d_L_law_983 ?_
  refine gm_sldN d_L_law_984 rfl (fun y206 _ => ?_)
  refine gm_grd (fun g985 => ?_)
  refine gm_callV (k0 := 11) [.int y205, .int y206] (c_X11_mean q1 y205 y206 s9.2) g985 rfl B_X11_mean gw_746 gw_748 (gm_hit2 (Nat.le_of_ble_eq_true rfl) (Nat.le_of_ble_eq_true rfl) (by show _ ≤ 600000; omega) (by show _ ≤ 7302250; omega)) rfl rfl d_L_law_985 (gm_kL (fun x208 m207 => ?_))
  refine gm_pop2 d_L_law_988 rfl ?_
  refine gm_aload_n d_L_law_989 rfl 2 rfl ?_
  refine gm_aloadS d_L_law_990 rfl 0 rfl ?_
  refine gm_iload_n d_L_law_991 rfl 3 rfl ?_
  refine gm_iconst (v := 1) d_L_law_992 (by decide) ?_
  refine gm_iadd d_L_law_993 ?_
  refine gm_sldN d_L_law_994 rfl (fun y209 _ => ?_)
  refine gm_aloadS d_L_law_995 rfl 0 rfl ?_
  refine gm_iload_n d_L_law_996 rfl 3 rfl ?_
  refine gm_iconst (v := 2) d_L_law_997 (by decide) ?_
  refine gm_iadd d_L_law_998 ?_
  refine gm_sldN d_L_law_999 rfl (fun y210 _ => ?_)
  refine gm_grd (fun g1000 => ?_)
  refine gm_callV (k0 := 12) [.int y209, .int y210] (c_X12_mean q5 y209 y210 m207) g1000 rfl B_X12_mean gw_1242 gw_1244 (gm_hit2 (Nat.le_of_ble_eq_true rfl) (Nat.le_of_ble_eq_true rfl) (by show _ ≤ 600000; omega) (by show _ ≤ 7302250; omega)) rfl rfl d_L_law_1000 (gm_kL (fun x212 m211 => ?_))
  refine gm_pop2 d_L_law_1003 rfl ?_
  refine gm_goto (tgt := 1257) d_L_law_1004 (by decide) ?_
  refine gm_widen (k' := 200 + 5 * s9.1.toNatClampNeg + 5) (n' := 8000 + 140 * s9.1.toNatClampNeg + 140) (by omega) (by omega) ?_
  exact hj12 m211
set_option maxHeartbeats 4000000 in
theorem cl_27 {nm0 : String} {a N : Nat} {xs : Nat → Int32} {res : Option Value} {μe : gm_M} {q1 q5 : Nat} {s9 : Int32 × gm_M} {G : Int32 × gm_M → Prop} (hg : ¬ s9.1 < 0 ∧ Int32.toNatClampNeg s9.1 ≤ 4096) {j12 : gm_M → Option ((Int32 × gm_M) ⊕ (Option Value × gm_M))}
    (hj12 : ∀ s : gm_M, gm_A "GumBubbleLaw" (nm0, gm_sx a N xs) code 4 (some .boolean) room_1 res μe (200 + 5 * s9.1.toNatClampNeg + 5) (8000 + 140 * s9.1.toNatClampNeg + 140) s 1257 [(0, .float 0), (1, .ref q1), (2, .ref q5), (3, .int s9.1)] [] (j12 s) (gm_kl G (fun b => b = (res, μe)))) :
    gm_A "GumBubbleLaw" (nm0, gm_sx a N xs) code 4 (some .boolean) room_1 res μe (200 + 5 * s9.1.toNatClampNeg) (8000 + 140 * s9.1.toNatClampNeg) s9.2 1007 [(0, .float 0), (1, .ref q1), (2, .ref q5), (3, .int s9.1)] []
      (gm_xl xs N (s9.1 + (1 : Int32)) (fun y213 => gm_xl xs N (s9.1 + (2 : Int32)) (fun y214 => if gm_tag s9.2 q1 = 16 then gm_bI (f_X11_plan q1 y213 y214 s9.2) (fun x216 m215 => gm_xl xs N (s9.1 + (1 : Int32)) (fun y217 => gm_xl xs N (s9.1 + (2 : Int32)) (fun y218 => if gm_tag m215 q5 = 17 then gm_bI (f_X12_plan q5 y217 y218 m215) (fun x220 m219 => j12 m219) else none))) else none))) (gm_kl G (fun b => b = (res, μe))) := by
  refine gm_aload_n d_L_law_1007 rfl 1 rfl ?_
  refine gm_aloadS d_L_law_1008 rfl 0 rfl ?_
  refine gm_iload_n d_L_law_1009 rfl 3 rfl ?_
  refine gm_iconst (v := 1) d_L_law_1010 (by decide) ?_
  refine gm_iadd d_L_law_1011 ?_
  refine gm_sldN d_L_law_1012 rfl (fun y213 _ => ?_)
  refine gm_aloadS d_L_law_1013 rfl 0 rfl ?_
  refine gm_iload_n d_L_law_1014 rfl 3 rfl ?_
  refine gm_iconst (v := 2) d_L_law_1015 (by decide) ?_
  refine gm_iadd d_L_law_1016 ?_
  refine gm_sldN d_L_law_1017 rfl (fun y214 _ => ?_)
  refine gm_grd (fun g1018 => ?_)
  refine gm_callV (k0 := 11) [.int y213, .int y214] (c_X11_plan q1 y213 y214 s9.2) g1018 rfl B_X11_plan gw_750 gw_752 (gm_hit2 (Nat.le_of_ble_eq_true rfl) (Nat.le_of_ble_eq_true rfl) (by show _ ≤ 600000; omega) (by show _ ≤ 7302250; omega)) rfl rfl d_L_law_1018 (gm_kI (fun x216 m215 => ?_))
  refine gm_pop d_L_law_1021 rfl ?_
  refine gm_aload_n d_L_law_1022 rfl 2 rfl ?_
  refine gm_aloadS d_L_law_1023 rfl 0 rfl ?_
  refine gm_iload_n d_L_law_1024 rfl 3 rfl ?_
  refine gm_iconst (v := 1) d_L_law_1025 (by decide) ?_
  refine gm_iadd d_L_law_1026 ?_
  refine gm_sldN d_L_law_1027 rfl (fun y217 _ => ?_)
  refine gm_aloadS d_L_law_1028 rfl 0 rfl ?_
  refine gm_iload_n d_L_law_1029 rfl 3 rfl ?_
  refine gm_iconst (v := 2) d_L_law_1030 (by decide) ?_
  refine gm_iadd d_L_law_1031 ?_
  refine gm_sldN d_L_law_1032 rfl (fun y218 _ => ?_)
  refine gm_grd (fun g1033 => ?_)
  refine gm_callV (k0 := 12) [.int y217, .int y218] (c_X12_plan q5 y217 y218 m215) g1033 rfl B_X12_plan gw_1246 gw_1248 (gm_hit2 (Nat.le_of_ble_eq_true rfl) (Nat.le_of_ble_eq_true rfl) (by show _ ≤ 600000; omega) (by show _ ≤ 7302250; omega)) rfl rfl d_L_law_1033 (gm_kI (fun x220 m219 => ?_))
  refine gm_pop d_L_law_1036 rfl ?_
  refine gm_goto (tgt := 1257) d_L_law_1037 (by decide) ?_
  refine gm_widen (k' := 200 + 5 * s9.1.toNatClampNeg + 5) (n' := 8000 + 140 * s9.1.toNatClampNeg + 140) (by omega) (by omega) ?_
  exact hj12 m219
set_option maxHeartbeats 4000000 in
theorem cl_28 {nm0 : String} {a N : Nat} {xs : Nat → Int32} {res : Option Value} {μe : gm_M} {q1 q5 : Nat} {s9 : Int32 × gm_M} {G : Int32 × gm_M → Prop} (hg : ¬ s9.1 < 0 ∧ Int32.toNatClampNeg s9.1 ≤ 4096) {j12 : gm_M → Option ((Int32 × gm_M) ⊕ (Option Value × gm_M))}
    (hj12 : ∀ s : gm_M, gm_A "GumBubbleLaw" (nm0, gm_sx a N xs) code 4 (some .boolean) room_1 res μe (200 + 5 * s9.1.toNatClampNeg + 5) (8000 + 140 * s9.1.toNatClampNeg + 140) s 1257 [(0, .float 0), (1, .ref q1), (2, .ref q5), (3, .int s9.1)] [] (j12 s) (gm_kl G (fun b => b = (res, μe)))) :
    gm_A "GumBubbleLaw" (nm0, gm_sx a N xs) code 4 (some .boolean) room_1 res μe (200 + 5 * s9.1.toNatClampNeg) (8000 + 140 * s9.1.toNatClampNeg) s9.2 1040 [(0, .float 0), (1, .ref q1), (2, .ref q5), (3, .int s9.1)] []
      (gm_xl xs N (s9.1 + (1 : Int32)) (fun y221 => if gm_tag s9.2 q1 = 16 then gm_bI (f_X11_done q1 y221 s9.2) (fun x223 m222 => gm_xl xs N (s9.1 + (1 : Int32)) (fun y224 => if gm_tag m222 q5 = 17 then gm_bI (f_X12_done q5 y224 m222) (fun x226 m225 => j12 m225) else none)) else none)) (gm_kl G (fun b => b = (res, μe))) := by
  refine gm_aload_n d_L_law_1040 rfl 1 rfl ?_
  refine gm_aloadS d_L_law_1041 rfl 0 rfl ?_
  refine gm_iload_n d_L_law_1042 rfl 3 rfl ?_
  refine gm_iconst (v := 1) d_L_law_1043 (by decide) ?_
  refine gm_iadd d_L_law_1044 ?_
  refine gm_sldN d_L_law_1045 rfl (fun y221 _ => ?_)
  refine gm_grd (fun g1046 => ?_)
  refine gm_callV (k0 := 11) [.int y221] (c_X11_done q1 y221 s9.2) g1046 rfl B_X11_done gw_754 gw_756 (gm_hit2 (Nat.le_of_ble_eq_true rfl) (Nat.le_of_ble_eq_true rfl) (by show _ ≤ 600000; omega) (by show _ ≤ 7302250; omega)) rfl rfl d_L_law_1046 (gm_kI (fun x223 m222 => ?_))
  refine gm_pop d_L_law_1049 rfl ?_
  refine gm_aload_n d_L_law_1050 rfl 2 rfl ?_
  refine gm_aloadS d_L_law_1051 rfl 0 rfl ?_
  refine gm_iload_n d_L_law_1052 rfl 3 rfl ?_
  refine gm_iconst (v := 1) d_L_law_1053 (by decide) ?_
  refine gm_iadd d_L_law_1054 ?_
  refine gm_sldN d_L_law_1055 rfl (fun y224 _ => ?_)
  refine gm_grd (fun g1056 => ?_)
  refine gm_callV (k0 := 12) [.int y224] (c_X12_done q5 y224 m222) g1056 rfl B_X12_done gw_1250 gw_1252 (gm_hit2 (Nat.le_of_ble_eq_true rfl) (Nat.le_of_ble_eq_true rfl) (by show _ ≤ 600000; omega) (by show _ ≤ 7302250; omega)) rfl rfl d_L_law_1056 (gm_kI (fun x226 m225 => ?_))
  refine gm_pop d_L_law_1059 rfl ?_
  refine gm_goto (tgt := 1257) d_L_law_1060 (by decide) ?_
  refine gm_widen (k' := 200 + 5 * s9.1.toNatClampNeg + 5) (n' := 8000 + 140 * s9.1.toNatClampNeg + 140) (by omega) (by omega) ?_
  exact hj12 m225
set_option maxHeartbeats 4000000 in
theorem cl_29 {nm0 : String} {a N : Nat} {xs : Nat → Int32} {res : Option Value} {μe : gm_M} {q1 q5 : Nat} {s9 : Int32 × gm_M} {G : Int32 × gm_M → Prop} (hg : ¬ s9.1 < 0 ∧ Int32.toNatClampNeg s9.1 ≤ 4096) {j12 : gm_M → Option ((Int32 × gm_M) ⊕ (Option Value × gm_M))}
    (hj12 : ∀ s : gm_M, gm_A "GumBubbleLaw" (nm0, gm_sx a N xs) code 4 (some .boolean) room_1 res μe (200 + 5 * s9.1.toNatClampNeg + 5) (8000 + 140 * s9.1.toNatClampNeg + 140) s 1257 [(0, .float 0), (1, .ref q1), (2, .ref q5), (3, .int s9.1)] [] (j12 s) (gm_kl G (fun b => b = (res, μe)))) :
    gm_A "GumBubbleLaw" (nm0, gm_sx a N xs) code 4 (some .boolean) room_1 res μe (200 + 5 * s9.1.toNatClampNeg) (8000 + 140 * s9.1.toNatClampNeg) s9.2 1063 [(0, .float 0), (1, .ref q1), (2, .ref q5), (3, .int s9.1)] []
      (gm_xl xs N (s9.1 + (1 : Int32)) (fun y227 => gm_xl xs N (s9.1 + (2 : Int32)) (fun y228 => if gm_tag s9.2 q1 = 16 then gm_bI (f_X11_book q1 y227 y228 s9.2) (fun x230 m229 => gm_xl xs N (s9.1 + (1 : Int32)) (fun y231 => gm_xl xs N (s9.1 + (2 : Int32)) (fun y232 => if gm_tag m229 q5 = 17 then gm_bI (f_X12_book q5 y231 y232 m229) (fun x234 m233 => j12 m233) else none))) else none))) (gm_kl G (fun b => b = (res, μe))) := by
  refine gm_aload_n d_L_law_1063 rfl 1 rfl ?_
  refine gm_aloadS d_L_law_1064 rfl 0 rfl ?_
  refine gm_iload_n d_L_law_1065 rfl 3 rfl ?_
  refine gm_iconst (v := 1) d_L_law_1066 (by decide) ?_
  refine gm_iadd d_L_law_1067 ?_
  refine gm_sldN d_L_law_1068 rfl (fun y227 _ => ?_)
  refine gm_aloadS d_L_law_1069 rfl 0 rfl ?_
  refine gm_iload_n d_L_law_1070 rfl 3 rfl ?_
  refine gm_iconst (v := 2) d_L_law_1071 (by decide) ?_
  refine gm_iadd d_L_law_1072 ?_
  refine gm_sldN d_L_law_1073 rfl (fun y228 _ => ?_)
  refine gm_grd (fun g1074 => ?_)
  refine gm_callV (k0 := 11) [.int y227, .int y228] (c_X11_book q1 y227 y228 s9.2) g1074 rfl B_X11_book gw_766 gw_768 (gm_hit2 (Nat.le_of_ble_eq_true rfl) (Nat.le_of_ble_eq_true rfl) (by show _ ≤ 600000; omega) (by show _ ≤ 7302250; omega)) rfl rfl d_L_law_1074 (gm_kI (fun x230 m229 => ?_))
  refine gm_pop d_L_law_1077 rfl ?_
  refine gm_aload_n d_L_law_1078 rfl 2 rfl ?_
  refine gm_aloadS d_L_law_1079 rfl 0 rfl ?_
  refine gm_iload_n d_L_law_1080 rfl 3 rfl ?_
  refine gm_iconst (v := 1) d_L_law_1081 (by decide) ?_
  refine gm_iadd d_L_law_1082 ?_
  refine gm_sldN d_L_law_1083 rfl (fun y231 _ => ?_)
  refine gm_aloadS d_L_law_1084 rfl 0 rfl ?_
  refine gm_iload_n d_L_law_1085 rfl 3 rfl ?_
  refine gm_iconst (v := 2) d_L_law_1086 (by decide) ?_
  refine gm_iadd d_L_law_1087 ?_
  refine gm_sldN d_L_law_1088 rfl (fun y232 _ => ?_)
  refine gm_grd (fun g1089 => ?_)
  refine gm_callV (k0 := 12) [.int y231, .int y232] (c_X12_book q5 y231 y232 m229) g1089 rfl B_X12_book gw_1262 gw_1264 (gm_hit2 (Nat.le_of_ble_eq_true rfl) (Nat.le_of_ble_eq_true rfl) (by show _ ≤ 600000; omega) (by show _ ≤ 7302250; omega)) rfl rfl d_L_law_1089 (gm_kI (fun x234 m233 => ?_))
  refine gm_pop d_L_law_1092 rfl ?_
  refine gm_goto (tgt := 1257) d_L_law_1093 (by decide) ?_
  refine gm_widen (k' := 200 + 5 * s9.1.toNatClampNeg + 5) (n' := 8000 + 140 * s9.1.toNatClampNeg + 140) (by omega) (by omega) ?_
  exact hj12 m233
set_option maxHeartbeats 4000000 in
theorem cl_30 {nm0 : String} {a N : Nat} {xs : Nat → Int32} {res : Option Value} {μe : gm_M} {q1 q5 : Nat} {s9 : Int32 × gm_M} {G : Int32 × gm_M → Prop} (hg : ¬ s9.1 < 0 ∧ Int32.toNatClampNeg s9.1 ≤ 4096) {j12 : gm_M → Option ((Int32 × gm_M) ⊕ (Option Value × gm_M))}
    (hj12 : ∀ s : gm_M, gm_A "GumBubbleLaw" (nm0, gm_sx a N xs) code 4 (some .boolean) room_1 res μe (200 + 5 * s9.1.toNatClampNeg + 5) (8000 + 140 * s9.1.toNatClampNeg + 140) s 1257 [(0, .float 0), (1, .ref q1), (2, .ref q5), (3, .int s9.1)] [] (j12 s) (gm_kl G (fun b => b = (res, μe)))) :
    gm_A "GumBubbleLaw" (nm0, gm_sx a N xs) code 4 (some .boolean) room_1 res μe (200 + 5 * s9.1.toNatClampNeg) (8000 + 140 * s9.1.toNatClampNeg) s9.2 1096 [(0, .float 0), (1, .ref q1), (2, .ref q5), (3, .int s9.1)] []
      (if gm_tag s9.2 q1 = 16 then gm_bI (f_X11_looked q1 s9.2) (fun x236 m235 => if gm_tag m235 q5 = 17 then gm_bI (f_X12_looked q5 m235) (fun x238 m237 => j12 m237) else none) else none) (gm_kl G (fun b => b = (res, μe))) := by
  refine gm_aload_n d_L_law_1096 rfl 1 rfl ?_
  refine gm_grd (fun g1097 => ?_)
  refine gm_callV (k0 := 11) [] (c_X11_looked q1 s9.2) g1097 rfl B_X11_looked gw_770 gw_772 (gm_hit2 (Nat.le_of_ble_eq_true rfl) (Nat.le_of_ble_eq_true rfl) (by show _ ≤ 600000; omega) (by show _ ≤ 7302250; omega)) rfl rfl d_L_law_1097 (gm_kI (fun x236 m235 => ?_))
  refine gm_pop d_L_law_1100 rfl ?_
  refine gm_aload_n d_L_law_1101 rfl 2 rfl ?_
  refine gm_grd (fun g1102 => ?_)
  refine gm_callV (k0 := 12) [] (c_X12_looked q5 m235) g1102 rfl B_X12_looked gw_1266 gw_1268 (gm_hit2 (Nat.le_of_ble_eq_true rfl) (Nat.le_of_ble_eq_true rfl) (by show _ ≤ 600000; omega) (by show _ ≤ 7302250; omega)) rfl rfl d_L_law_1102 (gm_kI (fun x238 m237 => ?_))
  refine gm_pop d_L_law_1105 rfl ?_
  refine gm_goto (tgt := 1257) d_L_law_1106 (by decide) ?_
  refine gm_widen (k' := 200 + 5 * s9.1.toNatClampNeg + 5) (n' := 8000 + 140 * s9.1.toNatClampNeg + 140) (by omega) (by omega) ?_
  exact hj12 m237
set_option maxHeartbeats 4000000 in
theorem cl_31 {nm0 : String} {a N : Nat} {xs : Nat → Int32} {res : Option Value} {μe : gm_M} {q1 q5 : Nat} {s9 : Int32 × gm_M} {G : Int32 × gm_M → Prop} (hg : ¬ s9.1 < 0 ∧ Int32.toNatClampNeg s9.1 ≤ 4096) {j12 : gm_M → Option ((Int32 × gm_M) ⊕ (Option Value × gm_M))}
    (hj12 : ∀ s : gm_M, gm_A "GumBubbleLaw" (nm0, gm_sx a N xs) code 4 (some .boolean) room_1 res μe (200 + 5 * s9.1.toNatClampNeg + 5) (8000 + 140 * s9.1.toNatClampNeg + 140) s 1257 [(0, .float 0), (1, .ref q1), (2, .ref q5), (3, .int s9.1)] [] (j12 s) (gm_kl G (fun b => b = (res, μe)))) :
    gm_A "GumBubbleLaw" (nm0, gm_sx a N xs) code 4 (some .boolean) room_1 res μe (200 + 5 * s9.1.toNatClampNeg) (8000 + 140 * s9.1.toNatClampNeg) s9.2 1109 [(0, .float 0), (1, .ref q1), (2, .ref q5), (3, .int s9.1)] []
      (gm_xl xs N (s9.1 + (1 : Int32)) (fun y239 => gm_xl xs N (s9.1 + (2 : Int32)) (fun y240 => gm_xl xs N (s9.1 + (3 : Int32)) (fun y241 => if gm_tag s9.2 q1 = 16 then gm_bI (f_X11_act q1 y239 y240 y241 s9.2) (fun x243 m242 => gm_xl xs N (s9.1 + (1 : Int32)) (fun y244 => gm_xl xs N (s9.1 + (2 : Int32)) (fun y245 => gm_xl xs N (s9.1 + (3 : Int32)) (fun y246 => if gm_tag m242 q5 = 17 then gm_bI (f_X12_act q5 y244 y245 y246 m242) (fun x248 m247 => j12 m247) else none)))) else none)))) (gm_kl G (fun b => b = (res, μe))) := by
  refine gm_aload_n d_L_law_1109 rfl 1 rfl ?_
  refine gm_aloadS d_L_law_1110 rfl 0 rfl ?_
  refine gm_iload_n d_L_law_1111 rfl 3 rfl ?_
  refine gm_iconst (v := 1) d_L_law_1112 (by decide) ?_
  refine gm_iadd d_L_law_1113 ?_
  refine gm_sldN d_L_law_1114 rfl (fun y239 _ => ?_)
  refine gm_aloadS d_L_law_1115 rfl 0 rfl ?_
  refine gm_iload_n d_L_law_1116 rfl 3 rfl ?_
  refine gm_iconst (v := 2) d_L_law_1117 (by decide) ?_
  refine gm_iadd d_L_law_1118 ?_
  refine gm_sldN d_L_law_1119 rfl (fun y240 _ => ?_)
  refine gm_aloadS d_L_law_1120 rfl 0 rfl ?_
  refine gm_iload_n d_L_law_1121 rfl 3 rfl ?_
  refine gm_iconst (v := 3) d_L_law_1122 (by decide) ?_
  refine gm_iadd d_L_law_1123 ?_
  refine gm_sldN d_L_law_1124 rfl (fun y241 _ => ?_)
  refine gm_grd (fun g1125 => ?_)
  refine gm_callV (k0 := 11) [.int y239, .int y240, .int y241] (c_X11_act q1 y239 y240 y241 s9.2) g1125 rfl B_X11_act gw_774 gw_776 (gm_hit2 (Nat.le_of_ble_eq_true rfl) (Nat.le_of_ble_eq_true rfl) (by show _ ≤ 600000; omega) (by show _ ≤ 7302250; omega)) rfl rfl d_L_law_1125 (gm_kI (fun x243 m242 => ?_))
  refine gm_pop d_L_law_1128 rfl ?_
  refine gm_aload_n d_L_law_1129 rfl 2 rfl ?_
  refine gm_aloadS d_L_law_1130 rfl 0 rfl ?_
  refine gm_iload_n d_L_law_1131 rfl 3 rfl ?_
  refine gm_iconst (v := 1) d_L_law_1132 (by decide) ?_
  refine gm_iadd d_L_law_1133 ?_
  refine gm_sldN d_L_law_1134 rfl (fun y244 _ => ?_)
  refine gm_aloadS d_L_law_1135 rfl 0 rfl ?_
  refine gm_iload_n d_L_law_1136 rfl 3 rfl ?_
  refine gm_iconst (v := 2) d_L_law_1137 (by decide) ?_
  refine gm_iadd d_L_law_1138 ?_
  refine gm_sldN d_L_law_1139 rfl (fun y245 _ => ?_)
  refine gm_aloadS d_L_law_1140 rfl 0 rfl ?_
  refine gm_iload_n d_L_law_1141 rfl 3 rfl ?_
  refine gm_iconst (v := 3) d_L_law_1142 (by decide) ?_
  refine gm_iadd d_L_law_1143 ?_
  refine gm_sldN d_L_law_1144 rfl (fun y246 _ => ?_)
  refine gm_grd (fun g1145 => ?_)
  refine gm_callV (k0 := 12) [.int y244, .int y245, .int y246] (c_X12_act q5 y244 y245 y246 m242) g1145 rfl B_X12_act gw_1270 gw_1272 (gm_hit2 (Nat.le_of_ble_eq_true rfl) (Nat.le_of_ble_eq_true rfl) (by show _ ≤ 600000; omega) (by show _ ≤ 7302250; omega)) rfl rfl d_L_law_1145 (gm_kI (fun x248 m247 => ?_))
  refine gm_pop d_L_law_1148 rfl ?_
  refine gm_goto (tgt := 1257) d_L_law_1149 (by decide) ?_
  refine gm_widen (k' := 200 + 5 * s9.1.toNatClampNeg + 5) (n' := 8000 + 140 * s9.1.toNatClampNeg + 140) (by omega) (by omega) ?_
  exact hj12 m247
set_option maxHeartbeats 4000000 in
theorem cl_32 {nm0 : String} {a N : Nat} {xs : Nat → Int32} {res : Option Value} {μe : gm_M} {q1 q5 : Nat} {s9 : Int32 × gm_M} {G : Int32 × gm_M → Prop} (hg : ¬ s9.1 < 0 ∧ Int32.toNatClampNeg s9.1 ≤ 4096) {j12 : gm_M → Option ((Int32 × gm_M) ⊕ (Option Value × gm_M))}
    (hj12 : ∀ s : gm_M, gm_A "GumBubbleLaw" (nm0, gm_sx a N xs) code 4 (some .boolean) room_1 res μe (200 + 5 * s9.1.toNatClampNeg + 5) (8000 + 140 * s9.1.toNatClampNeg + 140) s 1257 [(0, .float 0), (1, .ref q1), (2, .ref q5), (3, .int s9.1)] [] (j12 s) (gm_kl G (fun b => b = (res, μe)))) :
    gm_A "GumBubbleLaw" (nm0, gm_sx a N xs) code 4 (some .boolean) room_1 res μe (200 + 5 * s9.1.toNatClampNeg) (8000 + 140 * s9.1.toNatClampNeg) s9.2 1152 [(0, .float 0), (1, .ref q1), (2, .ref q5), (3, .int s9.1)] []
      (gm_xl xs N (s9.1 + (1 : Int32)) (fun y249 => if gm_tag s9.2 q1 = 16 then gm_bI (f_X11_trace q1 y249 s9.2) (fun x251 m250 => gm_xl xs N (s9.1 + (1 : Int32)) (fun y252 => if gm_tag m250 q5 = 17 then gm_bI (f_X12_trace q5 y252 m250) (fun x254 m253 => j12 m253) else none)) else none)) (gm_kl G (fun b => b = (res, μe))) := by
  refine gm_aload_n d_L_law_1152 rfl 1 rfl ?_
  refine gm_aloadS d_L_law_1153 rfl 0 rfl ?_
  refine gm_iload_n d_L_law_1154 rfl 3 rfl ?_
  refine gm_iconst (v := 1) d_L_law_1155 (by decide) ?_
  refine gm_iadd d_L_law_1156 ?_
  refine gm_sldN d_L_law_1157 rfl (fun y249 _ => ?_)
  refine gm_grd (fun g1158 => ?_)
  refine gm_callV (k0 := 11) [.int y249] (c_X11_trace q1 y249 s9.2) g1158 rfl B_X11_trace gw_848 gw_850 (gm_hit2 (Nat.le_of_ble_eq_true rfl) (Nat.le_of_ble_eq_true rfl) (by show _ ≤ 600000; omega) (by show _ ≤ 7302250; omega)) rfl rfl d_L_law_1158 (gm_kI (fun x251 m250 => ?_))
  refine gm_pop d_L_law_1161 rfl ?_
  refine gm_aload_n d_L_law_1162 rfl 2 rfl ?_
  refine gm_aloadS d_L_law_1163 rfl 0 rfl ?_
  refine gm_iload_n d_L_law_1164 rfl 3 rfl ?_
  refine gm_iconst (v := 1) d_L_law_1165 (by decide) ?_
  refine gm_iadd d_L_law_1166 ?_
  refine gm_sldN d_L_law_1167 rfl (fun y252 _ => ?_)
  refine gm_grd (fun g1168 => ?_)
  refine gm_callV (k0 := 12) [.int y252] (c_X12_trace q5 y252 m250) g1168 rfl B_X12_trace gw_1305 gw_1307 (gm_hit2 (Nat.le_of_ble_eq_true rfl) (Nat.le_of_ble_eq_true rfl) (by show _ ≤ 600000; omega) (by show _ ≤ 7302250; omega)) rfl rfl d_L_law_1168 (gm_kI (fun x254 m253 => ?_))
  refine gm_pop d_L_law_1171 rfl ?_
  refine gm_goto (tgt := 1257) d_L_law_1172 (by decide) ?_
  refine gm_widen (k' := 200 + 5 * s9.1.toNatClampNeg + 5) (n' := 8000 + 140 * s9.1.toNatClampNeg + 140) (by omega) (by omega) ?_
  exact hj12 m253
set_option maxHeartbeats 4000000 in
theorem cl_33 {nm0 : String} {a N : Nat} {xs : Nat → Int32} {res : Option Value} {μe : gm_M} {q1 q5 : Nat} {s9 : Int32 × gm_M} {G : Int32 × gm_M → Prop} (hg : ¬ s9.1 < 0 ∧ Int32.toNatClampNeg s9.1 ≤ 4096) {j12 : gm_M → Option ((Int32 × gm_M) ⊕ (Option Value × gm_M))}
    (hj12 : ∀ s : gm_M, gm_A "GumBubbleLaw" (nm0, gm_sx a N xs) code 4 (some .boolean) room_1 res μe (200 + 5 * s9.1.toNatClampNeg + 5) (8000 + 140 * s9.1.toNatClampNeg + 140) s 1257 [(0, .float 0), (1, .ref q1), (2, .ref q5), (3, .int s9.1)] [] (j12 s) (gm_kl G (fun b => b = (res, μe)))) :
    gm_A "GumBubbleLaw" (nm0, gm_sx a N xs) code 4 (some .boolean) room_1 res μe (200 + 5 * s9.1.toNatClampNeg) (8000 + 140 * s9.1.toNatClampNeg) s9.2 1175 [(0, .float 0), (1, .ref q1), (2, .ref q5), (3, .int s9.1)] []
      (gm_xl xs N (s9.1 + (1 : Int32)) (fun y255 => gm_xl xs N (s9.1 + (2 : Int32)) (fun y256 => if gm_tag s9.2 q1 = 16 then gm_bI (f_X11_as q1 y255 y256 s9.2) (fun x258 m257 => gm_xl xs N (s9.1 + (1 : Int32)) (fun y259 => gm_xl xs N (s9.1 + (2 : Int32)) (fun y260 => if gm_tag m257 q5 = 17 then gm_bI (f_X12_as q5 y259 y260 m257) (fun x262 m261 => j12 m261) else none))) else none))) (gm_kl G (fun b => b = (res, μe))) := by
  refine gm_aload_n d_L_law_1175 rfl 1 rfl ?_
  refine gm_aloadS d_L_law_1176 rfl 0 rfl ?_
  refine gm_iload_n d_L_law_1177 rfl 3 rfl ?_
  refine gm_iconst (v := 1) d_L_law_1178 (by decide) ?_
  refine gm_iadd d_L_law_1179 ?_
  refine gm_sldN d_L_law_1180 rfl (fun y255 _ => ?_)
  refine gm_aloadS d_L_law_1181 rfl 0 rfl ?_
  refine gm_iload_n d_L_law_1182 rfl 3 rfl ?_
  refine gm_iconst (v := 2) d_L_law_1183 (by decide) ?_
  refine gm_iadd d_L_law_1184 ?_
  refine gm_sldN d_L_law_1185 rfl (fun y256 _ => ?_)
  refine gm_grd (fun g1186 => ?_)
  refine gm_callV (k0 := 11) [.int y255, .int y256] (c_X11_as q1 y255 y256 s9.2) g1186 rfl B_X11_as gw_853 gw_855 (gm_hit2 (Nat.le_of_ble_eq_true rfl) (Nat.le_of_ble_eq_true rfl) (by show _ ≤ 600000; omega) (by show _ ≤ 7302250; omega)) rfl rfl d_L_law_1186 (gm_kI (fun x258 m257 => ?_))
  refine gm_pop d_L_law_1189 rfl ?_
  refine gm_aload_n d_L_law_1190 rfl 2 rfl ?_
  refine gm_aloadS d_L_law_1191 rfl 0 rfl ?_
  refine gm_iload_n d_L_law_1192 rfl 3 rfl ?_
  refine gm_iconst (v := 1) d_L_law_1193 (by decide) ?_
  refine gm_iadd d_L_law_1194 ?_
  refine gm_sldN d_L_law_1195 rfl (fun y259 _ => ?_)
  refine gm_aloadS d_L_law_1196 rfl 0 rfl ?_
  refine gm_iload_n d_L_law_1197 rfl 3 rfl ?_
  refine gm_iconst (v := 2) d_L_law_1198 (by decide) ?_
  refine gm_iadd d_L_law_1199 ?_
  refine gm_sldN d_L_law_1200 rfl (fun y260 _ => ?_)
  refine gm_grd (fun g1201 => ?_)
  refine gm_callV (k0 := 12) [.int y259, .int y260] (c_X12_as q5 y259 y260 m257) g1201 rfl B_X12_as gw_1309 gw_1311 (gm_hit2 (Nat.le_of_ble_eq_true rfl) (Nat.le_of_ble_eq_true rfl) (by show _ ≤ 600000; omega) (by show _ ≤ 7302250; omega)) rfl rfl d_L_law_1201 (gm_kI (fun x262 m261 => ?_))
  refine gm_pop d_L_law_1204 rfl ?_
  refine gm_goto (tgt := 1257) d_L_law_1205 (by decide) ?_
  refine gm_widen (k' := 200 + 5 * s9.1.toNatClampNeg + 5) (n' := 8000 + 140 * s9.1.toNatClampNeg + 140) (by omega) (by omega) ?_
  exact hj12 m261
set_option maxHeartbeats 4000000 in
theorem cl_34 {nm0 : String} {a N : Nat} {xs : Nat → Int32} {res : Option Value} {μe : gm_M} {q1 q5 : Nat} {s9 : Int32 × gm_M} {G : Int32 × gm_M → Prop} (hg : ¬ s9.1 < 0 ∧ Int32.toNatClampNeg s9.1 ≤ 4096) {j12 : gm_M → Option ((Int32 × gm_M) ⊕ (Option Value × gm_M))}
    (hj12 : ∀ s : gm_M, gm_A "GumBubbleLaw" (nm0, gm_sx a N xs) code 4 (some .boolean) room_1 res μe (200 + 5 * s9.1.toNatClampNeg + 5) (8000 + 140 * s9.1.toNatClampNeg + 140) s 1257 [(0, .float 0), (1, .ref q1), (2, .ref q5), (3, .int s9.1)] [] (j12 s) (gm_kl G (fun b => b = (res, μe)))) :
    gm_A "GumBubbleLaw" (nm0, gm_sx a N xs) code 4 (some .boolean) room_1 res μe (200 + 5 * s9.1.toNatClampNeg) (8000 + 140 * s9.1.toNatClampNeg) s9.2 1208 [(0, .float 0), (1, .ref q1), (2, .ref q5), (3, .int s9.1)] []
      (if gm_tag s9.2 q1 = 16 then gm_bI (f_X11_image q1 s9.2) (fun x264 m263 => if gm_tag m263 q5 = 17 then gm_bI (f_X12_image q5 m263) (fun x266 m265 => j12 m265) else none) else none) (gm_kl G (fun b => b = (res, μe))) := by
  refine gm_aload_n d_L_law_1208 rfl 1 rfl ?_
  refine gm_grd (fun g1209 => ?_)
  refine gm_callV (k0 := 11) [] (c_X11_image q1 s9.2) g1209 rfl B_X11_image gw_860 gw_862 (gm_hit2 (Nat.le_of_ble_eq_true rfl) (Nat.le_of_ble_eq_true rfl) (by show _ ≤ 600000; omega) (by show _ ≤ 7302250; omega)) rfl rfl d_L_law_1209 (gm_kI (fun x264 m263 => ?_))
  refine gm_pop d_L_law_1212 rfl ?_
  refine gm_aload_n d_L_law_1213 rfl 2 rfl ?_
  refine gm_grd (fun g1214 => ?_)
  refine gm_callV (k0 := 12) [] (c_X12_image q5 m263) g1214 rfl B_X12_image gw_1313 gw_1315 (gm_hit2 (Nat.le_of_ble_eq_true rfl) (Nat.le_of_ble_eq_true rfl) (by show _ ≤ 600000; omega) (by show _ ≤ 7302250; omega)) rfl rfl d_L_law_1214 (gm_kI (fun x266 m265 => ?_))
  refine gm_pop d_L_law_1217 rfl ?_
  refine gm_goto (tgt := 1257) d_L_law_1218 (by decide) ?_
  refine gm_widen (k' := 200 + 5 * s9.1.toNatClampNeg + 5) (n' := 8000 + 140 * s9.1.toNatClampNeg + 140) (by omega) (by omega) ?_
  exact hj12 m265
set_option maxHeartbeats 4000000 in
theorem cl_35 {nm0 : String} {a N : Nat} {xs : Nat → Int32} {res : Option Value} {μe : gm_M} {q1 q5 : Nat} {s9 : Int32 × gm_M} {G : Int32 × gm_M → Prop} (hg : ¬ s9.1 < 0 ∧ Int32.toNatClampNeg s9.1 ≤ 4096) {j12 : gm_M → Option ((Int32 × gm_M) ⊕ (Option Value × gm_M))}
    (hj12 : ∀ s : gm_M, gm_A "GumBubbleLaw" (nm0, gm_sx a N xs) code 4 (some .boolean) room_1 res μe (200 + 5 * s9.1.toNatClampNeg + 5) (8000 + 140 * s9.1.toNatClampNeg + 140) s 1257 [(0, .float 0), (1, .ref q1), (2, .ref q5), (3, .int s9.1)] [] (j12 s) (gm_kl G (fun b => b = (res, μe)))) :
    gm_A "GumBubbleLaw" (nm0, gm_sx a N xs) code 4 (some .boolean) room_1 res μe (200 + 5 * s9.1.toNatClampNeg) (8000 + 140 * s9.1.toNatClampNeg) s9.2 1221 [(0, .float 0), (1, .ref q1), (2, .ref q5), (3, .int s9.1)] []
      (if gm_tag s9.2 q1 = 16 then gm_bI (f_X11_undo q1 s9.2) (fun x268 m267 => if gm_tag m267 q5 = 17 then gm_bI (f_X12_undo q5 m267) (fun x270 m269 => if x268 = x270 then j12 m269 else if (0 : Int32) = 0 ∨ (0 : Int32) = 1 then some (Sum.inr (some (.int (0 : Int32)), m269)) else none) else none) else none) (gm_kl G (fun b => b = (res, μe))) := by
  refine gm_aload_n d_L_law_1221 rfl 1 rfl ?_
  refine gm_grd (fun g1222 => ?_)
  refine gm_callV (k0 := 11) [] (c_X11_undo q1 s9.2) g1222 rfl B_X11_undo gw_876 gw_878 (gm_hit2 (Nat.le_of_ble_eq_true rfl) (Nat.le_of_ble_eq_true rfl) (by show _ ≤ 600000; omega) (by show _ ≤ 7302250; omega)) rfl rfl d_L_law_1222 (gm_kI (fun x268 m267 => ?_))
  refine gm_aload_n d_L_law_1225 rfl 2 rfl ?_
  refine gm_grd (fun g1226 => ?_)
  refine gm_callV (k0 := 12) [] (c_X12_undo q5 m267) g1226 rfl B_X12_undo gw_1317 gw_1319 (gm_hit2 (Nat.le_of_ble_eq_true rfl) (Nat.le_of_ble_eq_true rfl) (by show _ ≤ 600000; omega) (by show _ ≤ 7302250; omega)) rfl rfl d_L_law_1226 (gm_kI (fun x270 m269 => ?_))
  refine gm_icmp_eq (tgt := 1257) d_L_law_1229 (by decide) (fun h1229 => ?_) (fun h1229 => ?_)
  ·
    refine gm_widen (k' := 200 + 5 * s9.1.toNatClampNeg + 5) (n' := 8000 + 140 * s9.1.toNatClampNeg + 140) (by omega) (by omega) ?_
    exact hj12 m269
  ·
    refine gm_iconst (v := 0) d_L_law_1232 (by decide) ?_
    exact gm_zret rfl d_L_law_1233 (by show _ ≤ 600000; omega) (by show _ ≤ 7302250; omega) (fun h => h)
set_option maxHeartbeats 16000000 in
set_option maxRecDepth 20000 in
theorem c_law (nm0 : String) (a N : Nat) (xs : Nat → Int32) (res : Option Value) (μe μ : gm_M) : gm_A "GumBubbleLaw" (nm0, gm_sx a N xs) code 4 (some .boolean) room_1 res μe 0 0 μ 0 [(0, .float 0)] [] (f_law xs N μ) (fun b => b = (res, μe)) := by
  unfold f_law
  refine gm_new (k0 := 11) (T := gm_T11) (N := 10) rfl gw_21 gw_22 gw_1 (Nat.le_of_ble_eq_true rfl) (Nat.le_of_ble_eq_true rfl) d_L_law_0 (fun q1 m2 _ _ => ?_)
  refine gm_dup d_L_law_3 rfl ?_
  refine gm_grd (fun g4 => ?_)
  refine gm_callI [] (c_X11_init q1 m2) g4 rfl B_X11_init gw_23 rfl rfl rfl d_L_law_4 (gm_kV (fun m3 => ?_))
  refine gm_astore_n (L' := [(1, .ref q1), (0, .float 0)]) d_L_law_7 rfl (Nat.le_of_ble_eq_true rfl) rfl ?_
  refine gm_new (k0 := 12) (T := gm_T12) (N := 23) rfl gw_884 gw_885 gw_14 (Nat.le_of_ble_eq_true rfl) (Nat.le_of_ble_eq_true rfl) d_L_law_8 (fun q5 m6 _ _ => ?_)
  refine gm_dup d_L_law_11 rfl ?_
  refine gm_grd (fun g12 => ?_)
  refine gm_callI [] (c_X12_init q5 m6) g12 rfl B_X12_init gw_886 rfl rfl rfl d_L_law_12 (gm_kV (fun m7 => ?_))
  refine gm_astore_n (L' := [(2, .ref q5), (1, .ref q1), (0, .float 0)]) d_L_law_15 rfl (Nat.le_of_ble_eq_true rfl) rfl ?_
  refine gm_iconst (v := 0) d_L_law_16 (by decide) ?_
  refine gm_istore_n (L' := [(3, .int (0 : Int32)), (2, .ref q5), (1, .ref q1), (0, .float 0)]) d_L_law_17 rfl (Nat.le_of_ble_eq_true rfl) rfl ?_
  refine gm_sub (L' := [(0, .float 0), (1, .ref q1), (2, .ref q5), (3, .int (0 : Int32))]) [3, 2, 1, 0] rfl ?_
  refine gm_widen (k' := 200 + 5 * Int32.toNatClampNeg (0 : Int32)) (n' := 8000 + 140 * Int32.toNatClampNeg (0 : Int32)) (Nat.le_of_ble_eq_true rfl) (Nat.le_of_ble_eq_true rfl) ?_
  refine gm_lp (S := Int32 × gm_M) (fun s9 => 200 + 5 * s9.1.toNatClampNeg) (fun s9 => 8000 + 140 * s9.1.toNatClampNeg) (fun s9 => s9.2) (fun s9 => [(0, .float 0), (1, .ref q1), (2, .ref q5), (3, .int s9.1)]) (fun _ => []) (fun s9 => ?_) 5000 ((0 : Int32), m7)
  refine gm_grd (fun hg => ?_)
  refine gm_iload_n d_L_law_18 rfl 3 rfl ?_
  refine gm_aloadS d_L_law_19 rfl 0 rfl ?_
  refine gm_slen d_L_law_20 rfl ?_
  refine gm_iconst (v := 4) d_L_law_21 (by decide) ?_
  refine gm_isub d_L_law_22 ?_
  refine gm_icmp_gt (tgt := 1263) d_L_law_23 (by decide) (fun h23 => ?_) (fun h23 => ?_)
  ·
    refine gm_iconst (v := 1) d_L_law_1263 (by decide) ?_
    exact gm_zret rfl d_L_law_1264 (by show _ ≤ 600000; omega) (by show _ ≤ 7302250; omega) (fun h => h)
  ·
    refine gm_aloadS d_L_law_26 rfl 0 rfl ?_
    refine gm_iload_n d_L_law_27 rfl 3 rfl ?_
    refine gm_sldN d_L_law_28 rfl (fun y10 _ => ?_)
    refine gm_bipush (v := 63) d_L_law_29 (by decide) ?_
    refine gm_iand d_L_law_31 ?_
    refine gm_join (S := gm_M) (pj := 1257) (kj := 200 + 5 * s9.1.toNatClampNeg + 5) (nj := 8000 + 140 * s9.1.toNatClampNeg + 140) (fun s11 => s11) (fun s11 => [(0, .float 0), (1, .ref q1), (2, .ref q5), (3, .int s9.1)]) (fun s11 => []) (fun s11 => ?_) (fun j12 hj12 => ?_)
    ·
      refine gm_iinc (v := s9.1 + (4 : Int32)) (L' := [(3, .int (s9.1 + (4 : Int32))), (0, .float 0), (1, .ref q1), (2, .ref q5)]) d_L_law_1257 3 rfl rfl (Nat.le_of_ble_eq_true rfl) rfl ?_
      refine gm_goto (tgt := 18) d_L_law_1260 (by decide) ?_
      refine gm_sub (L' := [(0, .float 0), (1, .ref q1), (2, .ref q5), (3, .int (s9.1 + (4 : Int32)))]) [1, 2, 3, 0] rfl ?_
      refine gm_widen (k' := 200 + 5 * Int32.toNatClampNeg (s9.1 + (4 : Int32))) (n' := 8000 + 140 * Int32.toNatClampNeg (s9.1 + (4 : Int32))) (by rw [gm_i4 hg.1 hg.2]; omega) (by rw [gm_i4 hg.1 hg.2]; omega) ?_
      exact gm_back (fun h => h)
    ·
      refine gm_ite (P := (y10 &&& (63 : Int32)) = 0) (fun h32_0 => ?_) (fun h32_0 => ?_)
      ·
        refine gm_swIn (v := 0) (off := 164) (tgt := 196) d_L_law_32 (by rw [h32_0] <;> rfl) (by decide) (by decide) (by decide) (by decide) ?_
        exact cl_0 hg hj12
      ·
        refine gm_ite (P := (y10 &&& (63 : Int32)) = 1) (fun h32_1 => ?_) (fun h32_1 => ?_)
        ·
          refine gm_swIn (v := 1) (off := 187) (tgt := 219) d_L_law_32 (by rw [h32_1] <;> rfl) (by decide) (by decide) (by decide) (by decide) ?_
          exact cl_1 hg hj12
        ·
          refine gm_ite (P := (y10 &&& (63 : Int32)) = 2) (fun h32_2 => ?_) (fun h32_2 => ?_)
          ·
            refine gm_swIn (v := 2) (off := 200) (tgt := 232) d_L_law_32 (by rw [h32_2] <;> rfl) (by decide) (by decide) (by decide) (by decide) ?_
            exact cl_2 hg hj12
          ·
            refine gm_ite (P := (y10 &&& (63 : Int32)) = 3) (fun h32_3 => ?_) (fun h32_3 => ?_)
            ·
              refine gm_swIn (v := 3) (off := 233) (tgt := 265) d_L_law_32 (by rw [h32_3] <;> rfl) (by decide) (by decide) (by decide) (by decide) ?_
              exact cl_3 hg hj12
            ·
              refine gm_ite (P := (y10 &&& (63 : Int32)) = 4) (fun h32_4 => ?_) (fun h32_4 => ?_)
              ·
                refine gm_swIn (v := 4) (off := 266) (tgt := 298) d_L_law_32 (by rw [h32_4] <;> rfl) (by decide) (by decide) (by decide) (by decide) ?_
                exact cl_4 hg hj12
              ·
                refine gm_ite (P := (y10 &&& (63 : Int32)) = 5) (fun h32_5 => ?_) (fun h32_5 => ?_)
                ·
                  refine gm_swIn (v := 5) (off := 309) (tgt := 341) d_L_law_32 (by rw [h32_5] <;> rfl) (by decide) (by decide) (by decide) (by decide) ?_
                  exact cl_5 hg hj12
                ·
                  refine gm_ite (P := (y10 &&& (63 : Int32)) = 6) (fun h32_6 => ?_) (fun h32_6 => ?_)
                  ·
                    refine gm_swIn (v := 6) (off := 352) (tgt := 384) d_L_law_32 (by rw [h32_6] <;> rfl) (by decide) (by decide) (by decide) (by decide) ?_
                    exact cl_6 hg hj12
                  ·
                    refine gm_ite (P := (y10 &&& (63 : Int32)) = 7) (fun h32_7 => ?_) (fun h32_7 => ?_)
                    ·
                      refine gm_swIn (v := 7) (off := 375) (tgt := 407) d_L_law_32 (by rw [h32_7] <;> rfl) (by decide) (by decide) (by decide) (by decide) ?_
                      exact cl_7 hg hj12
                    ·
                      refine gm_ite (P := (y10 &&& (63 : Int32)) = 8) (fun h32_8 => ?_) (fun h32_8 => ?_)
                      ·
                        refine gm_swIn (v := 8) (off := 408) (tgt := 440) d_L_law_32 (by rw [h32_8] <;> rfl) (by decide) (by decide) (by decide) (by decide) ?_
                        exact cl_8 hg hj12
                      ·
                        refine gm_ite (P := (y10 &&& (63 : Int32)) = 9) (fun h32_9 => ?_) (fun h32_9 => ?_)
                        ·
                          refine gm_swIn (v := 9) (off := 431) (tgt := 463) d_L_law_32 (by rw [h32_9] <;> rfl) (by decide) (by decide) (by decide) (by decide) ?_
                          exact cl_9 hg hj12
                        ·
                          refine gm_ite (P := (y10 &&& (63 : Int32)) = 10) (fun h32_10 => ?_) (fun h32_10 => ?_)
                          ·
                            refine gm_swIn (v := 10) (off := 464) (tgt := 496) d_L_law_32 (by rw [h32_10] <;> rfl) (by decide) (by decide) (by decide) (by decide) ?_
                            exact cl_10 hg hj12
                          ·
                            refine gm_ite (P := (y10 &&& (63 : Int32)) = 11) (fun h32_11 => ?_) (fun h32_11 => ?_)
                            ·
                              refine gm_swIn (v := 11) (off := 497) (tgt := 529) d_L_law_32 (by rw [h32_11] <;> rfl) (by decide) (by decide) (by decide) (by decide) ?_
                              exact cl_11 hg hj12
                            ·
                              refine gm_ite (P := (y10 &&& (63 : Int32)) = 12) (fun h32_12 => ?_) (fun h32_12 => ?_)
                              ·
                                refine gm_swIn (v := 12) (off := 530) (tgt := 562) d_L_law_32 (by rw [h32_12] <;> rfl) (by decide) (by decide) (by decide) (by decide) ?_
                                exact cl_12 hg hj12
                              ·
                                refine gm_ite (P := (y10 &&& (63 : Int32)) = 13) (fun h32_13 => ?_) (fun h32_13 => ?_)
                                ·
                                  refine gm_swIn (v := 13) (off := 563) (tgt := 595) d_L_law_32 (by rw [h32_13] <;> rfl) (by decide) (by decide) (by decide) (by decide) ?_
                                  exact cl_13 hg hj12
                                ·
                                  refine gm_ite (P := (y10 &&& (63 : Int32)) = 14) (fun h32_14 => ?_) (fun h32_14 => ?_)
                                  ·
                                    refine gm_swIn (v := 14) (off := 596) (tgt := 628) d_L_law_32 (by rw [h32_14] <;> rfl) (by decide) (by decide) (by decide) (by decide) ?_
                                    exact cl_14 hg hj12
                                  ·
                                    refine gm_ite (P := (y10 &&& (63 : Int32)) = 15) (fun h32_15 => ?_) (fun h32_15 => ?_)
                                    ·
                                      refine gm_swIn (v := 15) (off := 619) (tgt := 651) d_L_law_32 (by rw [h32_15] <;> rfl) (by decide) (by decide) (by decide) (by decide) ?_
                                      exact cl_15 hg hj12
                                    ·
                                      refine gm_ite (P := (y10 &&& (63 : Int32)) = 16) (fun h32_16 => ?_) (fun h32_16 => ?_)
                                      ·
                                        refine gm_swIn (v := 16) (off := 662) (tgt := 694) d_L_law_32 (by rw [h32_16] <;> rfl) (by decide) (by decide) (by decide) (by decide) ?_
                                        exact cl_16 hg hj12
                                      ·
                                        refine gm_ite (P := (y10 &&& (63 : Int32)) = 17) (fun h32_17 => ?_) (fun h32_17 => ?_)
                                        ·
                                          refine gm_swIn (v := 17) (off := 685) (tgt := 717) d_L_law_32 (by rw [h32_17] <;> rfl) (by decide) (by decide) (by decide) (by decide) ?_
                                          exact cl_17 hg hj12
                                        ·
                                          refine gm_ite (P := (y10 &&& (63 : Int32)) = 18) (fun h32_18 => ?_) (fun h32_18 => ?_)
                                          ·
                                            refine gm_swIn (v := 18) (off := 698) (tgt := 730) d_L_law_32 (by rw [h32_18] <;> rfl) (by decide) (by decide) (by decide) (by decide) ?_
                                            exact cl_18 hg hj12
                                          ·
                                            refine gm_ite (P := (y10 &&& (63 : Int32)) = 19) (fun h32_19 => ?_) (fun h32_19 => ?_)
                                            ·
                                              refine gm_swIn (v := 19) (off := 741) (tgt := 773) d_L_law_32 (by rw [h32_19] <;> rfl) (by decide) (by decide) (by decide) (by decide) ?_
                                              exact cl_19 hg hj12
                                            ·
                                              refine gm_ite (P := (y10 &&& (63 : Int32)) = 20) (fun h32_20 => ?_) (fun h32_20 => ?_)
                                              ·
                                                refine gm_swIn (v := 20) (off := 754) (tgt := 786) d_L_law_32 (by rw [h32_20] <;> rfl) (by decide) (by decide) (by decide) (by decide) ?_
                                                exact cl_20 hg hj12
                                              ·
                                                refine gm_ite (P := (y10 &&& (63 : Int32)) = 21) (fun h32_21 => ?_) (fun h32_21 => ?_)
                                                ·
                                                  refine gm_swIn (v := 21) (off := 777) (tgt := 809) d_L_law_32 (by rw [h32_21] <;> rfl) (by decide) (by decide) (by decide) (by decide) ?_
                                                  exact cl_21 hg hj12
                                                ·
                                                  refine gm_ite (P := (y10 &&& (63 : Int32)) = 22) (fun h32_22 => ?_) (fun h32_22 => ?_)
                                                  ·
                                                    refine gm_swIn (v := 22) (off := 810) (tgt := 842) d_L_law_32 (by rw [h32_22] <;> rfl) (by decide) (by decide) (by decide) (by decide) ?_
                                                    exact cl_22 hg hj12
                                                  ·
                                                    refine gm_ite (P := (y10 &&& (63 : Int32)) = 23) (fun h32_23 => ?_) (fun h32_23 => ?_)
                                                    ·
                                                      refine gm_swIn (v := 23) (off := 853) (tgt := 885) d_L_law_32 (by rw [h32_23] <;> rfl) (by decide) (by decide) (by decide) (by decide) ?_
                                                      exact cl_23 hg hj12
                                                    ·
                                                      refine gm_ite (P := (y10 &&& (63 : Int32)) = 24) (fun h32_24 => ?_) (fun h32_24 => ?_)
                                                      ·
                                                        refine gm_swIn (v := 24) (off := 886) (tgt := 918) d_L_law_32 (by rw [h32_24] <;> rfl) (by decide) (by decide) (by decide) (by decide) ?_
                                                        exact cl_24 hg hj12
                                                      ·
                                                        refine gm_ite (P := (y10 &&& (63 : Int32)) = 25) (fun h32_25 => ?_) (fun h32_25 => ?_)
                                                        ·
                                                          refine gm_swIn (v := 25) (off := 919) (tgt := 951) d_L_law_32 (by rw [h32_25] <;> rfl) (by decide) (by decide) (by decide) (by decide) ?_
                                                          exact cl_25 hg hj12
                                                        ·
                                                          refine gm_ite (P := (y10 &&& (63 : Int32)) = 26) (fun h32_26 => ?_) (fun h32_26 => ?_)
                                                          ·
                                                            refine gm_swIn (v := 26) (off := 942) (tgt := 974) d_L_law_32 (by rw [h32_26] <;> rfl) (by decide) (by decide) (by decide) (by decide) ?_
                                                            exact cl_26 hg hj12
                                                          ·
                                                            refine gm_ite (P := (y10 &&& (63 : Int32)) = 27) (fun h32_27 => ?_) (fun h32_27 => ?_)
                                                            ·
                                                              refine gm_swIn (v := 27) (off := 975) (tgt := 1007) d_L_law_32 (by rw [h32_27] <;> rfl) (by decide) (by decide) (by decide) (by decide) ?_
                                                              exact cl_27 hg hj12
                                                            ·
                                                              refine gm_ite (P := (y10 &&& (63 : Int32)) = 28) (fun h32_28 => ?_) (fun h32_28 => ?_)
                                                              ·
                                                                refine gm_swIn (v := 28) (off := 1008) (tgt := 1040) d_L_law_32 (by rw [h32_28] <;> rfl) (by decide) (by decide) (by decide) (by decide) ?_
                                                                exact cl_28 hg hj12
                                                              ·
                                                                refine gm_ite (P := (y10 &&& (63 : Int32)) = 29) (fun h32_29 => ?_) (fun h32_29 => ?_)
                                                                ·
                                                                  refine gm_swIn (v := 29) (off := 1031) (tgt := 1063) d_L_law_32 (by rw [h32_29] <;> rfl) (by decide) (by decide) (by decide) (by decide) ?_
                                                                  exact cl_29 hg hj12
                                                                ·
                                                                  refine gm_ite (P := (y10 &&& (63 : Int32)) = 30) (fun h32_30 => ?_) (fun h32_30 => ?_)
                                                                  ·
                                                                    refine gm_swIn (v := 30) (off := 1064) (tgt := 1096) d_L_law_32 (by rw [h32_30] <;> rfl) (by decide) (by decide) (by decide) (by decide) ?_
                                                                    exact cl_30 hg hj12
                                                                  ·
                                                                    refine gm_ite (P := (y10 &&& (63 : Int32)) = 31) (fun h32_31 => ?_) (fun h32_31 => ?_)
                                                                    ·
                                                                      refine gm_swIn (v := 31) (off := 1077) (tgt := 1109) d_L_law_32 (by rw [h32_31] <;> rfl) (by decide) (by decide) (by decide) (by decide) ?_
                                                                      exact cl_31 hg hj12
                                                                    ·
                                                                      refine gm_ite (P := (y10 &&& (63 : Int32)) = 32) (fun h32_32 => ?_) (fun h32_32 => ?_)
                                                                      ·
                                                                        refine gm_swIn (v := 32) (off := 1120) (tgt := 1152) d_L_law_32 (by rw [h32_32] <;> rfl) (by decide) (by decide) (by decide) (by decide) ?_
                                                                        exact cl_32 hg hj12
                                                                      ·
                                                                        refine gm_ite (P := (y10 &&& (63 : Int32)) = 33) (fun h32_33 => ?_) (fun h32_33 => ?_)
                                                                        ·
                                                                          refine gm_swIn (v := 33) (off := 1143) (tgt := 1175) d_L_law_32 (by rw [h32_33] <;> rfl) (by decide) (by decide) (by decide) (by decide) ?_
                                                                          exact cl_33 hg hj12
                                                                        ·
                                                                          refine gm_ite (P := (y10 &&& (63 : Int32)) = 34) (fun h32_34 => ?_) (fun h32_34 => ?_)
                                                                          ·
                                                                            refine gm_swIn (v := 34) (off := 1176) (tgt := 1208) d_L_law_32 (by rw [h32_34] <;> rfl) (by decide) (by decide) (by decide) (by decide) ?_
                                                                            exact cl_34 hg hj12
                                                                          ·
                                                                            refine gm_ite (P := (y10 &&& (63 : Int32)) = 35) (fun h32_35 => ?_) (fun h32_35 => ?_)
                                                                            ·
                                                                              refine gm_swIn (v := 35) (off := 1189) (tgt := 1221) d_L_law_32 (by rw [h32_35] <;> rfl) (by decide) (by decide) (by decide) (by decide) ?_
                                                                              exact cl_35 hg hj12
                                                                            ·
                                                                              refine gm_ite (P := (y10 &&& (63 : Int32)) = 36) (fun h32_36 => ?_) (fun h32_36 => ?_)
                                                                              ·
                                                                                refine gm_swIn (v := 36) (off := 1202) (tgt := 1234) d_L_law_32 (by rw [h32_36] <;> rfl) (by decide) (by decide) (by decide) (by decide) ?_
                                                                                refine gm_aload_n d_L_law_1234 rfl 1 rfl ?_
                                                                                refine gm_aloadS d_L_law_1235 rfl 0 rfl ?_
                                                                                refine gm_iload_n d_L_law_1236 rfl 3 rfl ?_
                                                                                refine gm_iconst (v := 1) d_L_law_1237 (by decide) ?_
                                                                                refine gm_iadd d_L_law_1238 ?_
                                                                                refine gm_sldN d_L_law_1239 rfl (fun y271 _ => ?_)
                                                                                refine gm_grd (fun g1240 => ?_)
                                                                                refine gm_callV (k0 := 11) [.int y271] (c_X11_count q1 y271 s9.2) g1240 rfl B_X11_count gw_880 gw_882 (gm_hit2 (Nat.le_of_ble_eq_true rfl) (Nat.le_of_ble_eq_true rfl) (by show _ ≤ 600000; omega) (by show _ ≤ 7302250; omega)) rfl rfl d_L_law_1240 (gm_kI (fun x273 m272 => ?_))
                                                                                refine gm_pop d_L_law_1243 rfl ?_
                                                                                refine gm_aload_n d_L_law_1244 rfl 2 rfl ?_
                                                                                refine gm_aloadS d_L_law_1245 rfl 0 rfl ?_
                                                                                refine gm_iload_n d_L_law_1246 rfl 3 rfl ?_
                                                                                refine gm_iconst (v := 1) d_L_law_1247 (by decide) ?_
                                                                                refine gm_iadd d_L_law_1248 ?_
                                                                                refine gm_sldN d_L_law_1249 rfl (fun y274 _ => ?_)
                                                                                refine gm_grd (fun g1250 => ?_)
                                                                                refine gm_callV (k0 := 12) [.int y274] (c_X12_count q5 y274 m272) g1250 rfl B_X12_count gw_1321 gw_1323 (gm_hit2 (Nat.le_of_ble_eq_true rfl) (Nat.le_of_ble_eq_true rfl) (by show _ ≤ 600000; omega) (by show _ ≤ 7302250; omega)) rfl rfl d_L_law_1250 (gm_kI (fun x276 m275 => ?_))
                                                                                refine gm_pop d_L_law_1253 rfl ?_
                                                                                refine gm_goto (tgt := 1257) d_L_law_1254 (by decide) ?_
                                                                                refine gm_widen (k' := 200 + 5 * s9.1.toNatClampNeg + 5) (n' := 8000 + 140 * s9.1.toNatClampNeg + 140) (by omega) (by omega) ?_
                                                                                exact hj12 m275
                                                                              ·
                                                                                refine gm_swOut (tgt := 1257) d_L_law_32 (by have g0 := lv_neT h32_0 (show (0 : Int32).toInt = 0 from rfl); have g1 := lv_neT h32_1 (show (1 : Int32).toInt = 1 from rfl); have g2 := lv_neT h32_2 (show (2 : Int32).toInt = 2 from rfl); have g3 := lv_neT h32_3 (show (3 : Int32).toInt = 3 from rfl); have g4 := lv_neT h32_4 (show (4 : Int32).toInt = 4 from rfl); have g5 := lv_neT h32_5 (show (5 : Int32).toInt = 5 from rfl); have g6 := lv_neT h32_6 (show (6 : Int32).toInt = 6 from rfl); have g7 := lv_neT h32_7 (show (7 : Int32).toInt = 7 from rfl); have g8 := lv_neT h32_8 (show (8 : Int32).toInt = 8 from rfl); have g9 := lv_neT h32_9 (show (9 : Int32).toInt = 9 from rfl); have g10 := lv_neT h32_10 (show (10 : Int32).toInt = 10 from rfl); have g11 := lv_neT h32_11 (show (11 : Int32).toInt = 11 from rfl); have g12 := lv_neT h32_12 (show (12 : Int32).toInt = 12 from rfl); have g13 := lv_neT h32_13 (show (13 : Int32).toInt = 13 from rfl); have g14 := lv_neT h32_14 (show (14 : Int32).toInt = 14 from rfl); have g15 := lv_neT h32_15 (show (15 : Int32).toInt = 15 from rfl); have g16 := lv_neT h32_16 (show (16 : Int32).toInt = 16 from rfl); have g17 := lv_neT h32_17 (show (17 : Int32).toInt = 17 from rfl); have g18 := lv_neT h32_18 (show (18 : Int32).toInt = 18 from rfl); have g19 := lv_neT h32_19 (show (19 : Int32).toInt = 19 from rfl); have g20 := lv_neT h32_20 (show (20 : Int32).toInt = 20 from rfl); have g21 := lv_neT h32_21 (show (21 : Int32).toInt = 21 from rfl); have g22 := lv_neT h32_22 (show (22 : Int32).toInt = 22 from rfl); have g23 := lv_neT h32_23 (show (23 : Int32).toInt = 23 from rfl); have g24 := lv_neT h32_24 (show (24 : Int32).toInt = 24 from rfl); have g25 := lv_neT h32_25 (show (25 : Int32).toInt = 25 from rfl); have g26 := lv_neT h32_26 (show (26 : Int32).toInt = 26 from rfl); have g27 := lv_neT h32_27 (show (27 : Int32).toInt = 27 from rfl); have g28 := lv_neT h32_28 (show (28 : Int32).toInt = 28 from rfl); have g29 := lv_neT h32_29 (show (29 : Int32).toInt = 29 from rfl); have g30 := lv_neT h32_30 (show (30 : Int32).toInt = 30 from rfl); have g31 := lv_neT h32_31 (show (31 : Int32).toInt = 31 from rfl); have g32 := lv_neT h32_32 (show (32 : Int32).toInt = 32 from rfl); have g33 := lv_neT h32_33 (show (33 : Int32).toInt = 33 from rfl); have g34 := lv_neT h32_34 (show (34 : Int32).toInt = 34 from rfl); have g35 := lv_neT h32_35 (show (35 : Int32).toInt = 35 from rfl); have g36 := lv_neT h32_36 (show (36 : Int32).toInt = 36 from rfl); omega) (by decide) ?_
                                                                                refine gm_widen (k' := 200 + 5 * s9.1.toNatClampNeg + 5) (n' := 8000 + 140 * s9.1.toNatClampNeg + 140) (by omega) (by omega) ?_
                                                                                exact hj12 s9.2
