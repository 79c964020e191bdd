/-! THE LAW: its cases -/
theorem law_0 {X : Xn} {Q : Option Value → va_W → Prop} {sb L : Nat} {xs : Nat → Int32} {a b : Nat → Nat} {i : Nat} (hi : i + 6 ≤ L) (hL : L ≤ 3072) (kk : LK X Q sb L xs a b i 1302) : LK X Q sb L xs a b i 180 := by
  intro ν σ τ νm σm τm h
  show RunsS X sb L xs 62 M_Law_law 115 7510 Q 180 [some (.ref sb), some (.ref (a 0)), some (.ref (b 0)), some (.int (nI i))] [] 115 7510 (CW X a ν σ τ ++ MW X b νm σm τm)
  refine s_aload_n rfl 181 rfl d_Law_law_180 ?_
  refine s_aload_n rfl 182 rfl d_Law_law_181 ?_
  refine s_iload_n rfl 183 rfl d_Law_law_182 ?_
  refine s_iconst (nI 1) rfl 184 rfl d_Law_law_183 ?_
  refine s_iadd 185 rfl d_Law_law_184 ?_
  refine s_tald (i + 1) (nI_add _ _) (by omega) (by omega) 186 rfl d_Law_law_185 ?_
  refine s_aload_n rfl 187 rfl d_Law_law_186 ?_
  refine s_iload_n rfl 188 rfl d_Law_law_187 ?_
  refine s_iconst (nI 2) rfl 189 rfl d_Law_law_188 ?_
  refine s_iadd 190 rfl d_Law_law_189 ?_
  refine s_tald (i + 2) (nI_add _ _) (by omega) (by omega) 191 rfl d_Law_law_190 ?_
  refine law_pair (as := [.int (xs (i + 1)), .int (xs (i + 2))]) (pr_trader X (xs (i + 1)) (xs (i + 2))) lk_HB_trader lk_Mod_trader ln_Law_13 ln_Law_17 rfl rfl rfl 191 194 205 208 rfl rfl d_Law_law_191 d_Law_law_205 d_Law_law_208 (by decide) rfl (fun r w hw => ?_) kk ν σ τ νm σm τm h
  refine s_aload_n rfl 195 rfl d_Law_law_194 ?_
  refine s_aload_n rfl 196 rfl d_Law_law_195 ?_
  refine s_iload_n rfl 197 rfl d_Law_law_196 ?_
  refine s_iconst (nI 1) rfl 198 rfl d_Law_law_197 ?_
  refine s_iadd 199 rfl d_Law_law_198 ?_
  refine s_tald (i + 1) (nI_add _ _) (by omega) (by omega) 200 rfl d_Law_law_199 ?_
  refine s_aload_n rfl 201 rfl d_Law_law_200 ?_
  refine s_iload_n rfl 202 rfl d_Law_law_201 ?_
  refine s_iconst (nI 2) rfl 203 rfl d_Law_law_202 ?_
  refine s_iadd 204 rfl d_Law_law_203 ?_
  refine s_tald (i + 2) (nI_add _ _) (by omega) (by omega) 205 rfl d_Law_law_204 ?_
  exact hw
theorem law_1 {X : Xn} {Q : Option Value → va_W → Prop} {sb L : Nat} {xs : Nat → Int32} {a b : Nat → Nat} {i : Nat} (hi : i + 6 ≤ L) (hL : L ≤ 3072) (kk : LK X Q sb L xs a b i 1302) : LK X Q sb L xs a b i 213 := by
  intro ν σ τ νm σm τm h
  show RunsS X sb L xs 62 M_Law_law 115 7510 Q 213 [some (.ref sb), some (.ref (a 0)), some (.ref (b 0)), some (.int (nI i))] [] 115 7510 (CW X a ν σ τ ++ MW X b νm σm τm)
  refine s_aload_n rfl 214 rfl d_Law_law_213 ?_
  refine s_aload_n rfl 215 rfl d_Law_law_214 ?_
  refine s_iload_n rfl 216 rfl d_Law_law_215 ?_
  refine s_iconst (nI 1) rfl 217 rfl d_Law_law_216 ?_
  refine s_iadd 218 rfl d_Law_law_217 ?_
  refine s_tald (i + 1) (nI_add _ _) (by omega) (by omega) 219 rfl d_Law_law_218 ?_
  refine s_aload_n rfl 220 rfl d_Law_law_219 ?_
  refine s_iload_n rfl 221 rfl d_Law_law_220 ?_
  refine s_iconst (nI 2) rfl 222 rfl d_Law_law_221 ?_
  refine s_iadd 223 rfl d_Law_law_222 ?_
  refine s_tald (i + 2) (nI_add _ _) (by omega) (by omega) 224 rfl d_Law_law_223 ?_
  refine law_pair (as := [.int (xs (i + 1)), .int (xs (i + 2))]) (pr_of X (xs (i + 1)) (xs (i + 2))) lk_HB_of lk_Mod_of ln_Law_18 ln_Law_21 rfl rfl rfl 224 227 238 241 rfl rfl d_Law_law_224 d_Law_law_238 d_Law_law_241 (by decide) rfl (fun r w hw => ?_) kk ν σ τ νm σm τm h
  refine s_aload_n rfl 228 rfl d_Law_law_227 ?_
  refine s_aload_n rfl 229 rfl d_Law_law_228 ?_
  refine s_iload_n rfl 230 rfl d_Law_law_229 ?_
  refine s_iconst (nI 1) rfl 231 rfl d_Law_law_230 ?_
  refine s_iadd 232 rfl d_Law_law_231 ?_
  refine s_tald (i + 1) (nI_add _ _) (by omega) (by omega) 233 rfl d_Law_law_232 ?_
  refine s_aload_n rfl 234 rfl d_Law_law_233 ?_
  refine s_iload_n rfl 235 rfl d_Law_law_234 ?_
  refine s_iconst (nI 2) rfl 236 rfl d_Law_law_235 ?_
  refine s_iadd 237 rfl d_Law_law_236 ?_
  refine s_tald (i + 2) (nI_add _ _) (by omega) (by omega) 238 rfl d_Law_law_237 ?_
  exact hw
theorem law_2 {X : Xn} {Q : Option Value → va_W → Prop} {sb L : Nat} {xs : Nat → Int32} {a b : Nat → Nat} {i : Nat} (hi : i + 6 ≤ L) (hL : L ≤ 3072) (kk : LK X Q sb L xs a b i 1302) : LK X Q sb L xs a b i 246 := by
  intro ν σ τ νm σm τm h
  show RunsS X sb L xs 62 M_Law_law 115 7510 Q 246 [some (.ref sb), some (.ref (a 0)), some (.ref (b 0)), some (.int (nI i))] [] 115 7510 (CW X a ν σ τ ++ MW X b νm σm τm)
  refine s_aload_n rfl 247 rfl d_Law_law_246 ?_
  refine s_aload_n rfl 248 rfl d_Law_law_247 ?_
  refine s_iload_n rfl 249 rfl d_Law_law_248 ?_
  refine s_iconst (nI 1) rfl 250 rfl d_Law_law_249 ?_
  refine s_iadd 251 rfl d_Law_law_250 ?_
  refine s_tald (i + 1) (nI_add _ _) (by omega) (by omega) 252 rfl d_Law_law_251 ?_
  refine s_aload_n rfl 253 rfl d_Law_law_252 ?_
  refine s_iload_n rfl 254 rfl d_Law_law_253 ?_
  refine s_iconst (nI 2) rfl 255 rfl d_Law_law_254 ?_
  refine s_iadd 256 rfl d_Law_law_255 ?_
  refine s_tald (i + 2) (nI_add _ _) (by omega) (by omega) 257 rfl d_Law_law_256 ?_
  refine s_aload_n rfl 258 rfl d_Law_law_257 ?_
  refine s_iload_n rfl 259 rfl d_Law_law_258 ?_
  refine s_iconst (nI 3) rfl 260 rfl d_Law_law_259 ?_
  refine s_iadd 261 rfl d_Law_law_260 ?_
  refine s_tald (i + 3) (nI_add _ _) (by omega) (by omega) 262 rfl d_Law_law_261 ?_
  refine law_pair (as := [.int (xs (i + 1)), .int (xs (i + 2)), .int (xs (i + 3))]) (pr_owe X (xs (i + 1)) (xs (i + 2)) (xs (i + 3))) lk_HB_owe lk_Mod_owe ln_Law_22 ln_Law_26 rfl rfl rfl 262 265 281 284 rfl rfl d_Law_law_262 d_Law_law_281 d_Law_law_284 (by decide) rfl (fun r w hw => ?_) kk ν σ τ νm σm τm h
  refine s_aload_n rfl 266 rfl d_Law_law_265 ?_
  refine s_aload_n rfl 267 rfl d_Law_law_266 ?_
  refine s_iload_n rfl 268 rfl d_Law_law_267 ?_
  refine s_iconst (nI 1) rfl 269 rfl d_Law_law_268 ?_
  refine s_iadd 270 rfl d_Law_law_269 ?_
  refine s_tald (i + 1) (nI_add _ _) (by omega) (by omega) 271 rfl d_Law_law_270 ?_
  refine s_aload_n rfl 272 rfl d_Law_law_271 ?_
  refine s_iload_n rfl 273 rfl d_Law_law_272 ?_
  refine s_iconst (nI 2) rfl 274 rfl d_Law_law_273 ?_
  refine s_iadd 275 rfl d_Law_law_274 ?_
  refine s_tald (i + 2) (nI_add _ _) (by omega) (by omega) 276 rfl d_Law_law_275 ?_
  refine s_aload_n rfl 277 rfl d_Law_law_276 ?_
  refine s_iload_n rfl 278 rfl d_Law_law_277 ?_
  refine s_iconst (nI 3) rfl 279 rfl d_Law_law_278 ?_
  refine s_iadd 280 rfl d_Law_law_279 ?_
  refine s_tald (i + 3) (nI_add _ _) (by omega) (by omega) 281 rfl d_Law_law_280 ?_
  exact hw
theorem law_3 {X : Xn} {Q : Option Value → va_W → Prop} {sb L : Nat} {xs : Nat → Int32} {a b : Nat → Nat} {i : Nat} (hi : i + 6 ≤ L) (hL : L ≤ 3072) (kk : LK X Q sb L xs a b i 1302) : LK X Q sb L xs a b i 289 := by
  intro ν σ τ νm σm τm h
  show RunsS X sb L xs 62 M_Law_law 115 7510 Q 289 [some (.ref sb), some (.ref (a 0)), some (.ref (b 0)), some (.int (nI i))] [] 115 7510 (CW X a ν σ τ ++ MW X b νm σm τm)
  refine s_aload_n rfl 290 rfl d_Law_law_289 ?_
  refine s_aload_n rfl 291 rfl d_Law_law_290 ?_
  refine s_iload_n rfl 292 rfl d_Law_law_291 ?_
  refine s_iconst (nI 1) rfl 293 rfl d_Law_law_292 ?_
  refine s_iadd 294 rfl d_Law_law_293 ?_
  refine s_tald (i + 1) (nI_add _ _) (by omega) (by omega) 295 rfl d_Law_law_294 ?_
  refine s_aload_n rfl 296 rfl d_Law_law_295 ?_
  refine s_iload_n rfl 297 rfl d_Law_law_296 ?_
  refine s_iconst (nI 2) rfl 298 rfl d_Law_law_297 ?_
  refine s_iadd 299 rfl d_Law_law_298 ?_
  refine s_tald (i + 2) (nI_add _ _) (by omega) (by omega) 300 rfl d_Law_law_299 ?_
  refine law_pair (as := [.int (xs (i + 1)), .int (xs (i + 2))]) (pr_purse X (xs (i + 1)) (xs (i + 2))) lk_HB_purse lk_Mod_purse ln_Law_27 ln_Law_30 rfl rfl rfl 300 303 314 317 rfl rfl d_Law_law_300 d_Law_law_314 d_Law_law_317 (by decide) rfl (fun r w hw => ?_) kk ν σ τ νm σm τm h
  refine s_aload_n rfl 304 rfl d_Law_law_303 ?_
  refine s_aload_n rfl 305 rfl d_Law_law_304 ?_
  refine s_iload_n rfl 306 rfl d_Law_law_305 ?_
  refine s_iconst (nI 1) rfl 307 rfl d_Law_law_306 ?_
  refine s_iadd 308 rfl d_Law_law_307 ?_
  refine s_tald (i + 1) (nI_add _ _) (by omega) (by omega) 309 rfl d_Law_law_308 ?_
  refine s_aload_n rfl 310 rfl d_Law_law_309 ?_
  refine s_iload_n rfl 311 rfl d_Law_law_310 ?_
  refine s_iconst (nI 2) rfl 312 rfl d_Law_law_311 ?_
  refine s_iadd 313 rfl d_Law_law_312 ?_
  refine s_tald (i + 2) (nI_add _ _) (by omega) (by omega) 314 rfl d_Law_law_313 ?_
  exact hw
theorem law_4 {X : Xn} {Q : Option Value → va_W → Prop} {sb L : Nat} {xs : Nat → Int32} {a b : Nat → Nat} {i : Nat} (hi : i + 6 ≤ L) (hL : L ≤ 3072) (kk : LK X Q sb L xs a b i 1302) : LK X Q sb L xs a b i 322 := by
  intro ν σ τ νm σm τm h
  show RunsS X sb L xs 62 M_Law_law 115 7510 Q 322 [some (.ref sb), some (.ref (a 0)), some (.ref (b 0)), some (.int (nI i))] [] 115 7510 (CW X a ν σ τ ++ MW X b νm σm τm)
  refine s_aload_n rfl 323 rfl d_Law_law_322 ?_
  refine s_aload_n rfl 324 rfl d_Law_law_323 ?_
  refine s_iload_n rfl 325 rfl d_Law_law_324 ?_
  refine s_iconst (nI 1) rfl 326 rfl d_Law_law_325 ?_
  refine s_iadd 327 rfl d_Law_law_326 ?_
  refine s_tald (i + 1) (nI_add _ _) (by omega) (by omega) 328 rfl d_Law_law_327 ?_
  refine s_aload_n rfl 329 rfl d_Law_law_328 ?_
  refine s_iload_n rfl 330 rfl d_Law_law_329 ?_
  refine s_iconst (nI 2) rfl 331 rfl d_Law_law_330 ?_
  refine s_iadd 332 rfl d_Law_law_331 ?_
  refine s_tald (i + 2) (nI_add _ _) (by omega) (by omega) 333 rfl d_Law_law_332 ?_
  refine s_aload_n rfl 334 rfl d_Law_law_333 ?_
  refine s_iload_n rfl 335 rfl d_Law_law_334 ?_
  refine s_iconst (nI 3) rfl 336 rfl d_Law_law_335 ?_
  refine s_iadd 337 rfl d_Law_law_336 ?_
  refine s_tald (i + 3) (nI_add _ _) (by omega) (by omega) 338 rfl d_Law_law_337 ?_
  refine s_aload_n rfl 339 rfl d_Law_law_338 ?_
  refine s_iload_n rfl 340 rfl d_Law_law_339 ?_
  refine s_iconst (nI 4) rfl 341 rfl d_Law_law_340 ?_
  refine s_iadd 342 rfl d_Law_law_341 ?_
  refine s_tald (i + 4) (nI_add _ _) (by omega) (by omega) 343 rfl d_Law_law_342 ?_
  refine law_pair (as := [.int (xs (i + 1)), .int (xs (i + 2)), .int (xs (i + 3)), .int (xs (i + 4))]) (pr_reads X (xs (i + 1)) (xs (i + 2)) (xs (i + 3)) (xs (i + 4))) lk_HB_reads lk_Mod_reads ln_Law_31 ln_Law_35 rfl rfl rfl 343 346 367 370 rfl rfl d_Law_law_343 d_Law_law_367 d_Law_law_370 (by decide) rfl (fun r w hw => ?_) kk ν σ τ νm σm τm h
  refine s_aload_n rfl 347 rfl d_Law_law_346 ?_
  refine s_aload_n rfl 348 rfl d_Law_law_347 ?_
  refine s_iload_n rfl 349 rfl d_Law_law_348 ?_
  refine s_iconst (nI 1) rfl 350 rfl d_Law_law_349 ?_
  refine s_iadd 351 rfl d_Law_law_350 ?_
  refine s_tald (i + 1) (nI_add _ _) (by omega) (by omega) 352 rfl d_Law_law_351 ?_
  refine s_aload_n rfl 353 rfl d_Law_law_352 ?_
  refine s_iload_n rfl 354 rfl d_Law_law_353 ?_
  refine s_iconst (nI 2) rfl 355 rfl d_Law_law_354 ?_
  refine s_iadd 356 rfl d_Law_law_355 ?_
  refine s_tald (i + 2) (nI_add _ _) (by omega) (by omega) 357 rfl d_Law_law_356 ?_
  refine s_aload_n rfl 358 rfl d_Law_law_357 ?_
  refine s_iload_n rfl 359 rfl d_Law_law_358 ?_
  refine s_iconst (nI 3) rfl 360 rfl d_Law_law_359 ?_
  refine s_iadd 361 rfl d_Law_law_360 ?_
  refine s_tald (i + 3) (nI_add _ _) (by omega) (by omega) 362 rfl d_Law_law_361 ?_
  refine s_aload_n rfl 363 rfl d_Law_law_362 ?_
  refine s_iload_n rfl 364 rfl d_Law_law_363 ?_
  refine s_iconst (nI 4) rfl 365 rfl d_Law_law_364 ?_
  refine s_iadd 366 rfl d_Law_law_365 ?_
  refine s_tald (i + 4) (nI_add _ _) (by omega) (by omega) 367 rfl d_Law_law_366 ?_
  exact hw
theorem law_5 {X : Xn} {Q : Option Value → va_W → Prop} {sb L : Nat} {xs : Nat → Int32} {a b : Nat → Nat} {i : Nat} (hi : i + 6 ≤ L) (hL : L ≤ 3072) (kk : LK X Q sb L xs a b i 1302) : LK X Q sb L xs a b i 375 := by
  intro ν σ τ νm σm τm h
  show RunsS X sb L xs 62 M_Law_law 115 7510 Q 375 [some (.ref sb), some (.ref (a 0)), some (.ref (b 0)), some (.int (nI i))] [] 115 7510 (CW X a ν σ τ ++ MW X b νm σm τm)
  refine s_aload_n rfl 376 rfl d_Law_law_375 ?_
  refine s_aload_n rfl 377 rfl d_Law_law_376 ?_
  refine s_iload_n rfl 378 rfl d_Law_law_377 ?_
  refine s_iconst (nI 1) rfl 379 rfl d_Law_law_378 ?_
  refine s_iadd 380 rfl d_Law_law_379 ?_
  refine s_tald (i + 1) (nI_add _ _) (by omega) (by omega) 381 rfl d_Law_law_380 ?_
  refine s_aload_n rfl 382 rfl d_Law_law_381 ?_
  refine s_iload_n rfl 383 rfl d_Law_law_382 ?_
  refine s_iconst (nI 2) rfl 384 rfl d_Law_law_383 ?_
  refine s_iadd 385 rfl d_Law_law_384 ?_
  refine s_tald (i + 2) (nI_add _ _) (by omega) (by omega) 386 rfl d_Law_law_385 ?_
  refine s_aload_n rfl 387 rfl d_Law_law_386 ?_
  refine s_iload_n rfl 388 rfl d_Law_law_387 ?_
  refine s_iconst (nI 3) rfl 389 rfl d_Law_law_388 ?_
  refine s_iadd 390 rfl d_Law_law_389 ?_
  refine s_tald (i + 3) (nI_add _ _) (by omega) (by omega) 391 rfl d_Law_law_390 ?_
  refine law_pair (as := [.int (xs (i + 1)), .int (xs (i + 2)), .int (xs (i + 3))]) (pr_shake X (xs (i + 1)) (xs (i + 2)) (xs (i + 3))) lk_HB_shake lk_Mod_shake ln_Law_36 ln_Law_39 rfl rfl rfl 391 394 410 413 rfl rfl d_Law_law_391 d_Law_law_410 d_Law_law_413 (by decide) rfl (fun r w hw => ?_) kk ν σ τ νm σm τm h
  refine s_aload_n rfl 395 rfl d_Law_law_394 ?_
  refine s_aload_n rfl 396 rfl d_Law_law_395 ?_
  refine s_iload_n rfl 397 rfl d_Law_law_396 ?_
  refine s_iconst (nI 1) rfl 398 rfl d_Law_law_397 ?_
  refine s_iadd 399 rfl d_Law_law_398 ?_
  refine s_tald (i + 1) (nI_add _ _) (by omega) (by omega) 400 rfl d_Law_law_399 ?_
  refine s_aload_n rfl 401 rfl d_Law_law_400 ?_
  refine s_iload_n rfl 402 rfl d_Law_law_401 ?_
  refine s_iconst (nI 2) rfl 403 rfl d_Law_law_402 ?_
  refine s_iadd 404 rfl d_Law_law_403 ?_
  refine s_tald (i + 2) (nI_add _ _) (by omega) (by omega) 405 rfl d_Law_law_404 ?_
  refine s_aload_n rfl 406 rfl d_Law_law_405 ?_
  refine s_iload_n rfl 407 rfl d_Law_law_406 ?_
  refine s_iconst (nI 3) rfl 408 rfl d_Law_law_407 ?_
  refine s_iadd 409 rfl d_Law_law_408 ?_
  refine s_tald (i + 3) (nI_add _ _) (by omega) (by omega) 410 rfl d_Law_law_409 ?_
  exact hw
theorem law_6 {X : Xn} {Q : Option Value → va_W → Prop} {sb L : Nat} {xs : Nat → Int32} {a b : Nat → Nat} {i : Nat} (hi : i + 6 ≤ L) (hL : L ≤ 3072) (kk : LK X Q sb L xs a b i 1302) : LK X Q sb L xs a b i 418 := by
  intro ν σ τ νm σm τm h
  show RunsS X sb L xs 62 M_Law_law 115 7510 Q 418 [some (.ref sb), some (.ref (a 0)), some (.ref (b 0)), some (.int (nI i))] [] 115 7510 (CW X a ν σ τ ++ MW X b νm σm τm)
  refine s_aload_n rfl 419 rfl d_Law_law_418 ?_
  refine s_aload_n rfl 420 rfl d_Law_law_419 ?_
  refine s_iload_n rfl 421 rfl d_Law_law_420 ?_
  refine s_iconst (nI 1) rfl 422 rfl d_Law_law_421 ?_
  refine s_iadd 423 rfl d_Law_law_422 ?_
  refine s_tald (i + 1) (nI_add _ _) (by omega) (by omega) 424 rfl d_Law_law_423 ?_
  refine s_aload_n rfl 425 rfl d_Law_law_424 ?_
  refine s_iload_n rfl 426 rfl d_Law_law_425 ?_
  refine s_iconst (nI 2) rfl 427 rfl d_Law_law_426 ?_
  refine s_iadd 428 rfl d_Law_law_427 ?_
  refine s_tald (i + 2) (nI_add _ _) (by omega) (by omega) 429 rfl d_Law_law_428 ?_
  refine s_aload_n rfl 430 rfl d_Law_law_429 ?_
  refine s_iload_n rfl 431 rfl d_Law_law_430 ?_
  refine s_iconst (nI 3) rfl 432 rfl d_Law_law_431 ?_
  refine s_iadd 433 rfl d_Law_law_432 ?_
  refine s_tald (i + 3) (nI_add _ _) (by omega) (by omega) 434 rfl d_Law_law_433 ?_
  refine law_pair (as := [.int (xs (i + 1)), .int (xs (i + 2)), .int (xs (i + 3))]) (pr_between X (xs (i + 1)) (xs (i + 2)) (xs (i + 3))) lk_HB_between lk_Mod_between ln_Law_40 ln_Law_43 rfl rfl rfl 434 437 453 456 rfl rfl d_Law_law_434 d_Law_law_453 d_Law_law_456 (by decide) rfl (fun r w hw => ?_) kk ν σ τ νm σm τm h
  refine s_aload_n rfl 438 rfl d_Law_law_437 ?_
  refine s_aload_n rfl 439 rfl d_Law_law_438 ?_
  refine s_iload_n rfl 440 rfl d_Law_law_439 ?_
  refine s_iconst (nI 1) rfl 441 rfl d_Law_law_440 ?_
  refine s_iadd 442 rfl d_Law_law_441 ?_
  refine s_tald (i + 1) (nI_add _ _) (by omega) (by omega) 443 rfl d_Law_law_442 ?_
  refine s_aload_n rfl 444 rfl d_Law_law_443 ?_
  refine s_iload_n rfl 445 rfl d_Law_law_444 ?_
  refine s_iconst (nI 2) rfl 446 rfl d_Law_law_445 ?_
  refine s_iadd 447 rfl d_Law_law_446 ?_
  refine s_tald (i + 2) (nI_add _ _) (by omega) (by omega) 448 rfl d_Law_law_447 ?_
  refine s_aload_n rfl 449 rfl d_Law_law_448 ?_
  refine s_iload_n rfl 450 rfl d_Law_law_449 ?_
  refine s_iconst (nI 3) rfl 451 rfl d_Law_law_450 ?_
  refine s_iadd 452 rfl d_Law_law_451 ?_
  refine s_tald (i + 3) (nI_add _ _) (by omega) (by omega) 453 rfl d_Law_law_452 ?_
  exact hw
theorem law_7 {X : Xn} {Q : Option Value → va_W → Prop} {sb L : Nat} {xs : Nat → Int32} {a b : Nat → Nat} {i : Nat} (hi : i + 6 ≤ L) (hL : L ≤ 3072) (kk : LK X Q sb L xs a b i 1302) : LK X Q sb L xs a b i 461 := by
  intro ν σ τ νm σm τm h
  show RunsS X sb L xs 62 M_Law_law 115 7510 Q 461 [some (.ref sb), some (.ref (a 0)), some (.ref (b 0)), some (.int (nI i))] [] 115 7510 (CW X a ν σ τ ++ MW X b νm σm τm)
  refine s_aload_n rfl 462 rfl d_Law_law_461 ?_
  refine s_aload_n rfl 463 rfl d_Law_law_462 ?_
  refine s_iload_n rfl 464 rfl d_Law_law_463 ?_
  refine s_iconst (nI 1) rfl 465 rfl d_Law_law_464 ?_
  refine s_iadd 466 rfl d_Law_law_465 ?_
  refine s_tald (i + 1) (nI_add _ _) (by omega) (by omega) 467 rfl d_Law_law_466 ?_
  refine s_aload_n rfl 468 rfl d_Law_law_467 ?_
  refine s_iload_n rfl 469 rfl d_Law_law_468 ?_
  refine s_iconst (nI 2) rfl 470 rfl d_Law_law_469 ?_
  refine s_iadd 471 rfl d_Law_law_470 ?_
  refine s_tald (i + 2) (nI_add _ _) (by omega) (by omega) 472 rfl d_Law_law_471 ?_
  refine s_aload_n rfl 473 rfl d_Law_law_472 ?_
  refine s_iload_n rfl 474 rfl d_Law_law_473 ?_
  refine s_iconst (nI 3) rfl 475 rfl d_Law_law_474 ?_
  refine s_iadd 476 rfl d_Law_law_475 ?_
  refine s_tald (i + 3) (nI_add _ _) (by omega) (by omega) 477 rfl d_Law_law_476 ?_
  refine s_aload_n rfl 478 rfl d_Law_law_477 ?_
  refine s_iload_n rfl 479 rfl d_Law_law_478 ?_
  refine s_iconst (nI 4) rfl 480 rfl d_Law_law_479 ?_
  refine s_iadd 481 rfl d_Law_law_480 ?_
  refine s_tald (i + 4) (nI_add _ _) (by omega) (by omega) 482 rfl d_Law_law_481 ?_
  refine law_pair (as := [.int (xs (i + 1)), .int (xs (i + 2)), .int (xs (i + 3)), .int (xs (i + 4))]) (pr_squeezes X (xs (i + 1)) (xs (i + 2)) (xs (i + 3)) (xs (i + 4))) lk_HB_squeezes lk_Mod_squeezes ln_Law_44 ln_Law_47 rfl rfl rfl 482 485 506 509 rfl rfl d_Law_law_482 d_Law_law_506 d_Law_law_509 (by decide) rfl (fun r w hw => ?_) kk ν σ τ νm σm τm h
  refine s_aload_n rfl 486 rfl d_Law_law_485 ?_
  refine s_aload_n rfl 487 rfl d_Law_law_486 ?_
  refine s_iload_n rfl 488 rfl d_Law_law_487 ?_
  refine s_iconst (nI 1) rfl 489 rfl d_Law_law_488 ?_
  refine s_iadd 490 rfl d_Law_law_489 ?_
  refine s_tald (i + 1) (nI_add _ _) (by omega) (by omega) 491 rfl d_Law_law_490 ?_
  refine s_aload_n rfl 492 rfl d_Law_law_491 ?_
  refine s_iload_n rfl 493 rfl d_Law_law_492 ?_
  refine s_iconst (nI 2) rfl 494 rfl d_Law_law_493 ?_
  refine s_iadd 495 rfl d_Law_law_494 ?_
  refine s_tald (i + 2) (nI_add _ _) (by omega) (by omega) 496 rfl d_Law_law_495 ?_
  refine s_aload_n rfl 497 rfl d_Law_law_496 ?_
  refine s_iload_n rfl 498 rfl d_Law_law_497 ?_
  refine s_iconst (nI 3) rfl 499 rfl d_Law_law_498 ?_
  refine s_iadd 500 rfl d_Law_law_499 ?_
  refine s_tald (i + 3) (nI_add _ _) (by omega) (by omega) 501 rfl d_Law_law_500 ?_
  refine s_aload_n rfl 502 rfl d_Law_law_501 ?_
  refine s_iload_n rfl 503 rfl d_Law_law_502 ?_
  refine s_iconst (nI 4) rfl 504 rfl d_Law_law_503 ?_
  refine s_iadd 505 rfl d_Law_law_504 ?_
  refine s_tald (i + 4) (nI_add _ _) (by omega) (by omega) 506 rfl d_Law_law_505 ?_
  exact hw
theorem law_8 {X : Xn} {Q : Option Value → va_W → Prop} {sb L : Nat} {xs : Nat → Int32} {a b : Nat → Nat} {i : Nat} (hi : i + 6 ≤ L) (hL : L ≤ 3072) (kk : LK X Q sb L xs a b i 1302) : LK X Q sb L xs a b i 514 := by
  intro ν σ τ νm σm τm h
  show RunsS X sb L xs 62 M_Law_law 115 7510 Q 514 [some (.ref sb), some (.ref (a 0)), some (.ref (b 0)), some (.int (nI i))] [] 115 7510 (CW X a ν σ τ ++ MW X b νm σm τm)
  refine s_aload_n rfl 515 rfl d_Law_law_514 ?_
  refine s_aload_n rfl 516 rfl d_Law_law_515 ?_
  refine s_iload_n rfl 517 rfl d_Law_law_516 ?_
  refine s_iconst (nI 1) rfl 518 rfl d_Law_law_517 ?_
  refine s_iadd 519 rfl d_Law_law_518 ?_
  refine s_tald (i + 1) (nI_add _ _) (by omega) (by omega) 520 rfl d_Law_law_519 ?_
  refine s_aload_n rfl 521 rfl d_Law_law_520 ?_
  refine s_iload_n rfl 522 rfl d_Law_law_521 ?_
  refine s_iconst (nI 2) rfl 523 rfl d_Law_law_522 ?_
  refine s_iadd 524 rfl d_Law_law_523 ?_
  refine s_tald (i + 2) (nI_add _ _) (by omega) (by omega) 525 rfl d_Law_law_524 ?_
  refine s_aload_n rfl 526 rfl d_Law_law_525 ?_
  refine s_iload_n rfl 527 rfl d_Law_law_526 ?_
  refine s_iconst (nI 3) rfl 528 rfl d_Law_law_527 ?_
  refine s_iadd 529 rfl d_Law_law_528 ?_
  refine s_tald (i + 3) (nI_add _ _) (by omega) (by omega) 530 rfl d_Law_law_529 ?_
  refine law_pair (as := [.int (xs (i + 1)), .int (xs (i + 2)), .int (xs (i + 3))]) (pr_row X (xs (i + 1)) (xs (i + 2)) (xs (i + 3))) lk_HB_row lk_Mod_row ln_Law_48 ln_Law_51 rfl rfl rfl 530 533 549 552 rfl rfl d_Law_law_530 d_Law_law_549 d_Law_law_552 (by decide) rfl (fun r w hw => ?_) kk ν σ τ νm σm τm h
  refine s_aload_n rfl 534 rfl d_Law_law_533 ?_
  refine s_aload_n rfl 535 rfl d_Law_law_534 ?_
  refine s_iload_n rfl 536 rfl d_Law_law_535 ?_
  refine s_iconst (nI 1) rfl 537 rfl d_Law_law_536 ?_
  refine s_iadd 538 rfl d_Law_law_537 ?_
  refine s_tald (i + 1) (nI_add _ _) (by omega) (by omega) 539 rfl d_Law_law_538 ?_
  refine s_aload_n rfl 540 rfl d_Law_law_539 ?_
  refine s_iload_n rfl 541 rfl d_Law_law_540 ?_
  refine s_iconst (nI 2) rfl 542 rfl d_Law_law_541 ?_
  refine s_iadd 543 rfl d_Law_law_542 ?_
  refine s_tald (i + 2) (nI_add _ _) (by omega) (by omega) 544 rfl d_Law_law_543 ?_
  refine s_aload_n rfl 545 rfl d_Law_law_544 ?_
  refine s_iload_n rfl 546 rfl d_Law_law_545 ?_
  refine s_iconst (nI 3) rfl 547 rfl d_Law_law_546 ?_
  refine s_iadd 548 rfl d_Law_law_547 ?_
  refine s_tald (i + 3) (nI_add _ _) (by omega) (by omega) 549 rfl d_Law_law_548 ?_
  exact hw
theorem law_9 {X : Xn} {Q : Option Value → va_W → Prop} {sb L : Nat} {xs : Nat → Int32} {a b : Nat → Nat} {i : Nat} (hi : i + 6 ≤ L) (hL : L ≤ 3072) (kk : LK X Q sb L xs a b i 1302) : LK X Q sb L xs a b i 557 := by
  intro ν σ τ νm σm τm h
  show RunsS X sb L xs 62 M_Law_law 115 7510 Q 557 [some (.ref sb), some (.ref (a 0)), some (.ref (b 0)), some (.int (nI i))] [] 115 7510 (CW X a ν σ τ ++ MW X b νm σm τm)
  refine s_aload_n rfl 558 rfl d_Law_law_557 ?_
  refine s_aload_n rfl 559 rfl d_Law_law_558 ?_
  refine s_iload_n rfl 560 rfl d_Law_law_559 ?_
  refine s_iconst (nI 1) rfl 561 rfl d_Law_law_560 ?_
  refine s_iadd 562 rfl d_Law_law_561 ?_
  refine s_tald (i + 1) (nI_add _ _) (by omega) (by omega) 563 rfl d_Law_law_562 ?_
  refine law_pair (as := [.int (xs (i + 1))]) (pr_feed X (xs (i + 1))) lk_HB_feed lk_Mod_feed ln_Law_52 ln_Law_56 rfl rfl rfl 563 566 572 575 rfl rfl d_Law_law_563 d_Law_law_572 d_Law_law_575 (by decide) rfl (fun r w hw => ?_) kk ν σ τ νm σm τm h
  refine s_aload_n rfl 567 rfl d_Law_law_566 ?_
  refine s_aload_n rfl 568 rfl d_Law_law_567 ?_
  refine s_iload_n rfl 569 rfl d_Law_law_568 ?_
  refine s_iconst (nI 1) rfl 570 rfl d_Law_law_569 ?_
  refine s_iadd 571 rfl d_Law_law_570 ?_
  refine s_tald (i + 1) (nI_add _ _) (by omega) (by omega) 572 rfl d_Law_law_571 ?_
  exact hw
theorem law_10 {X : Xn} {Q : Option Value → va_W → Prop} {sb L : Nat} {xs : Nat → Int32} {a b : Nat → Nat} {i : Nat} (hi : i + 6 ≤ L) (hL : L ≤ 3072) (kk : LK X Q sb L xs a b i 1302) : LK X Q sb L xs a b i 580 := by
  intro ν σ τ νm σm τm h
  show RunsS X sb L xs 62 M_Law_law 115 7510 Q 580 [some (.ref sb), some (.ref (a 0)), some (.ref (b 0)), some (.int (nI i))] [] 115 7510 (CW X a ν σ τ ++ MW X b νm σm τm)
  refine s_aload_n rfl 581 rfl d_Law_law_580 ?_
  refine law_pair (as := []) (pr_exchange X) lk_HB_exchange lk_Mod_exchange ln_Law_57 ln_Law_61 rfl rfl rfl 581 584 585 588 rfl rfl d_Law_law_581 d_Law_law_585 d_Law_law_588 (by decide) rfl (fun r w hw => ?_) kk ν σ τ νm σm τm h
  refine s_aload_n rfl 585 rfl d_Law_law_584 ?_
  exact hw
theorem law_11 {X : Xn} {Q : Option Value → va_W → Prop} {sb L : Nat} {xs : Nat → Int32} {a b : Nat → Nat} {i : Nat} (hi : i + 6 ≤ L) (hL : L ≤ 3072) (kk : LK X Q sb L xs a b i 1302) : LK X Q sb L xs a b i 593 := by
  intro ν σ τ νm σm τm h
  show RunsS X sb L xs 62 M_Law_law 115 7510 Q 593 [some (.ref sb), some (.ref (a 0)), some (.ref (b 0)), some (.int (nI i))] [] 115 7510 (CW X a ν σ τ ++ MW X b νm σm τm)
  refine s_aload_n rfl 594 rfl d_Law_law_593 ?_
  refine s_aload_n rfl 595 rfl d_Law_law_594 ?_
  refine s_iload_n rfl 596 rfl d_Law_law_595 ?_
  refine s_iconst (nI 1) rfl 597 rfl d_Law_law_596 ?_
  refine s_iadd 598 rfl d_Law_law_597 ?_
  refine s_tald (i + 1) (nI_add _ _) (by omega) (by omega) 599 rfl d_Law_law_598 ?_
  refine law_pair (as := [.int (xs (i + 1))]) (pr_told X (xs (i + 1))) lk_HB_told lk_Mod_told ln_Law_62 ln_Law_65 rfl rfl rfl 599 602 608 611 rfl rfl d_Law_law_599 d_Law_law_608 d_Law_law_611 (by decide) rfl (fun r w hw => ?_) kk ν σ τ νm σm τm h
  refine s_aload_n rfl 603 rfl d_Law_law_602 ?_
  refine s_aload_n rfl 604 rfl d_Law_law_603 ?_
  refine s_iload_n rfl 605 rfl d_Law_law_604 ?_
  refine s_iconst (nI 1) rfl 606 rfl d_Law_law_605 ?_
  refine s_iadd 607 rfl d_Law_law_606 ?_
  refine s_tald (i + 1) (nI_add _ _) (by omega) (by omega) 608 rfl d_Law_law_607 ?_
  exact hw
theorem law_12 {X : Xn} {Q : Option Value → va_W → Prop} {sb L : Nat} {xs : Nat → Int32} {a b : Nat → Nat} {i : Nat} (hi : i + 6 ≤ L) (hL : L ≤ 3072) (kk : LK X Q sb L xs a b i 1302) : LK X Q sb L xs a b i 616 := by
  intro ν σ τ νm σm τm h
  show RunsS X sb L xs 62 M_Law_law 115 7510 Q 616 [some (.ref sb), some (.ref (a 0)), some (.ref (b 0)), some (.int (nI i))] [] 115 7510 (CW X a ν σ τ ++ MW X b νm σm τm)
  refine s_aload_n rfl 617 rfl d_Law_law_616 ?_
  refine s_aload_n rfl 618 rfl d_Law_law_617 ?_
  refine s_iload_n rfl 619 rfl d_Law_law_618 ?_
  refine s_iconst (nI 1) rfl 620 rfl d_Law_law_619 ?_
  refine s_iadd 621 rfl d_Law_law_620 ?_
  refine s_tald (i + 1) (nI_add _ _) (by omega) (by omega) 622 rfl d_Law_law_621 ?_
  refine law_pair (as := [.int (xs (i + 1))]) (pr_pass X (xs (i + 1))) lk_HB_pass lk_Mod_pass ln_Law_66 ln_Law_69 rfl rfl rfl 622 625 631 634 rfl rfl d_Law_law_622 d_Law_law_631 d_Law_law_634 (by decide) rfl (fun r w hw => ?_) kk ν σ τ νm σm τm h
  refine s_aload_n rfl 626 rfl d_Law_law_625 ?_
  refine s_aload_n rfl 627 rfl d_Law_law_626 ?_
  refine s_iload_n rfl 628 rfl d_Law_law_627 ?_
  refine s_iconst (nI 1) rfl 629 rfl d_Law_law_628 ?_
  refine s_iadd 630 rfl d_Law_law_629 ?_
  refine s_tald (i + 1) (nI_add _ _) (by omega) (by omega) 631 rfl d_Law_law_630 ?_
  exact hw
theorem law_13 {X : Xn} {Q : Option Value → va_W → Prop} {sb L : Nat} {xs : Nat → Int32} {a b : Nat → Nat} {i : Nat} (hi : i + 6 ≤ L) (hL : L ≤ 3072) (kk : LK X Q sb L xs a b i 1302) : LK X Q sb L xs a b i 639 := by
  intro ν σ τ νm σm τm h
  show RunsS X sb L xs 62 M_Law_law 115 7510 Q 639 [some (.ref sb), some (.ref (a 0)), some (.ref (b 0)), some (.int (nI i))] [] 115 7510 (CW X a ν σ τ ++ MW X b νm σm τm)
  refine s_aload_n rfl 640 rfl d_Law_law_639 ?_
  refine s_aload_n rfl 641 rfl d_Law_law_640 ?_
  refine s_iload_n rfl 642 rfl d_Law_law_641 ?_
  refine s_iconst (nI 1) rfl 643 rfl d_Law_law_642 ?_
  refine s_iadd 644 rfl d_Law_law_643 ?_
  refine s_tald (i + 1) (nI_add _ _) (by omega) (by omega) 645 rfl d_Law_law_644 ?_
  refine s_aload_n rfl 646 rfl d_Law_law_645 ?_
  refine s_iload_n rfl 647 rfl d_Law_law_646 ?_
  refine s_iconst (nI 2) rfl 648 rfl d_Law_law_647 ?_
  refine s_iadd 649 rfl d_Law_law_648 ?_
  refine s_tald (i + 2) (nI_add _ _) (by omega) (by omega) 650 rfl d_Law_law_649 ?_
  refine s_aload_n rfl 651 rfl d_Law_law_650 ?_
  refine s_iload_n rfl 652 rfl d_Law_law_651 ?_
  refine s_iconst (nI 3) rfl 653 rfl d_Law_law_652 ?_
  refine s_iadd 654 rfl d_Law_law_653 ?_
  refine s_tald (i + 3) (nI_add _ _) (by omega) (by omega) 655 rfl d_Law_law_654 ?_
  refine s_aload_n rfl 656 rfl d_Law_law_655 ?_
  refine s_iload_n rfl 657 rfl d_Law_law_656 ?_
  refine s_iconst (nI 4) rfl 658 rfl d_Law_law_657 ?_
  refine s_iadd 659 rfl d_Law_law_658 ?_
  refine s_tald (i + 4) (nI_add _ _) (by omega) (by omega) 660 rfl d_Law_law_659 ?_
  refine s_aload_n rfl 661 rfl d_Law_law_660 ?_
  refine s_iload_n rfl 662 rfl d_Law_law_661 ?_
  refine s_iconst (nI 5) rfl 663 rfl d_Law_law_662 ?_
  refine s_iadd 664 rfl d_Law_law_663 ?_
  refine s_tald (i + 5) (nI_add _ _) (by omega) (by omega) 665 rfl d_Law_law_664 ?_
  refine law_pair (as := [.int (xs (i + 1)), .int (xs (i + 2)), .int (xs (i + 3)), .int (xs (i + 4)), .int (xs (i + 5))]) (pr_see X (xs (i + 1)) (xs (i + 2)) (xs (i + 3)) (xs (i + 4)) (xs (i + 5))) lk_HB_see lk_Mod_see ln_Law_70 ln_Law_74 rfl rfl rfl 665 668 694 697 rfl rfl d_Law_law_665 d_Law_law_694 d_Law_law_697 (by decide) rfl (fun r w hw => ?_) kk ν σ τ νm σm τm h
  refine s_aload_n rfl 669 rfl d_Law_law_668 ?_
  refine s_aload_n rfl 670 rfl d_Law_law_669 ?_
  refine s_iload_n rfl 671 rfl d_Law_law_670 ?_
  refine s_iconst (nI 1) rfl 672 rfl d_Law_law_671 ?_
  refine s_iadd 673 rfl d_Law_law_672 ?_
  refine s_tald (i + 1) (nI_add _ _) (by omega) (by omega) 674 rfl d_Law_law_673 ?_
  refine s_aload_n rfl 675 rfl d_Law_law_674 ?_
  refine s_iload_n rfl 676 rfl d_Law_law_675 ?_
  refine s_iconst (nI 2) rfl 677 rfl d_Law_law_676 ?_
  refine s_iadd 678 rfl d_Law_law_677 ?_
  refine s_tald (i + 2) (nI_add _ _) (by omega) (by omega) 679 rfl d_Law_law_678 ?_
  refine s_aload_n rfl 680 rfl d_Law_law_679 ?_
  refine s_iload_n rfl 681 rfl d_Law_law_680 ?_
  refine s_iconst (nI 3) rfl 682 rfl d_Law_law_681 ?_
  refine s_iadd 683 rfl d_Law_law_682 ?_
  refine s_tald (i + 3) (nI_add _ _) (by omega) (by omega) 684 rfl d_Law_law_683 ?_
  refine s_aload_n rfl 685 rfl d_Law_law_684 ?_
  refine s_iload_n rfl 686 rfl d_Law_law_685 ?_
  refine s_iconst (nI 4) rfl 687 rfl d_Law_law_686 ?_
  refine s_iadd 688 rfl d_Law_law_687 ?_
  refine s_tald (i + 4) (nI_add _ _) (by omega) (by omega) 689 rfl d_Law_law_688 ?_
  refine s_aload_n rfl 690 rfl d_Law_law_689 ?_
  refine s_iload_n rfl 691 rfl d_Law_law_690 ?_
  refine s_iconst (nI 5) rfl 692 rfl d_Law_law_691 ?_
  refine s_iadd 693 rfl d_Law_law_692 ?_
  refine s_tald (i + 5) (nI_add _ _) (by omega) (by omega) 694 rfl d_Law_law_693 ?_
  exact hw
theorem law_14 {X : Xn} {Q : Option Value → va_W → Prop} {sb L : Nat} {xs : Nat → Int32} {a b : Nat → Nat} {i : Nat} (hi : i + 6 ≤ L) (hL : L ≤ 3072) (kk : LK X Q sb L xs a b i 1302) : LK X Q sb L xs a b i 702 := by
  intro ν σ τ νm σm τm h
  show RunsS X sb L xs 62 M_Law_law 115 7510 Q 702 [some (.ref sb), some (.ref (a 0)), some (.ref (b 0)), some (.int (nI i))] [] 115 7510 (CW X a ν σ τ ++ MW X b νm σm τm)
  refine s_aload_n rfl 703 rfl d_Law_law_702 ?_
  refine law_pair (as := []) (pr_wrong X) lk_HB_wrong lk_Mod_wrong ln_Law_75 ln_Law_78 rfl rfl rfl 703 706 707 710 rfl rfl d_Law_law_703 d_Law_law_707 d_Law_law_710 (by decide) rfl (fun r w hw => ?_) kk ν σ τ νm σm τm h
  refine s_aload_n rfl 707 rfl d_Law_law_706 ?_
  exact hw
theorem law_15 {X : Xn} {Q : Option Value → va_W → Prop} {sb L : Nat} {xs : Nat → Int32} {a b : Nat → Nat} {i : Nat} (hi : i + 6 ≤ L) (hL : L ≤ 3072) (kk : LK X Q sb L xs a b i 1302) : LK X Q sb L xs a b i 715 := by
  intro ν σ τ νm σm τm h
  show RunsS X sb L xs 62 M_Law_law 115 7510 Q 715 [some (.ref sb), some (.ref (a 0)), some (.ref (b 0)), some (.int (nI i))] [] 115 7510 (CW X a ν σ τ ++ MW X b νm σm τm)
  refine s_aload_n rfl 716 rfl d_Law_law_715 ?_
  refine s_aload_n rfl 717 rfl d_Law_law_716 ?_
  refine s_iload_n rfl 718 rfl d_Law_law_717 ?_
  refine s_iconst (nI 1) rfl 719 rfl d_Law_law_718 ?_
  refine s_iadd 720 rfl d_Law_law_719 ?_
  refine s_tald (i + 1) (nI_add _ _) (by omega) (by omega) 721 rfl d_Law_law_720 ?_
  refine s_aload_n rfl 722 rfl d_Law_law_721 ?_
  refine s_iload_n rfl 723 rfl d_Law_law_722 ?_
  refine s_iconst (nI 2) rfl 724 rfl d_Law_law_723 ?_
  refine s_iadd 725 rfl d_Law_law_724 ?_
  refine s_tald (i + 2) (nI_add _ _) (by omega) (by omega) 726 rfl d_Law_law_725 ?_
  refine law_pair (as := [.int (xs (i + 1)), .int (xs (i + 2))]) (pr_can X (xs (i + 1)) (xs (i + 2))) lk_HB_can lk_Mod_can ln_Law_79 ln_Law_82 rfl rfl rfl 726 729 740 743 rfl rfl d_Law_law_726 d_Law_law_740 d_Law_law_743 (by decide) rfl (fun r w hw => ?_) kk ν σ τ νm σm τm h
  refine s_aload_n rfl 730 rfl d_Law_law_729 ?_
  refine s_aload_n rfl 731 rfl d_Law_law_730 ?_
  refine s_iload_n rfl 732 rfl d_Law_law_731 ?_
  refine s_iconst (nI 1) rfl 733 rfl d_Law_law_732 ?_
  refine s_iadd 734 rfl d_Law_law_733 ?_
  refine s_tald (i + 1) (nI_add _ _) (by omega) (by omega) 735 rfl d_Law_law_734 ?_
  refine s_aload_n rfl 736 rfl d_Law_law_735 ?_
  refine s_iload_n rfl 737 rfl d_Law_law_736 ?_
  refine s_iconst (nI 2) rfl 738 rfl d_Law_law_737 ?_
  refine s_iadd 739 rfl d_Law_law_738 ?_
  refine s_tald (i + 2) (nI_add _ _) (by omega) (by omega) 740 rfl d_Law_law_739 ?_
  exact hw
theorem law_16 {X : Xn} {Q : Option Value → va_W → Prop} {sb L : Nat} {xs : Nat → Int32} {a b : Nat → Nat} {i : Nat} (hi : i + 6 ≤ L) (hL : L ≤ 3072) (kk : LK X Q sb L xs a b i 1302) : LK X Q sb L xs a b i 748 := by
  intro ν σ τ νm σm τm h
  show RunsS X sb L xs 62 M_Law_law 115 7510 Q 748 [some (.ref sb), some (.ref (a 0)), some (.ref (b 0)), some (.int (nI i))] [] 115 7510 (CW X a ν σ τ ++ MW X b νm σm τm)
  refine s_aload_n rfl 749 rfl d_Law_law_748 ?_
  refine s_aload_n rfl 750 rfl d_Law_law_749 ?_
  refine s_iload_n rfl 751 rfl d_Law_law_750 ?_
  refine s_iconst (nI 1) rfl 752 rfl d_Law_law_751 ?_
  refine s_iadd 753 rfl d_Law_law_752 ?_
  refine s_tald (i + 1) (nI_add _ _) (by omega) (by omega) 754 rfl d_Law_law_753 ?_
  refine law_pairL (as := [.int (xs (i + 1))]) (pr_odds X (xs (i + 1))) lk_HB_odds lk_Mod_odds ln_Law_83 ln_Law_87 rfl rfl rfl 754 757 763 766 rfl rfl d_Law_law_754 d_Law_law_763 d_Law_law_766 d_Law_law_767 (by decide) rfl (fun r w hw => ?_) kk ν σ τ νm σm τm h
  refine s_aload_n rfl 758 rfl d_Law_law_757 ?_
  refine s_aload_n rfl 759 rfl d_Law_law_758 ?_
  refine s_iload_n rfl 760 rfl d_Law_law_759 ?_
  refine s_iconst (nI 1) rfl 761 rfl d_Law_law_760 ?_
  refine s_iadd 762 rfl d_Law_law_761 ?_
  refine s_tald (i + 1) (nI_add _ _) (by omega) (by omega) 763 rfl d_Law_law_762 ?_
  exact hw
theorem law_17 {X : Xn} {Q : Option Value → va_W → Prop} {sb L : Nat} {xs : Nat → Int32} {a b : Nat → Nat} {i : Nat} (hi : i + 6 ≤ L) (hL : L ≤ 3072) (kk : LK X Q sb L xs a b i 1302) : LK X Q sb L xs a b i 772 := by
  intro ν σ τ νm σm τm h
  show RunsS X sb L xs 62 M_Law_law 115 7510 Q 772 [some (.ref sb), some (.ref (a 0)), some (.ref (b 0)), some (.int (nI i))] [] 115 7510 (CW X a ν σ τ ++ MW X b νm σm τm)
  refine s_aload_n rfl 773 rfl d_Law_law_772 ?_
  refine s_aload_n rfl 774 rfl d_Law_law_773 ?_
  refine s_iload_n rfl 775 rfl d_Law_law_774 ?_
  refine s_iconst (nI 1) rfl 776 rfl d_Law_law_775 ?_
  refine s_iadd 777 rfl d_Law_law_776 ?_
  refine s_tald (i + 1) (nI_add _ _) (by omega) (by omega) 778 rfl d_Law_law_777 ?_
  refine law_pairL (as := [.int (xs (i + 1))]) (pr_mean X (xs (i + 1))) lk_HB_mean lk_Mod_mean ln_Law_88 ln_Law_91 rfl rfl rfl 778 781 787 790 rfl rfl d_Law_law_778 d_Law_law_787 d_Law_law_790 d_Law_law_791 (by decide) rfl (fun r w hw => ?_) kk ν σ τ νm σm τm h
  refine s_aload_n rfl 782 rfl d_Law_law_781 ?_
  refine s_aload_n rfl 783 rfl d_Law_law_782 ?_
  refine s_iload_n rfl 784 rfl d_Law_law_783 ?_
  refine s_iconst (nI 1) rfl 785 rfl d_Law_law_784 ?_
  refine s_iadd 786 rfl d_Law_law_785 ?_
  refine s_tald (i + 1) (nI_add _ _) (by omega) (by omega) 787 rfl d_Law_law_786 ?_
  exact hw
theorem law_18 {X : Xn} {Q : Option Value → va_W → Prop} {sb L : Nat} {xs : Nat → Int32} {a b : Nat → Nat} {i : Nat} (hi : i + 6 ≤ L) (hL : L ≤ 3072) (kk : LK X Q sb L xs a b i 1302) : LK X Q sb L xs a b i 796 := by
  intro ν σ τ νm σm τm h
  show RunsS X sb L xs 62 M_Law_law 115 7510 Q 796 [some (.ref sb), some (.ref (a 0)), some (.ref (b 0)), some (.int (nI i))] [] 115 7510 (CW X a ν σ τ ++ MW X b νm σm τm)
  refine s_aload_n rfl 797 rfl d_Law_law_796 ?_
  refine s_aload_n rfl 798 rfl d_Law_law_797 ?_
  refine s_iload_n rfl 799 rfl d_Law_law_798 ?_
  refine s_iconst (nI 1) rfl 800 rfl d_Law_law_799 ?_
  refine s_iadd 801 rfl d_Law_law_800 ?_
  refine s_tald (i + 1) (nI_add _ _) (by omega) (by omega) 802 rfl d_Law_law_801 ?_
  refine s_aload_n rfl 803 rfl d_Law_law_802 ?_
  refine s_iload_n rfl 804 rfl d_Law_law_803 ?_
  refine s_iconst (nI 2) rfl 805 rfl d_Law_law_804 ?_
  refine s_iadd 806 rfl d_Law_law_805 ?_
  refine s_tald (i + 2) (nI_add _ _) (by omega) (by omega) 807 rfl d_Law_law_806 ?_
  refine law_pair (as := [.int (xs (i + 1)), .int (xs (i + 2))]) (pr_plan X (xs (i + 1)) (xs (i + 2))) lk_HB_plan lk_Mod_plan ln_Law_92 ln_Law_95 rfl rfl rfl 807 810 821 824 rfl rfl d_Law_law_807 d_Law_law_821 d_Law_law_824 (by decide) rfl (fun r w hw => ?_) kk ν σ τ νm σm τm h
  refine s_aload_n rfl 811 rfl d_Law_law_810 ?_
  refine s_aload_n rfl 812 rfl d_Law_law_811 ?_
  refine s_iload_n rfl 813 rfl d_Law_law_812 ?_
  refine s_iconst (nI 1) rfl 814 rfl d_Law_law_813 ?_
  refine s_iadd 815 rfl d_Law_law_814 ?_
  refine s_tald (i + 1) (nI_add _ _) (by omega) (by omega) 816 rfl d_Law_law_815 ?_
  refine s_aload_n rfl 817 rfl d_Law_law_816 ?_
  refine s_iload_n rfl 818 rfl d_Law_law_817 ?_
  refine s_iconst (nI 2) rfl 819 rfl d_Law_law_818 ?_
  refine s_iadd 820 rfl d_Law_law_819 ?_
  refine s_tald (i + 2) (nI_add _ _) (by omega) (by omega) 821 rfl d_Law_law_820 ?_
  exact hw
theorem law_19 {X : Xn} {Q : Option Value → va_W → Prop} {sb L : Nat} {xs : Nat → Int32} {a b : Nat → Nat} {i : Nat} (hi : i + 6 ≤ L) (hL : L ≤ 3072) (kk : LK X Q sb L xs a b i 1302) : LK X Q sb L xs a b i 829 := by
  intro ν σ τ νm σm τm h
  show RunsS X sb L xs 62 M_Law_law 115 7510 Q 829 [some (.ref sb), some (.ref (a 0)), some (.ref (b 0)), some (.int (nI i))] [] 115 7510 (CW X a ν σ τ ++ MW X b νm σm τm)
  refine s_aload_n rfl 830 rfl d_Law_law_829 ?_
  refine s_aload_n rfl 831 rfl d_Law_law_830 ?_
  refine s_iload_n rfl 832 rfl d_Law_law_831 ?_
  refine s_iconst (nI 1) rfl 833 rfl d_Law_law_832 ?_
  refine s_iadd 834 rfl d_Law_law_833 ?_
  refine s_tald (i + 1) (nI_add _ _) (by omega) (by omega) 835 rfl d_Law_law_834 ?_
  refine law_pair (as := [.int (xs (i + 1))]) (pr_ends X (xs (i + 1))) lk_HB_ends lk_Mod_ends ln_Law_96 ln_Law_99 rfl rfl rfl 835 838 844 847 rfl rfl d_Law_law_835 d_Law_law_844 d_Law_law_847 (by decide) rfl (fun r w hw => ?_) kk ν σ τ νm σm τm h
  refine s_aload_n rfl 839 rfl d_Law_law_838 ?_
  refine s_aload_n rfl 840 rfl d_Law_law_839 ?_
  refine s_iload_n rfl 841 rfl d_Law_law_840 ?_
  refine s_iconst (nI 1) rfl 842 rfl d_Law_law_841 ?_
  refine s_iadd 843 rfl d_Law_law_842 ?_
  refine s_tald (i + 1) (nI_add _ _) (by omega) (by omega) 844 rfl d_Law_law_843 ?_
  exact hw
theorem law_20 {X : Xn} {Q : Option Value → va_W → Prop} {sb L : Nat} {xs : Nat → Int32} {a b : Nat → Nat} {i : Nat} (hi : i + 6 ≤ L) (hL : L ≤ 3072) (kk : LK X Q sb L xs a b i 1302) : LK X Q sb L xs a b i 852 := by
  intro ν σ τ νm σm τm h
  show RunsS X sb L xs 62 M_Law_law 115 7510 Q 852 [some (.ref sb), some (.ref (a 0)), some (.ref (b 0)), some (.int (nI i))] [] 115 7510 (CW X a ν σ τ ++ MW X b νm σm τm)
  refine s_aload_n rfl 853 rfl d_Law_law_852 ?_
  refine s_aload_n rfl 854 rfl d_Law_law_853 ?_
  refine s_iload_n rfl 855 rfl d_Law_law_854 ?_
  refine s_iconst (nI 1) rfl 856 rfl d_Law_law_855 ?_
  refine s_iadd 857 rfl d_Law_law_856 ?_
  refine s_tald (i + 1) (nI_add _ _) (by omega) (by omega) 858 rfl d_Law_law_857 ?_
  refine s_aload_n rfl 859 rfl d_Law_law_858 ?_
  refine s_iload_n rfl 860 rfl d_Law_law_859 ?_
  refine s_iconst (nI 2) rfl 861 rfl d_Law_law_860 ?_
  refine s_iadd 862 rfl d_Law_law_861 ?_
  refine s_tald (i + 2) (nI_add _ _) (by omega) (by omega) 863 rfl d_Law_law_862 ?_
  refine s_aload_n rfl 864 rfl d_Law_law_863 ?_
  refine s_iload_n rfl 865 rfl d_Law_law_864 ?_
  refine s_iconst (nI 3) rfl 866 rfl d_Law_law_865 ?_
  refine s_iadd 867 rfl d_Law_law_866 ?_
  refine s_tald (i + 3) (nI_add _ _) (by omega) (by omega) 868 rfl d_Law_law_867 ?_
  refine law_pair (as := [.int (xs (i + 1)), .int (xs (i + 2)), .int (xs (i + 3))]) (pr_book X (xs (i + 1)) (xs (i + 2)) (xs (i + 3))) lk_HB_book lk_Mod_book ln_Law_100 ln_Law_103 rfl rfl rfl 868 871 887 890 rfl rfl d_Law_law_868 d_Law_law_887 d_Law_law_890 (by decide) rfl (fun r w hw => ?_) kk ν σ τ νm σm τm h
  refine s_aload_n rfl 872 rfl d_Law_law_871 ?_
  refine s_aload_n rfl 873 rfl d_Law_law_872 ?_
  refine s_iload_n rfl 874 rfl d_Law_law_873 ?_
  refine s_iconst (nI 1) rfl 875 rfl d_Law_law_874 ?_
  refine s_iadd 876 rfl d_Law_law_875 ?_
  refine s_tald (i + 1) (nI_add _ _) (by omega) (by omega) 877 rfl d_Law_law_876 ?_
  refine s_aload_n rfl 878 rfl d_Law_law_877 ?_
  refine s_iload_n rfl 879 rfl d_Law_law_878 ?_
  refine s_iconst (nI 2) rfl 880 rfl d_Law_law_879 ?_
  refine s_iadd 881 rfl d_Law_law_880 ?_
  refine s_tald (i + 2) (nI_add _ _) (by omega) (by omega) 882 rfl d_Law_law_881 ?_
  refine s_aload_n rfl 883 rfl d_Law_law_882 ?_
  refine s_iload_n rfl 884 rfl d_Law_law_883 ?_
  refine s_iconst (nI 3) rfl 885 rfl d_Law_law_884 ?_
  refine s_iadd 886 rfl d_Law_law_885 ?_
  refine s_tald (i + 3) (nI_add _ _) (by omega) (by omega) 887 rfl d_Law_law_886 ?_
  exact hw
theorem law_21 {X : Xn} {Q : Option Value → va_W → Prop} {sb L : Nat} {xs : Nat → Int32} {a b : Nat → Nat} {i : Nat} (hi : i + 6 ≤ L) (hL : L ≤ 3072) (kk : LK X Q sb L xs a b i 1302) : LK X Q sb L xs a b i 895 := by
  intro ν σ τ νm σm τm h
  show RunsS X sb L xs 62 M_Law_law 115 7510 Q 895 [some (.ref sb), some (.ref (a 0)), some (.ref (b 0)), some (.int (nI i))] [] 115 7510 (CW X a ν σ τ ++ MW X b νm σm τm)
  refine s_aload_n rfl 896 rfl d_Law_law_895 ?_
  refine law_pair (as := []) (pr_looked X) lk_HB_looked lk_Mod_looked ln_Law_104 ln_Law_107 rfl rfl rfl 896 899 900 903 rfl rfl d_Law_law_896 d_Law_law_900 d_Law_law_903 (by decide) rfl (fun r w hw => ?_) kk ν σ τ νm σm τm h
  refine s_aload_n rfl 900 rfl d_Law_law_899 ?_
  exact hw
theorem law_22 {X : Xn} {Q : Option Value → va_W → Prop} {sb L : Nat} {xs : Nat → Int32} {a b : Nat → Nat} {i : Nat} (hi : i + 6 ≤ L) (hL : L ≤ 3072) (kk : LK X Q sb L xs a b i 1302) : LK X Q sb L xs a b i 908 := by
  intro ν σ τ νm σm τm h
  show RunsS X sb L xs 62 M_Law_law 115 7510 Q 908 [some (.ref sb), some (.ref (a 0)), some (.ref (b 0)), some (.int (nI i))] [] 115 7510 (CW X a ν σ τ ++ MW X b νm σm τm)
  refine s_aload_n rfl 909 rfl d_Law_law_908 ?_
  refine s_aload_n rfl 910 rfl d_Law_law_909 ?_
  refine s_iload_n rfl 911 rfl d_Law_law_910 ?_
  refine s_iconst (nI 1) rfl 912 rfl d_Law_law_911 ?_
  refine s_iadd 913 rfl d_Law_law_912 ?_
  refine s_tald (i + 1) (nI_add _ _) (by omega) (by omega) 914 rfl d_Law_law_913 ?_
  refine s_aload_n rfl 915 rfl d_Law_law_914 ?_
  refine s_iload_n rfl 916 rfl d_Law_law_915 ?_
  refine s_iconst (nI 2) rfl 917 rfl d_Law_law_916 ?_
  refine s_iadd 918 rfl d_Law_law_917 ?_
  refine s_tald (i + 2) (nI_add _ _) (by omega) (by omega) 919 rfl d_Law_law_918 ?_
  refine law_pair (as := [.int (xs (i + 1)), .int (xs (i + 2))]) (pr_judge X (xs (i + 1)) (xs (i + 2))) lk_HB_judge lk_Mod_judge ln_Law_108 ln_Law_111 rfl rfl rfl 919 922 933 936 rfl rfl d_Law_law_919 d_Law_law_933 d_Law_law_936 (by decide) rfl (fun r w hw => ?_) kk ν σ τ νm σm τm h
  refine s_aload_n rfl 923 rfl d_Law_law_922 ?_
  refine s_aload_n rfl 924 rfl d_Law_law_923 ?_
  refine s_iload_n rfl 925 rfl d_Law_law_924 ?_
  refine s_iconst (nI 1) rfl 926 rfl d_Law_law_925 ?_
  refine s_iadd 927 rfl d_Law_law_926 ?_
  refine s_tald (i + 1) (nI_add _ _) (by omega) (by omega) 928 rfl d_Law_law_927 ?_
  refine s_aload_n rfl 929 rfl d_Law_law_928 ?_
  refine s_iload_n rfl 930 rfl d_Law_law_929 ?_
  refine s_iconst (nI 2) rfl 931 rfl d_Law_law_930 ?_
  refine s_iadd 932 rfl d_Law_law_931 ?_
  refine s_tald (i + 2) (nI_add _ _) (by omega) (by omega) 933 rfl d_Law_law_932 ?_
  exact hw
theorem law_23 {X : Xn} {Q : Option Value → va_W → Prop} {sb L : Nat} {xs : Nat → Int32} {a b : Nat → Nat} {i : Nat} (hi : i + 6 ≤ L) (hL : L ≤ 3072) (kk : LK X Q sb L xs a b i 1302) : LK X Q sb L xs a b i 941 := by
  intro ν σ τ νm σm τm h
  show RunsS X sb L xs 62 M_Law_law 115 7510 Q 941 [some (.ref sb), some (.ref (a 0)), some (.ref (b 0)), some (.int (nI i))] [] 115 7510 (CW X a ν σ τ ++ MW X b νm σm τm)
  refine s_aload_n rfl 942 rfl d_Law_law_941 ?_
  refine law_pair (as := []) (pr_image X) lk_HB_image lk_Mod_image ln_Law_112 ln_Law_115 rfl rfl rfl 942 945 946 949 rfl rfl d_Law_law_942 d_Law_law_946 d_Law_law_949 (by decide) rfl (fun r w hw => ?_) kk ν σ τ νm σm τm h
  refine s_aload_n rfl 946 rfl d_Law_law_945 ?_
  exact hw
theorem law_24 {X : Xn} {Q : Option Value → va_W → Prop} {sb L : Nat} {xs : Nat → Int32} {a b : Nat → Nat} {i : Nat} (hi : i + 6 ≤ L) (hL : L ≤ 3072) (kk : LK X Q sb L xs a b i 1302) : LK X Q sb L xs a b i 954 := by
  intro ν σ τ νm σm τm h
  show RunsS X sb L xs 62 M_Law_law 115 7510 Q 954 [some (.ref sb), some (.ref (a 0)), some (.ref (b 0)), some (.int (nI i))] [] 115 7510 (CW X a ν σ τ ++ MW X b νm σm τm)
  refine s_aload_n rfl 955 rfl d_Law_law_954 ?_
  refine law_pair (as := []) (pr_undo X) lk_HB_undo lk_Mod_undo ln_Law_116 ln_Law_119 rfl rfl rfl 955 958 959 962 rfl rfl d_Law_law_955 d_Law_law_959 d_Law_law_962 (by decide) rfl (fun r w hw => ?_) kk ν σ τ νm σm τm h
  refine s_aload_n rfl 959 rfl d_Law_law_958 ?_
  exact hw
theorem law_25 {X : Xn} {Q : Option Value → va_W → Prop} {sb L : Nat} {xs : Nat → Int32} {a b : Nat → Nat} {i : Nat} (hi : i + 6 ≤ L) (hL : L ≤ 3072) (kk : LK X Q sb L xs a b i 1302) : LK X Q sb L xs a b i 967 := by
  intro ν σ τ νm σm τm h
  show RunsS X sb L xs 62 M_Law_law 115 7510 Q 967 [some (.ref sb), some (.ref (a 0)), some (.ref (b 0)), some (.int (nI i))] [] 115 7510 (CW X a ν σ τ ++ MW X b νm σm τm)
  refine s_aload_n rfl 968 rfl d_Law_law_967 ?_
  refine s_aload_n rfl 969 rfl d_Law_law_968 ?_
  refine s_iload_n rfl 970 rfl d_Law_law_969 ?_
  refine s_iconst (nI 1) rfl 971 rfl d_Law_law_970 ?_
  refine s_iadd 972 rfl d_Law_law_971 ?_
  refine s_tald (i + 1) (nI_add _ _) (by omega) (by omega) 973 rfl d_Law_law_972 ?_
  refine s_aload_n rfl 974 rfl d_Law_law_973 ?_
  refine s_iload_n rfl 975 rfl d_Law_law_974 ?_
  refine s_iconst (nI 2) rfl 976 rfl d_Law_law_975 ?_
  refine s_iadd 977 rfl d_Law_law_976 ?_
  refine s_tald (i + 2) (nI_add _ _) (by omega) (by omega) 978 rfl d_Law_law_977 ?_
  refine s_aload_n rfl 979 rfl d_Law_law_978 ?_
  refine s_iload_n rfl 980 rfl d_Law_law_979 ?_
  refine s_iconst (nI 3) rfl 981 rfl d_Law_law_980 ?_
  refine s_iadd 982 rfl d_Law_law_981 ?_
  refine s_tald (i + 3) (nI_add _ _) (by omega) (by omega) 983 rfl d_Law_law_982 ?_
  refine law_pair (as := [.int (xs (i + 1)), .int (xs (i + 2)), .int (xs (i + 3))]) (pr_act X (xs (i + 1)) (xs (i + 2)) (xs (i + 3))) lk_HB_act lk_Mod_act ln_Law_120 ln_Law_123 rfl rfl rfl 983 986 1002 1005 rfl rfl d_Law_law_983 d_Law_law_1002 d_Law_law_1005 (by decide) rfl (fun r w hw => ?_) kk ν σ τ νm σm τm h
  refine s_aload_n rfl 987 rfl d_Law_law_986 ?_
  refine s_aload_n rfl 988 rfl d_Law_law_987 ?_
  refine s_iload_n rfl 989 rfl d_Law_law_988 ?_
  refine s_iconst (nI 1) rfl 990 rfl d_Law_law_989 ?_
  refine s_iadd 991 rfl d_Law_law_990 ?_
  refine s_tald (i + 1) (nI_add _ _) (by omega) (by omega) 992 rfl d_Law_law_991 ?_
  refine s_aload_n rfl 993 rfl d_Law_law_992 ?_
  refine s_iload_n rfl 994 rfl d_Law_law_993 ?_
  refine s_iconst (nI 2) rfl 995 rfl d_Law_law_994 ?_
  refine s_iadd 996 rfl d_Law_law_995 ?_
  refine s_tald (i + 2) (nI_add _ _) (by omega) (by omega) 997 rfl d_Law_law_996 ?_
  refine s_aload_n rfl 998 rfl d_Law_law_997 ?_
  refine s_iload_n rfl 999 rfl d_Law_law_998 ?_
  refine s_iconst (nI 3) rfl 1000 rfl d_Law_law_999 ?_
  refine s_iadd 1001 rfl d_Law_law_1000 ?_
  refine s_tald (i + 3) (nI_add _ _) (by omega) (by omega) 1002 rfl d_Law_law_1001 ?_
  exact hw
theorem law_26 {X : Xn} {Q : Option Value → va_W → Prop} {sb L : Nat} {xs : Nat → Int32} {a b : Nat → Nat} {i : Nat} (hi : i + 6 ≤ L) (hL : L ≤ 3072) (kk : LK X Q sb L xs a b i 1302) : LK X Q sb L xs a b i 1010 := by
  intro ν σ τ νm σm τm h
  show RunsS X sb L xs 62 M_Law_law 115 7510 Q 1010 [some (.ref sb), some (.ref (a 0)), some (.ref (b 0)), some (.int (nI i))] [] 115 7510 (CW X a ν σ τ ++ MW X b νm σm τm)
  refine s_aload_n rfl 1011 rfl d_Law_law_1010 ?_
  refine s_aload_n rfl 1012 rfl d_Law_law_1011 ?_
  refine s_iload_n rfl 1013 rfl d_Law_law_1012 ?_
  refine s_iconst (nI 1) rfl 1014 rfl d_Law_law_1013 ?_
  refine s_iadd 1015 rfl d_Law_law_1014 ?_
  refine s_tald (i + 1) (nI_add _ _) (by omega) (by omega) 1016 rfl d_Law_law_1015 ?_
  refine law_pair (as := [.int (xs (i + 1))]) (pr_trace X (xs (i + 1))) lk_HB_trace lk_Mod_trace ln_Law_124 ln_Law_127 rfl rfl rfl 1016 1019 1025 1028 rfl rfl d_Law_law_1016 d_Law_law_1025 d_Law_law_1028 (by decide) rfl (fun r w hw => ?_) kk ν σ τ νm σm τm h
  refine s_aload_n rfl 1020 rfl d_Law_law_1019 ?_
  refine s_aload_n rfl 1021 rfl d_Law_law_1020 ?_
  refine s_iload_n rfl 1022 rfl d_Law_law_1021 ?_
  refine s_iconst (nI 1) rfl 1023 rfl d_Law_law_1022 ?_
  refine s_iadd 1024 rfl d_Law_law_1023 ?_
  refine s_tald (i + 1) (nI_add _ _) (by omega) (by omega) 1025 rfl d_Law_law_1024 ?_
  exact hw
theorem law_27 {X : Xn} {Q : Option Value → va_W → Prop} {sb L : Nat} {xs : Nat → Int32} {a b : Nat → Nat} {i : Nat} (hi : i + 6 ≤ L) (hL : L ≤ 3072) (kk : LK X Q sb L xs a b i 1302) : LK X Q sb L xs a b i 1033 := by
  intro ν σ τ νm σm τm h
  show RunsS X sb L xs 62 M_Law_law 115 7510 Q 1033 [some (.ref sb), some (.ref (a 0)), some (.ref (b 0)), some (.int (nI i))] [] 115 7510 (CW X a ν σ τ ++ MW X b νm σm τm)
  refine s_aload_n rfl 1034 rfl d_Law_law_1033 ?_
  refine s_aload_n rfl 1035 rfl d_Law_law_1034 ?_
  refine s_iload_n rfl 1036 rfl d_Law_law_1035 ?_
  refine s_iconst (nI 1) rfl 1037 rfl d_Law_law_1036 ?_
  refine s_iadd 1038 rfl d_Law_law_1037 ?_
  refine s_tald (i + 1) (nI_add _ _) (by omega) (by omega) 1039 rfl d_Law_law_1038 ?_
  refine s_aload_n rfl 1040 rfl d_Law_law_1039 ?_
  refine s_iload_n rfl 1041 rfl d_Law_law_1040 ?_
  refine s_iconst (nI 2) rfl 1042 rfl d_Law_law_1041 ?_
  refine s_iadd 1043 rfl d_Law_law_1042 ?_
  refine s_tald (i + 2) (nI_add _ _) (by omega) (by omega) 1044 rfl d_Law_law_1043 ?_
  refine law_pair (as := [.int (xs (i + 1)), .int (xs (i + 2))]) (pr_taken X (xs (i + 1)) (xs (i + 2))) lk_HB_taken lk_Mod_taken ln_Law_128 ln_Law_131 rfl rfl rfl 1044 1047 1058 1061 rfl rfl d_Law_law_1044 d_Law_law_1058 d_Law_law_1061 (by decide) rfl (fun r w hw => ?_) kk ν σ τ νm σm τm h
  refine s_aload_n rfl 1048 rfl d_Law_law_1047 ?_
  refine s_aload_n rfl 1049 rfl d_Law_law_1048 ?_
  refine s_iload_n rfl 1050 rfl d_Law_law_1049 ?_
  refine s_iconst (nI 1) rfl 1051 rfl d_Law_law_1050 ?_
  refine s_iadd 1052 rfl d_Law_law_1051 ?_
  refine s_tald (i + 1) (nI_add _ _) (by omega) (by omega) 1053 rfl d_Law_law_1052 ?_
  refine s_aload_n rfl 1054 rfl d_Law_law_1053 ?_
  refine s_iload_n rfl 1055 rfl d_Law_law_1054 ?_
  refine s_iconst (nI 2) rfl 1056 rfl d_Law_law_1055 ?_
  refine s_iadd 1057 rfl d_Law_law_1056 ?_
  refine s_tald (i + 2) (nI_add _ _) (by omega) (by omega) 1058 rfl d_Law_law_1057 ?_
  exact hw
theorem law_28 {X : Xn} {Q : Option Value → va_W → Prop} {sb L : Nat} {xs : Nat → Int32} {a b : Nat → Nat} {i : Nat} (hi : i + 6 ≤ L) (hL : L ≤ 3072) (kk : LK X Q sb L xs a b i 1302) : LK X Q sb L xs a b i 1066 := by
  intro ν σ τ νm σm τm h
  show RunsS X sb L xs 62 M_Law_law 115 7510 Q 1066 [some (.ref sb), some (.ref (a 0)), some (.ref (b 0)), some (.int (nI i))] [] 115 7510 (CW X a ν σ τ ++ MW X b νm σm τm)
  refine s_aload_n rfl 1067 rfl d_Law_law_1066 ?_
  refine s_aload_n rfl 1068 rfl d_Law_law_1067 ?_
  refine s_iload_n rfl 1069 rfl d_Law_law_1068 ?_
  refine s_iconst (nI 1) rfl 1070 rfl d_Law_law_1069 ?_
  refine s_iadd 1071 rfl d_Law_law_1070 ?_
  refine s_tald (i + 1) (nI_add _ _) (by omega) (by omega) 1072 rfl d_Law_law_1071 ?_
  refine law_pair (as := [.int (xs (i + 1))]) (pr_count X (xs (i + 1))) lk_HB_count lk_Mod_count ln_Law_132 ln_Law_135 rfl rfl rfl 1072 1075 1081 1084 rfl rfl d_Law_law_1072 d_Law_law_1081 d_Law_law_1084 (by decide) rfl (fun r w hw => ?_) kk ν σ τ νm σm τm h
  refine s_aload_n rfl 1076 rfl d_Law_law_1075 ?_
  refine s_aload_n rfl 1077 rfl d_Law_law_1076 ?_
  refine s_iload_n rfl 1078 rfl d_Law_law_1077 ?_
  refine s_iconst (nI 1) rfl 1079 rfl d_Law_law_1078 ?_
  refine s_iadd 1080 rfl d_Law_law_1079 ?_
  refine s_tald (i + 1) (nI_add _ _) (by omega) (by omega) 1081 rfl d_Law_law_1080 ?_
  exact hw
theorem law_29 {X : Xn} {Q : Option Value → va_W → Prop} {sb L : Nat} {xs : Nat → Int32} {a b : Nat → Nat} {i : Nat} (hi : i + 6 ≤ L) (hL : L ≤ 3072) (kk : LK X Q sb L xs a b i 1302) : LK X Q sb L xs a b i 1089 := by
  intro ν σ τ νm σm τm h
  show RunsS X sb L xs 62 M_Law_law 115 7510 Q 1089 [some (.ref sb), some (.ref (a 0)), some (.ref (b 0)), some (.int (nI i))] [] 115 7510 (CW X a ν σ τ ++ MW X b νm σm τm)
  refine s_aload_n rfl 1090 rfl d_Law_law_1089 ?_
  refine s_aload_n rfl 1091 rfl d_Law_law_1090 ?_
  refine s_iload_n rfl 1092 rfl d_Law_law_1091 ?_
  refine s_iconst (nI 1) rfl 1093 rfl d_Law_law_1092 ?_
  refine s_iadd 1094 rfl d_Law_law_1093 ?_
  refine s_tald (i + 1) (nI_add _ _) (by omega) (by omega) 1095 rfl d_Law_law_1094 ?_
  refine s_aload_n rfl 1096 rfl d_Law_law_1095 ?_
  refine s_iload_n rfl 1097 rfl d_Law_law_1096 ?_
  refine s_iconst (nI 2) rfl 1098 rfl d_Law_law_1097 ?_
  refine s_iadd 1099 rfl d_Law_law_1098 ?_
  refine s_tald (i + 2) (nI_add _ _) (by omega) (by omega) 1100 rfl d_Law_law_1099 ?_
  refine s_aload_n rfl 1101 rfl d_Law_law_1100 ?_
  refine s_iload_n rfl 1102 rfl d_Law_law_1101 ?_
  refine s_iconst (nI 3) rfl 1103 rfl d_Law_law_1102 ?_
  refine s_iadd 1104 rfl d_Law_law_1103 ?_
  refine s_tald (i + 3) (nI_add _ _) (by omega) (by omega) 1105 rfl d_Law_law_1104 ?_
  refine law_pair (as := [.int (xs (i + 1)), .int (xs (i + 2)), .int (xs (i + 3))]) (pr_tape X (xs (i + 1)) (xs (i + 2)) (xs (i + 3))) lk_HB_tape lk_Mod_tape ln_Law_136 ln_Law_139 rfl rfl rfl 1105 1108 1124 1127 rfl rfl d_Law_law_1105 d_Law_law_1124 d_Law_law_1127 (by decide) rfl (fun r w hw => ?_) kk ν σ τ νm σm τm h
  refine s_aload_n rfl 1109 rfl d_Law_law_1108 ?_
  refine s_aload_n rfl 1110 rfl d_Law_law_1109 ?_
  refine s_iload_n rfl 1111 rfl d_Law_law_1110 ?_
  refine s_iconst (nI 1) rfl 1112 rfl d_Law_law_1111 ?_
  refine s_iadd 1113 rfl d_Law_law_1112 ?_
  refine s_tald (i + 1) (nI_add _ _) (by omega) (by omega) 1114 rfl d_Law_law_1113 ?_
  refine s_aload_n rfl 1115 rfl d_Law_law_1114 ?_
  refine s_iload_n rfl 1116 rfl d_Law_law_1115 ?_
  refine s_iconst (nI 2) rfl 1117 rfl d_Law_law_1116 ?_
  refine s_iadd 1118 rfl d_Law_law_1117 ?_
  refine s_tald (i + 2) (nI_add _ _) (by omega) (by omega) 1119 rfl d_Law_law_1118 ?_
  refine s_aload_n rfl 1120 rfl d_Law_law_1119 ?_
  refine s_iload_n rfl 1121 rfl d_Law_law_1120 ?_
  refine s_iconst (nI 3) rfl 1122 rfl d_Law_law_1121 ?_
  refine s_iadd 1123 rfl d_Law_law_1122 ?_
  refine s_tald (i + 3) (nI_add _ _) (by omega) (by omega) 1124 rfl d_Law_law_1123 ?_
  exact hw
theorem law_30 {X : Xn} {Q : Option Value → va_W → Prop} {sb L : Nat} {xs : Nat → Int32} {a b : Nat → Nat} {i : Nat} (hi : i + 6 ≤ L) (hL : L ≤ 3072) (kk : LK X Q sb L xs a b i 1302) : LK X Q sb L xs a b i 1132 := by
  intro ν σ τ νm σm τm h
  show RunsS X sb L xs 62 M_Law_law 115 7510 Q 1132 [some (.ref sb), some (.ref (a 0)), some (.ref (b 0)), some (.int (nI i))] [] 115 7510 (CW X a ν σ τ ++ MW X b νm σm τm)
  refine s_aload_n rfl 1133 rfl d_Law_law_1132 ?_
  refine s_aload_n rfl 1134 rfl d_Law_law_1133 ?_
  refine s_iload_n rfl 1135 rfl d_Law_law_1134 ?_
  refine s_iconst (nI 1) rfl 1136 rfl d_Law_law_1135 ?_
  refine s_iadd 1137 rfl d_Law_law_1136 ?_
  refine s_tald (i + 1) (nI_add _ _) (by omega) (by omega) 1138 rfl d_Law_law_1137 ?_
  refine s_aload_n rfl 1139 rfl d_Law_law_1138 ?_
  refine s_iload_n rfl 1140 rfl d_Law_law_1139 ?_
  refine s_iconst (nI 2) rfl 1141 rfl d_Law_law_1140 ?_
  refine s_iadd 1142 rfl d_Law_law_1141 ?_
  refine s_tald (i + 2) (nI_add _ _) (by omega) (by omega) 1143 rfl d_Law_law_1142 ?_
  refine s_aload_n rfl 1144 rfl d_Law_law_1143 ?_
  refine s_iload_n rfl 1145 rfl d_Law_law_1144 ?_
  refine s_iconst (nI 3) rfl 1146 rfl d_Law_law_1145 ?_
  refine s_iadd 1147 rfl d_Law_law_1146 ?_
  refine s_tald (i + 3) (nI_add _ _) (by omega) (by omega) 1148 rfl d_Law_law_1147 ?_
  refine s_i2l 1149 rfl d_Law_law_1148 ?_
  refine s_bipush 32 rfl 1151 rfl d_Law_law_1149 ?_
  refine s_lshl 1152 rfl d_Law_law_1151 ?_
  refine s_aload_n rfl 1153 rfl d_Law_law_1152 ?_
  refine s_iload_n rfl 1154 rfl d_Law_law_1153 ?_
  refine s_iconst (nI 4) rfl 1155 rfl d_Law_law_1154 ?_
  refine s_iadd 1156 rfl d_Law_law_1155 ?_
  refine s_tald (i + 4) (nI_add _ _) (by omega) (by omega) 1157 rfl d_Law_law_1156 ?_
  refine s_i2l 1158 rfl d_Law_law_1157 ?_
  refine s_ldc2 (v := 4294967295) (inTB 1378 (by decide +kernel) rfl) 1161 rfl d_Law_law_1158 ?_
  refine s_land 1162 rfl d_Law_law_1161 ?_
  refine s_lor 1163 rfl d_Law_law_1162 ?_
  refine law_pair (as := [.int (xs (i + 1)), .int (xs (i + 2)), .long (((xs (i + 3)).toInt64 <<< ((32 : Int32).toInt64 &&& 63)) ||| ((xs (i + 4)).toInt64 &&& 4294967295))]) (pr_item X (xs (i + 1)) (xs (i + 2)) (((xs (i + 3)).toInt64 <<< ((32 : Int32).toInt64 &&& 63)) ||| ((xs (i + 4)).toInt64 &&& 4294967295))) lk_HB_item lk_Mod_item ln_Law_142 ln_Law_146 rfl rfl rfl 1163 1166 1197 1200 rfl rfl d_Law_law_1163 d_Law_law_1197 d_Law_law_1200 (by decide) rfl (fun r w hw => ?_) kk ν σ τ νm σm τm h
  refine s_aload_n rfl 1167 rfl d_Law_law_1166 ?_
  refine s_aload_n rfl 1168 rfl d_Law_law_1167 ?_
  refine s_iload_n rfl 1169 rfl d_Law_law_1168 ?_
  refine s_iconst (nI 1) rfl 1170 rfl d_Law_law_1169 ?_
  refine s_iadd 1171 rfl d_Law_law_1170 ?_
  refine s_tald (i + 1) (nI_add _ _) (by omega) (by omega) 1172 rfl d_Law_law_1171 ?_
  refine s_aload_n rfl 1173 rfl d_Law_law_1172 ?_
  refine s_iload_n rfl 1174 rfl d_Law_law_1173 ?_
  refine s_iconst (nI 2) rfl 1175 rfl d_Law_law_1174 ?_
  refine s_iadd 1176 rfl d_Law_law_1175 ?_
  refine s_tald (i + 2) (nI_add _ _) (by omega) (by omega) 1177 rfl d_Law_law_1176 ?_
  refine s_aload_n rfl 1178 rfl d_Law_law_1177 ?_
  refine s_iload_n rfl 1179 rfl d_Law_law_1178 ?_
  refine s_iconst (nI 3) rfl 1180 rfl d_Law_law_1179 ?_
  refine s_iadd 1181 rfl d_Law_law_1180 ?_
  refine s_tald (i + 3) (nI_add _ _) (by omega) (by omega) 1182 rfl d_Law_law_1181 ?_
  refine s_i2l 1183 rfl d_Law_law_1182 ?_
  refine s_bipush 32 rfl 1185 rfl d_Law_law_1183 ?_
  refine s_lshl 1186 rfl d_Law_law_1185 ?_
  refine s_aload_n rfl 1187 rfl d_Law_law_1186 ?_
  refine s_iload_n rfl 1188 rfl d_Law_law_1187 ?_
  refine s_iconst (nI 4) rfl 1189 rfl d_Law_law_1188 ?_
  refine s_iadd 1190 rfl d_Law_law_1189 ?_
  refine s_tald (i + 4) (nI_add _ _) (by omega) (by omega) 1191 rfl d_Law_law_1190 ?_
  refine s_i2l 1192 rfl d_Law_law_1191 ?_
  refine s_ldc2 (v := 4294967295) (inTB 1378 (by decide +kernel) rfl) 1195 rfl d_Law_law_1192 ?_
  refine s_land 1196 rfl d_Law_law_1195 ?_
  refine s_lor 1197 rfl d_Law_law_1196 ?_
  exact hw
theorem law_31 {X : Xn} {Q : Option Value → va_W → Prop} {sb L : Nat} {xs : Nat → Int32} {a b : Nat → Nat} {i : Nat} (hi : i + 6 ≤ L) (hL : L ≤ 3072) (kk : LK X Q sb L xs a b i 1302) : LK X Q sb L xs a b i 1205 := by
  intro ν σ τ νm σm τm h
  show RunsS X sb L xs 62 M_Law_law 115 7510 Q 1205 [some (.ref sb), some (.ref (a 0)), some (.ref (b 0)), some (.int (nI i))] [] 115 7510 (CW X a ν σ τ ++ MW X b νm σm τm)
  refine s_aload_n rfl 1206 rfl d_Law_law_1205 ?_
  refine s_aload_n rfl 1207 rfl d_Law_law_1206 ?_
  refine s_iload_n rfl 1208 rfl d_Law_law_1207 ?_
  refine s_iconst (nI 1) rfl 1209 rfl d_Law_law_1208 ?_
  refine s_iadd 1210 rfl d_Law_law_1209 ?_
  refine s_tald (i + 1) (nI_add _ _) (by omega) (by omega) 1211 rfl d_Law_law_1210 ?_
  refine s_aload_n rfl 1212 rfl d_Law_law_1211 ?_
  refine s_iload_n rfl 1213 rfl d_Law_law_1212 ?_
  refine s_iconst (nI 2) rfl 1214 rfl d_Law_law_1213 ?_
  refine s_iadd 1215 rfl d_Law_law_1214 ?_
  refine s_tald (i + 2) (nI_add _ _) (by omega) (by omega) 1216 rfl d_Law_law_1215 ?_
  refine law_pairL (as := [.int (xs (i + 1)), .int (xs (i + 2))]) (pr_read X (xs (i + 1)) (xs (i + 2))) lk_HB_read lk_Mod_read ln_Law_147 ln_Law_151 rfl rfl rfl 1216 1219 1230 1233 rfl rfl d_Law_law_1216 d_Law_law_1230 d_Law_law_1233 d_Law_law_1234 (by decide) rfl (fun r w hw => ?_) kk ν σ τ νm σm τm h
  refine s_aload_n rfl 1220 rfl d_Law_law_1219 ?_
  refine s_aload_n rfl 1221 rfl d_Law_law_1220 ?_
  refine s_iload_n rfl 1222 rfl d_Law_law_1221 ?_
  refine s_iconst (nI 1) rfl 1223 rfl d_Law_law_1222 ?_
  refine s_iadd 1224 rfl d_Law_law_1223 ?_
  refine s_tald (i + 1) (nI_add _ _) (by omega) (by omega) 1225 rfl d_Law_law_1224 ?_
  refine s_aload_n rfl 1226 rfl d_Law_law_1225 ?_
  refine s_iload_n rfl 1227 rfl d_Law_law_1226 ?_
  refine s_iconst (nI 2) rfl 1228 rfl d_Law_law_1227 ?_
  refine s_iadd 1229 rfl d_Law_law_1228 ?_
  refine s_tald (i + 2) (nI_add _ _) (by omega) (by omega) 1230 rfl d_Law_law_1229 ?_
  exact hw
theorem law_32 {X : Xn} {Q : Option Value → va_W → Prop} {sb L : Nat} {xs : Nat → Int32} {a b : Nat → Nat} {i : Nat} (hi : i + 6 ≤ L) (hL : L ≤ 3072) (kk : LK X Q sb L xs a b i 1302) : LK X Q sb L xs a b i 1239 := by
  intro ν σ τ νm σm τm h
  show RunsS X sb L xs 62 M_Law_law 115 7510 Q 1239 [some (.ref sb), some (.ref (a 0)), some (.ref (b 0)), some (.int (nI i))] [] 115 7510 (CW X a ν σ τ ++ MW X b νm σm τm)
  refine s_aload_n rfl 1240 rfl d_Law_law_1239 ?_
  refine s_aload_n rfl 1241 rfl d_Law_law_1240 ?_
  refine s_iload_n rfl 1242 rfl d_Law_law_1241 ?_
  refine s_iconst (nI 1) rfl 1243 rfl d_Law_law_1242 ?_
  refine s_iadd 1244 rfl d_Law_law_1243 ?_
  refine s_tald (i + 1) (nI_add _ _) (by omega) (by omega) 1245 rfl d_Law_law_1244 ?_
  refine s_aload_n rfl 1246 rfl d_Law_law_1245 ?_
  refine s_iload_n rfl 1247 rfl d_Law_law_1246 ?_
  refine s_iconst (nI 2) rfl 1248 rfl d_Law_law_1247 ?_
  refine s_iadd 1249 rfl d_Law_law_1248 ?_
  refine s_tald (i + 2) (nI_add _ _) (by omega) (by omega) 1250 rfl d_Law_law_1249 ?_
  refine s_aload_n rfl 1251 rfl d_Law_law_1250 ?_
  refine s_iload_n rfl 1252 rfl d_Law_law_1251 ?_
  refine s_iconst (nI 3) rfl 1253 rfl d_Law_law_1252 ?_
  refine s_iadd 1254 rfl d_Law_law_1253 ?_
  refine s_tald (i + 3) (nI_add _ _) (by omega) (by omega) 1255 rfl d_Law_law_1254 ?_
  refine s_aload_n rfl 1256 rfl d_Law_law_1255 ?_
  refine s_iload_n rfl 1257 rfl d_Law_law_1256 ?_
  refine s_iconst (nI 4) rfl 1258 rfl d_Law_law_1257 ?_
  refine s_iadd 1259 rfl d_Law_law_1258 ?_
  refine s_tald (i + 4) (nI_add _ _) (by omega) (by omega) 1260 rfl d_Law_law_1259 ?_
  refine s_aload_n rfl 1261 rfl d_Law_law_1260 ?_
  refine s_iload_n rfl 1262 rfl d_Law_law_1261 ?_
  refine s_iconst (nI 5) rfl 1263 rfl d_Law_law_1262 ?_
  refine s_iadd 1264 rfl d_Law_law_1263 ?_
  refine s_tald (i + 5) (nI_add _ _) (by omega) (by omega) 1265 rfl d_Law_law_1264 ?_
  refine law_pair (as := [.int (xs (i + 1)), .int (xs (i + 2)), .int (xs (i + 3)), .int (xs (i + 4)), .int (xs (i + 5))]) (pr_shift X (xs (i + 1)) (xs (i + 2)) (xs (i + 3)) (xs (i + 4)) (xs (i + 5))) lk_HB_shift lk_Mod_shift ln_Law_152 ln_Law_155 rfl rfl rfl 1265 1268 1294 1297 rfl rfl d_Law_law_1265 d_Law_law_1294 d_Law_law_1297 (by decide) rfl (fun r w hw => ?_) kk ν σ τ νm σm τm h
  refine s_aload_n rfl 1269 rfl d_Law_law_1268 ?_
  refine s_aload_n rfl 1270 rfl d_Law_law_1269 ?_
  refine s_iload_n rfl 1271 rfl d_Law_law_1270 ?_
  refine s_iconst (nI 1) rfl 1272 rfl d_Law_law_1271 ?_
  refine s_iadd 1273 rfl d_Law_law_1272 ?_
  refine s_tald (i + 1) (nI_add _ _) (by omega) (by omega) 1274 rfl d_Law_law_1273 ?_
  refine s_aload_n rfl 1275 rfl d_Law_law_1274 ?_
  refine s_iload_n rfl 1276 rfl d_Law_law_1275 ?_
  refine s_iconst (nI 2) rfl 1277 rfl d_Law_law_1276 ?_
  refine s_iadd 1278 rfl d_Law_law_1277 ?_
  refine s_tald (i + 2) (nI_add _ _) (by omega) (by omega) 1279 rfl d_Law_law_1278 ?_
  refine s_aload_n rfl 1280 rfl d_Law_law_1279 ?_
  refine s_iload_n rfl 1281 rfl d_Law_law_1280 ?_
  refine s_iconst (nI 3) rfl 1282 rfl d_Law_law_1281 ?_
  refine s_iadd 1283 rfl d_Law_law_1282 ?_
  refine s_tald (i + 3) (nI_add _ _) (by omega) (by omega) 1284 rfl d_Law_law_1283 ?_
  refine s_aload_n rfl 1285 rfl d_Law_law_1284 ?_
  refine s_iload_n rfl 1286 rfl d_Law_law_1285 ?_
  refine s_iconst (nI 4) rfl 1287 rfl d_Law_law_1286 ?_
  refine s_iadd 1288 rfl d_Law_law_1287 ?_
  refine s_tald (i + 4) (nI_add _ _) (by omega) (by omega) 1289 rfl d_Law_law_1288 ?_
  refine s_aload_n rfl 1290 rfl d_Law_law_1289 ?_
  refine s_iload_n rfl 1291 rfl d_Law_law_1290 ?_
  refine s_iconst (nI 5) rfl 1292 rfl d_Law_law_1291 ?_
  refine s_iadd 1293 rfl d_Law_law_1292 ?_
  refine s_tald (i + 5) (nI_add _ _) (by omega) (by omega) 1294 rfl d_Law_law_1293 ?_
  exact hw
