/-! THE LAW: its bytes, read -/
def M_Law_law : XM := (⟨"HandshakeBindsLaw", "law", "([I)Z"⟩, code, 4, ret)
theorem d_Law_law_0 : decode M_Law_law.2.1 0 = .ok (.new 7, 3) := by decide +kernel
theorem d_Law_law_3 : decode M_Law_law.2.1 3 = .ok (.dup, 1) := by decide +kernel
theorem d_Law_law_4 : decode M_Law_law.2.1 4 = .ok (.invokespecial 9, 3) := by decide +kernel
theorem d_Law_law_7 : decode M_Law_law.2.1 7 = .ok (.astore_n 1, 1) := by decide +kernel
theorem d_Law_law_8 : decode M_Law_law.2.1 8 = .ok (.new 10, 3) := by decide +kernel
theorem d_Law_law_11 : decode M_Law_law.2.1 11 = .ok (.dup, 1) := by decide +kernel
theorem d_Law_law_12 : decode M_Law_law.2.1 12 = .ok (.invokespecial 12, 3) := by decide +kernel
theorem d_Law_law_15 : decode M_Law_law.2.1 15 = .ok (.astore_n 2, 1) := by decide +kernel
theorem d_Law_law_16 : decode M_Law_law.2.1 16 = .ok (.iconst 0, 1) := by decide +kernel
theorem d_Law_law_17 : decode M_Law_law.2.1 17 = .ok (.istore_n 3, 1) := by decide +kernel
theorem d_Law_law_18 : decode M_Law_law.2.1 18 = .ok (.iload_n 3, 1) := by decide +kernel
theorem d_Law_law_19 : decode M_Law_law.2.1 19 = .ok (.aload_n 0, 1) := by decide +kernel
theorem d_Law_law_20 : decode M_Law_law.2.1 20 = .ok (.arraylength, 1) := by decide +kernel
theorem d_Law_law_21 : decode M_Law_law.2.1 21 = .ok (.bipush 6, 2) := by decide +kernel
theorem d_Law_law_23 : decode M_Law_law.2.1 23 = .ok (.isub, 1) := by decide +kernel
theorem d_Law_law_24 : decode M_Law_law.2.1 24 = .ok (.if_icmp .gt 1284, 3) := by decide +kernel
theorem d_Law_law_27 : decode M_Law_law.2.1 27 = .ok (.aload_n 0, 1) := by decide +kernel
theorem d_Law_law_28 : decode M_Law_law.2.1 28 = .ok (.iload_n 3, 1) := by decide +kernel
theorem d_Law_law_29 : decode M_Law_law.2.1 29 = .ok (.iaload, 1) := by decide +kernel
theorem d_Law_law_30 : decode M_Law_law.2.1 30 = .ok (.bipush 63, 2) := by decide +kernel
theorem d_Law_law_32 : decode M_Law_law.2.1 32 = .ok (.iand, 1) := by decide +kernel
theorem d_Law_law_33 : decode M_Law_law.2.1 33 = .ok (.tableswitch 1269 0 32 #[147, 180, 213, 256, 289, 342, 385, 428, 481, 524, 547, 560, 583, 606, 669, 682, 715, 739, 763, 796, 819, 862, 875, 908, 921, 934, 977, 1000, 1033, 1056, 1099, 1172, 1206], 147) := by decide +kernel
theorem d_Law_law_180 : decode M_Law_law.2.1 180 = .ok (.aload_n 1, 1) := by decide +kernel
theorem d_Law_law_181 : decode M_Law_law.2.1 181 = .ok (.aload_n 0, 1) := by decide +kernel
theorem d_Law_law_182 : decode M_Law_law.2.1 182 = .ok (.iload_n 3, 1) := by decide +kernel
theorem d_Law_law_183 : decode M_Law_law.2.1 183 = .ok (.iconst 1, 1) := by decide +kernel
theorem d_Law_law_184 : decode M_Law_law.2.1 184 = .ok (.iadd, 1) := by decide +kernel
theorem d_Law_law_185 : decode M_Law_law.2.1 185 = .ok (.iaload, 1) := by decide +kernel
theorem d_Law_law_186 : decode M_Law_law.2.1 186 = .ok (.aload_n 0, 1) := by decide +kernel
theorem d_Law_law_187 : decode M_Law_law.2.1 187 = .ok (.iload_n 3, 1) := by decide +kernel
theorem d_Law_law_188 : decode M_Law_law.2.1 188 = .ok (.iconst 2, 1) := by decide +kernel
theorem d_Law_law_189 : decode M_Law_law.2.1 189 = .ok (.iadd, 1) := by decide +kernel
theorem d_Law_law_190 : decode M_Law_law.2.1 190 = .ok (.iaload, 1) := by decide +kernel
theorem d_Law_law_191 : decode M_Law_law.2.1 191 = .ok (.invokevirtual 13, 3) := by decide +kernel
theorem d_Law_law_194 : decode M_Law_law.2.1 194 = .ok (.aload_n 2, 1) := by decide +kernel
theorem d_Law_law_195 : decode M_Law_law.2.1 195 = .ok (.aload_n 0, 1) := by decide +kernel
theorem d_Law_law_196 : decode M_Law_law.2.1 196 = .ok (.iload_n 3, 1) := by decide +kernel
theorem d_Law_law_197 : decode M_Law_law.2.1 197 = .ok (.iconst 1, 1) := by decide +kernel
theorem d_Law_law_198 : decode M_Law_law.2.1 198 = .ok (.iadd, 1) := by decide +kernel
theorem d_Law_law_199 : decode M_Law_law.2.1 199 = .ok (.iaload, 1) := by decide +kernel
theorem d_Law_law_200 : decode M_Law_law.2.1 200 = .ok (.aload_n 0, 1) := by decide +kernel
theorem d_Law_law_201 : decode M_Law_law.2.1 201 = .ok (.iload_n 3, 1) := by decide +kernel
theorem d_Law_law_202 : decode M_Law_law.2.1 202 = .ok (.iconst 2, 1) := by decide +kernel
theorem d_Law_law_203 : decode M_Law_law.2.1 203 = .ok (.iadd, 1) := by decide +kernel
theorem d_Law_law_204 : decode M_Law_law.2.1 204 = .ok (.iaload, 1) := by decide +kernel
theorem d_Law_law_205 : decode M_Law_law.2.1 205 = .ok (.invokevirtual 17, 3) := by decide +kernel
theorem d_Law_law_208 : decode M_Law_law.2.1 208 = .ok (.if_icmp .eq 1094, 3) := by decide +kernel
theorem d_Law_law_211 : decode M_Law_law.2.1 211 = .ok (.iconst 0, 1) := by decide +kernel
theorem d_Law_law_212 : decode M_Law_law.2.1 212 = .ok (.ireturn, 1) := by decide +kernel
theorem d_Law_law_213 : decode M_Law_law.2.1 213 = .ok (.aload_n 1, 1) := by decide +kernel
theorem d_Law_law_214 : decode M_Law_law.2.1 214 = .ok (.aload_n 0, 1) := by decide +kernel
theorem d_Law_law_215 : decode M_Law_law.2.1 215 = .ok (.iload_n 3, 1) := by decide +kernel
theorem d_Law_law_216 : decode M_Law_law.2.1 216 = .ok (.iconst 1, 1) := by decide +kernel
theorem d_Law_law_217 : decode M_Law_law.2.1 217 = .ok (.iadd, 1) := by decide +kernel
theorem d_Law_law_218 : decode M_Law_law.2.1 218 = .ok (.iaload, 1) := by decide +kernel
theorem d_Law_law_219 : decode M_Law_law.2.1 219 = .ok (.aload_n 0, 1) := by decide +kernel
theorem d_Law_law_220 : decode M_Law_law.2.1 220 = .ok (.iload_n 3, 1) := by decide +kernel
theorem d_Law_law_221 : decode M_Law_law.2.1 221 = .ok (.iconst 2, 1) := by decide +kernel
theorem d_Law_law_222 : decode M_Law_law.2.1 222 = .ok (.iadd, 1) := by decide +kernel
theorem d_Law_law_223 : decode M_Law_law.2.1 223 = .ok (.iaload, 1) := by decide +kernel
theorem d_Law_law_224 : decode M_Law_law.2.1 224 = .ok (.invokevirtual 18, 3) := by decide +kernel
theorem d_Law_law_227 : decode M_Law_law.2.1 227 = .ok (.aload_n 2, 1) := by decide +kernel
theorem d_Law_law_228 : decode M_Law_law.2.1 228 = .ok (.aload_n 0, 1) := by decide +kernel
theorem d_Law_law_229 : decode M_Law_law.2.1 229 = .ok (.iload_n 3, 1) := by decide +kernel
theorem d_Law_law_230 : decode M_Law_law.2.1 230 = .ok (.iconst 1, 1) := by decide +kernel
theorem d_Law_law_231 : decode M_Law_law.2.1 231 = .ok (.iadd, 1) := by decide +kernel
theorem d_Law_law_232 : decode M_Law_law.2.1 232 = .ok (.iaload, 1) := by decide +kernel
theorem d_Law_law_233 : decode M_Law_law.2.1 233 = .ok (.aload_n 0, 1) := by decide +kernel
theorem d_Law_law_234 : decode M_Law_law.2.1 234 = .ok (.iload_n 3, 1) := by decide +kernel
theorem d_Law_law_235 : decode M_Law_law.2.1 235 = .ok (.iconst 2, 1) := by decide +kernel
theorem d_Law_law_236 : decode M_Law_law.2.1 236 = .ok (.iadd, 1) := by decide +kernel
theorem d_Law_law_237 : decode M_Law_law.2.1 237 = .ok (.iaload, 1) := by decide +kernel
theorem d_Law_law_238 : decode M_Law_law.2.1 238 = .ok (.invokevirtual 21, 3) := by decide +kernel
theorem d_Law_law_241 : decode M_Law_law.2.1 241 = .ok (.if_icmp .eq 1061, 3) := by decide +kernel
theorem d_Law_law_244 : decode M_Law_law.2.1 244 = .ok (.iconst 0, 1) := by decide +kernel
theorem d_Law_law_245 : decode M_Law_law.2.1 245 = .ok (.ireturn, 1) := by decide +kernel
theorem d_Law_law_246 : decode M_Law_law.2.1 246 = .ok (.aload_n 1, 1) := by decide +kernel
theorem d_Law_law_247 : decode M_Law_law.2.1 247 = .ok (.aload_n 0, 1) := by decide +kernel
theorem d_Law_law_248 : decode M_Law_law.2.1 248 = .ok (.iload_n 3, 1) := by decide +kernel
theorem d_Law_law_249 : decode M_Law_law.2.1 249 = .ok (.iconst 1, 1) := by decide +kernel
theorem d_Law_law_250 : decode M_Law_law.2.1 250 = .ok (.iadd, 1) := by decide +kernel
theorem d_Law_law_251 : decode M_Law_law.2.1 251 = .ok (.iaload, 1) := by decide +kernel
theorem d_Law_law_252 : decode M_Law_law.2.1 252 = .ok (.aload_n 0, 1) := by decide +kernel
theorem d_Law_law_253 : decode M_Law_law.2.1 253 = .ok (.iload_n 3, 1) := by decide +kernel
theorem d_Law_law_254 : decode M_Law_law.2.1 254 = .ok (.iconst 2, 1) := by decide +kernel
theorem d_Law_law_255 : decode M_Law_law.2.1 255 = .ok (.iadd, 1) := by decide +kernel
theorem d_Law_law_256 : decode M_Law_law.2.1 256 = .ok (.iaload, 1) := by decide +kernel
theorem d_Law_law_257 : decode M_Law_law.2.1 257 = .ok (.aload_n 0, 1) := by decide +kernel
theorem d_Law_law_258 : decode M_Law_law.2.1 258 = .ok (.iload_n 3, 1) := by decide +kernel
theorem d_Law_law_259 : decode M_Law_law.2.1 259 = .ok (.iconst 3, 1) := by decide +kernel
theorem d_Law_law_260 : decode M_Law_law.2.1 260 = .ok (.iadd, 1) := by decide +kernel
theorem d_Law_law_261 : decode M_Law_law.2.1 261 = .ok (.iaload, 1) := by decide +kernel
theorem d_Law_law_262 : decode M_Law_law.2.1 262 = .ok (.invokevirtual 22, 3) := by decide +kernel
theorem d_Law_law_265 : decode M_Law_law.2.1 265 = .ok (.aload_n 2, 1) := by decide +kernel
theorem d_Law_law_266 : decode M_Law_law.2.1 266 = .ok (.aload_n 0, 1) := by decide +kernel
theorem d_Law_law_267 : decode M_Law_law.2.1 267 = .ok (.iload_n 3, 1) := by decide +kernel
theorem d_Law_law_268 : decode M_Law_law.2.1 268 = .ok (.iconst 1, 1) := by decide +kernel
theorem d_Law_law_269 : decode M_Law_law.2.1 269 = .ok (.iadd, 1) := by decide +kernel
theorem d_Law_law_270 : decode M_Law_law.2.1 270 = .ok (.iaload, 1) := by decide +kernel
theorem d_Law_law_271 : decode M_Law_law.2.1 271 = .ok (.aload_n 0, 1) := by decide +kernel
theorem d_Law_law_272 : decode M_Law_law.2.1 272 = .ok (.iload_n 3, 1) := by decide +kernel
theorem d_Law_law_273 : decode M_Law_law.2.1 273 = .ok (.iconst 2, 1) := by decide +kernel
theorem d_Law_law_274 : decode M_Law_law.2.1 274 = .ok (.iadd, 1) := by decide +kernel
theorem d_Law_law_275 : decode M_Law_law.2.1 275 = .ok (.iaload, 1) := by decide +kernel
theorem d_Law_law_276 : decode M_Law_law.2.1 276 = .ok (.aload_n 0, 1) := by decide +kernel
theorem d_Law_law_277 : decode M_Law_law.2.1 277 = .ok (.iload_n 3, 1) := by decide +kernel
theorem d_Law_law_278 : decode M_Law_law.2.1 278 = .ok (.iconst 3, 1) := by decide +kernel
theorem d_Law_law_279 : decode M_Law_law.2.1 279 = .ok (.iadd, 1) := by decide +kernel
theorem d_Law_law_280 : decode M_Law_law.2.1 280 = .ok (.iaload, 1) := by decide +kernel
theorem d_Law_law_281 : decode M_Law_law.2.1 281 = .ok (.invokevirtual 26, 3) := by decide +kernel
theorem d_Law_law_284 : decode M_Law_law.2.1 284 = .ok (.if_icmp .eq 1018, 3) := by decide +kernel
theorem d_Law_law_287 : decode M_Law_law.2.1 287 = .ok (.iconst 0, 1) := by decide +kernel
theorem d_Law_law_288 : decode M_Law_law.2.1 288 = .ok (.ireturn, 1) := by decide +kernel
theorem d_Law_law_289 : decode M_Law_law.2.1 289 = .ok (.aload_n 1, 1) := by decide +kernel
theorem d_Law_law_290 : decode M_Law_law.2.1 290 = .ok (.aload_n 0, 1) := by decide +kernel
theorem d_Law_law_291 : decode M_Law_law.2.1 291 = .ok (.iload_n 3, 1) := by decide +kernel
theorem d_Law_law_292 : decode M_Law_law.2.1 292 = .ok (.iconst 1, 1) := by decide +kernel
theorem d_Law_law_293 : decode M_Law_law.2.1 293 = .ok (.iadd, 1) := by decide +kernel
theorem d_Law_law_294 : decode M_Law_law.2.1 294 = .ok (.iaload, 1) := by decide +kernel
theorem d_Law_law_295 : decode M_Law_law.2.1 295 = .ok (.aload_n 0, 1) := by decide +kernel
theorem d_Law_law_296 : decode M_Law_law.2.1 296 = .ok (.iload_n 3, 1) := by decide +kernel
theorem d_Law_law_297 : decode M_Law_law.2.1 297 = .ok (.iconst 2, 1) := by decide +kernel
theorem d_Law_law_298 : decode M_Law_law.2.1 298 = .ok (.iadd, 1) := by decide +kernel
theorem d_Law_law_299 : decode M_Law_law.2.1 299 = .ok (.iaload, 1) := by decide +kernel
theorem d_Law_law_300 : decode M_Law_law.2.1 300 = .ok (.invokevirtual 27, 3) := by decide +kernel
theorem d_Law_law_303 : decode M_Law_law.2.1 303 = .ok (.aload_n 2, 1) := by decide +kernel
theorem d_Law_law_304 : decode M_Law_law.2.1 304 = .ok (.aload_n 0, 1) := by decide +kernel
theorem d_Law_law_305 : decode M_Law_law.2.1 305 = .ok (.iload_n 3, 1) := by decide +kernel
theorem d_Law_law_306 : decode M_Law_law.2.1 306 = .ok (.iconst 1, 1) := by decide +kernel
theorem d_Law_law_307 : decode M_Law_law.2.1 307 = .ok (.iadd, 1) := by decide +kernel
theorem d_Law_law_308 : decode M_Law_law.2.1 308 = .ok (.iaload, 1) := by decide +kernel
theorem d_Law_law_309 : decode M_Law_law.2.1 309 = .ok (.aload_n 0, 1) := by decide +kernel
theorem d_Law_law_310 : decode M_Law_law.2.1 310 = .ok (.iload_n 3, 1) := by decide +kernel
theorem d_Law_law_311 : decode M_Law_law.2.1 311 = .ok (.iconst 2, 1) := by decide +kernel
theorem d_Law_law_312 : decode M_Law_law.2.1 312 = .ok (.iadd, 1) := by decide +kernel
theorem d_Law_law_313 : decode M_Law_law.2.1 313 = .ok (.iaload, 1) := by decide +kernel
theorem d_Law_law_314 : decode M_Law_law.2.1 314 = .ok (.invokevirtual 30, 3) := by decide +kernel
theorem d_Law_law_317 : decode M_Law_law.2.1 317 = .ok (.if_icmp .eq 985, 3) := by decide +kernel
theorem d_Law_law_320 : decode M_Law_law.2.1 320 = .ok (.iconst 0, 1) := by decide +kernel
theorem d_Law_law_321 : decode M_Law_law.2.1 321 = .ok (.ireturn, 1) := by decide +kernel
theorem d_Law_law_322 : decode M_Law_law.2.1 322 = .ok (.aload_n 1, 1) := by decide +kernel
theorem d_Law_law_323 : decode M_Law_law.2.1 323 = .ok (.aload_n 0, 1) := by decide +kernel
theorem d_Law_law_324 : decode M_Law_law.2.1 324 = .ok (.iload_n 3, 1) := by decide +kernel
theorem d_Law_law_325 : decode M_Law_law.2.1 325 = .ok (.iconst 1, 1) := by decide +kernel
theorem d_Law_law_326 : decode M_Law_law.2.1 326 = .ok (.iadd, 1) := by decide +kernel
theorem d_Law_law_327 : decode M_Law_law.2.1 327 = .ok (.iaload, 1) := by decide +kernel
theorem d_Law_law_328 : decode M_Law_law.2.1 328 = .ok (.aload_n 0, 1) := by decide +kernel
theorem d_Law_law_329 : decode M_Law_law.2.1 329 = .ok (.iload_n 3, 1) := by decide +kernel
theorem d_Law_law_330 : decode M_Law_law.2.1 330 = .ok (.iconst 2, 1) := by decide +kernel
theorem d_Law_law_331 : decode M_Law_law.2.1 331 = .ok (.iadd, 1) := by decide +kernel
theorem d_Law_law_332 : decode M_Law_law.2.1 332 = .ok (.iaload, 1) := by decide +kernel
theorem d_Law_law_333 : decode M_Law_law.2.1 333 = .ok (.aload_n 0, 1) := by decide +kernel
theorem d_Law_law_334 : decode M_Law_law.2.1 334 = .ok (.iload_n 3, 1) := by decide +kernel
theorem d_Law_law_335 : decode M_Law_law.2.1 335 = .ok (.iconst 3, 1) := by decide +kernel
theorem d_Law_law_336 : decode M_Law_law.2.1 336 = .ok (.iadd, 1) := by decide +kernel
theorem d_Law_law_337 : decode M_Law_law.2.1 337 = .ok (.iaload, 1) := by decide +kernel
theorem d_Law_law_338 : decode M_Law_law.2.1 338 = .ok (.aload_n 0, 1) := by decide +kernel
theorem d_Law_law_339 : decode M_Law_law.2.1 339 = .ok (.iload_n 3, 1) := by decide +kernel
theorem d_Law_law_340 : decode M_Law_law.2.1 340 = .ok (.iconst 4, 1) := by decide +kernel
theorem d_Law_law_341 : decode M_Law_law.2.1 341 = .ok (.iadd, 1) := by decide +kernel
theorem d_Law_law_342 : decode M_Law_law.2.1 342 = .ok (.iaload, 1) := by decide +kernel
theorem d_Law_law_343 : decode M_Law_law.2.1 343 = .ok (.invokevirtual 31, 3) := by decide +kernel
theorem d_Law_law_346 : decode M_Law_law.2.1 346 = .ok (.aload_n 2, 1) := by decide +kernel
theorem d_Law_law_347 : decode M_Law_law.2.1 347 = .ok (.aload_n 0, 1) := by decide +kernel
theorem d_Law_law_348 : decode M_Law_law.2.1 348 = .ok (.iload_n 3, 1) := by decide +kernel
theorem d_Law_law_349 : decode M_Law_law.2.1 349 = .ok (.iconst 1, 1) := by decide +kernel
theorem d_Law_law_350 : decode M_Law_law.2.1 350 = .ok (.iadd, 1) := by decide +kernel
theorem d_Law_law_351 : decode M_Law_law.2.1 351 = .ok (.iaload, 1) := by decide +kernel
theorem d_Law_law_352 : decode M_Law_law.2.1 352 = .ok (.aload_n 0, 1) := by decide +kernel
theorem d_Law_law_353 : decode M_Law_law.2.1 353 = .ok (.iload_n 3, 1) := by decide +kernel
theorem d_Law_law_354 : decode M_Law_law.2.1 354 = .ok (.iconst 2, 1) := by decide +kernel
theorem d_Law_law_355 : decode M_Law_law.2.1 355 = .ok (.iadd, 1) := by decide +kernel
theorem d_Law_law_356 : decode M_Law_law.2.1 356 = .ok (.iaload, 1) := by decide +kernel
theorem d_Law_law_357 : decode M_Law_law.2.1 357 = .ok (.aload_n 0, 1) := by decide +kernel
theorem d_Law_law_358 : decode M_Law_law.2.1 358 = .ok (.iload_n 3, 1) := by decide +kernel
theorem d_Law_law_359 : decode M_Law_law.2.1 359 = .ok (.iconst 3, 1) := by decide +kernel
theorem d_Law_law_360 : decode M_Law_law.2.1 360 = .ok (.iadd, 1) := by decide +kernel
theorem d_Law_law_361 : decode M_Law_law.2.1 361 = .ok (.iaload, 1) := by decide +kernel
theorem d_Law_law_362 : decode M_Law_law.2.1 362 = .ok (.aload_n 0, 1) := by decide +kernel
theorem d_Law_law_363 : decode M_Law_law.2.1 363 = .ok (.iload_n 3, 1) := by decide +kernel
theorem d_Law_law_364 : decode M_Law_law.2.1 364 = .ok (.iconst 4, 1) := by decide +kernel
theorem d_Law_law_365 : decode M_Law_law.2.1 365 = .ok (.iadd, 1) := by decide +kernel
theorem d_Law_law_366 : decode M_Law_law.2.1 366 = .ok (.iaload, 1) := by decide +kernel
theorem d_Law_law_367 : decode M_Law_law.2.1 367 = .ok (.invokevirtual 35, 3) := by decide +kernel
theorem d_Law_law_370 : decode M_Law_law.2.1 370 = .ok (.if_icmp .eq 932, 3) := by decide +kernel
theorem d_Law_law_373 : decode M_Law_law.2.1 373 = .ok (.iconst 0, 1) := by decide +kernel
theorem d_Law_law_374 : decode M_Law_law.2.1 374 = .ok (.ireturn, 1) := by decide +kernel
theorem d_Law_law_375 : decode M_Law_law.2.1 375 = .ok (.aload_n 1, 1) := by decide +kernel
theorem d_Law_law_376 : decode M_Law_law.2.1 376 = .ok (.aload_n 0, 1) := by decide +kernel
theorem d_Law_law_377 : decode M_Law_law.2.1 377 = .ok (.iload_n 3, 1) := by decide +kernel
theorem d_Law_law_378 : decode M_Law_law.2.1 378 = .ok (.iconst 1, 1) := by decide +kernel
theorem d_Law_law_379 : decode M_Law_law.2.1 379 = .ok (.iadd, 1) := by decide +kernel
theorem d_Law_law_380 : decode M_Law_law.2.1 380 = .ok (.iaload, 1) := by decide +kernel
theorem d_Law_law_381 : decode M_Law_law.2.1 381 = .ok (.aload_n 0, 1) := by decide +kernel
theorem d_Law_law_382 : decode M_Law_law.2.1 382 = .ok (.iload_n 3, 1) := by decide +kernel
theorem d_Law_law_383 : decode M_Law_law.2.1 383 = .ok (.iconst 2, 1) := by decide +kernel
theorem d_Law_law_384 : decode M_Law_law.2.1 384 = .ok (.iadd, 1) := by decide +kernel
theorem d_Law_law_385 : decode M_Law_law.2.1 385 = .ok (.iaload, 1) := by decide +kernel
theorem d_Law_law_386 : decode M_Law_law.2.1 386 = .ok (.aload_n 0, 1) := by decide +kernel
theorem d_Law_law_387 : decode M_Law_law.2.1 387 = .ok (.iload_n 3, 1) := by decide +kernel
