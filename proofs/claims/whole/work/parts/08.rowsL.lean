section
variable {S : zSg} {I : zI} {J : zJ} {Q : zQ} {st : List Value} {v0 v1 v2 v3 v4 v5 v6 v7 v8 v9 v10 v11 v12 v13 v14 v15 : Value} {a b c a0 a1 a2 a3 a4 a5 : Int32} {u w u0 u1 u2 : Int64} {q r q0 q1 q2 xl : Nat}
/-! L.law: 199 -/
theorem B199 : zB 199 = cL_law := rfl
theorem f199_0 : zft 199 0 = some (.new 7, 3) := fet B199 (by decide +kernel) (Or.inr rfl)
theorem f199_3 : zft 199 3 = some (.dup, 1) := fet B199 (by decide +kernel) (Or.inr rfl)
theorem f199_4 : zft 199 4 = some (.invokespecial 9, 3) := fet B199 (by decide +kernel) (Or.inr rfl)
theorem f199_7 : zft 199 7 = some (.astore_n 1, 1) := fet B199 (by decide +kernel) (Or.inr rfl)
theorem f199_8 : zft 199 8 = some (.new 10, 3) := fet B199 (by decide +kernel) (Or.inr rfl)
theorem f199_11 : zft 199 11 = some (.dup, 1) := fet B199 (by decide +kernel) (Or.inr rfl)
theorem f199_12 : zft 199 12 = some (.invokespecial 12, 3) := fet B199 (by decide +kernel) (Or.inr rfl)
theorem f199_15 : zft 199 15 = some (.astore_n 2, 1) := fet B199 (by decide +kernel) (Or.inr rfl)
theorem f199_16 : zft 199 16 = some (.iconst 0, 1) := fet B199 (by decide +kernel) (Or.inr rfl)
theorem f199_17 : zft 199 17 = some (.istore_n 3, 1) := fet B199 (by decide +kernel) (Or.inr rfl)
theorem f199_18 : zft 199 18 = some (.iload_n 3, 1) := fet B199 (by decide +kernel) (Or.inr rfl)
theorem f199_19 : zft 199 19 = some (.aload_n 0, 1) := fet B199 (by decide +kernel) (Or.inr rfl)
theorem f199_20 : zft 199 20 = some (.arraylength, 1) := fet B199 (by decide +kernel) (Or.inr rfl)
theorem f199_21 : zft 199 21 = some (.bipush 6, 2) := fet B199 (by decide +kernel) (Or.inr rfl)
theorem f199_23 : zft 199 23 = some (.isub, 1) := fet B199 (by decide +kernel) (Or.inr rfl)
theorem f199_24 : zft 199 24 = some (.if_icmp .gt 1248, 3) := fet B199 (by decide +kernel) (Or.inr rfl)
theorem f199_27 : zft 199 27 = some (.aload_n 0, 1) := fet B199 (by decide +kernel) (Or.inr rfl)
theorem f199_28 : zft 199 28 = some (.iload_n 3, 1) := fet B199 (by decide +kernel) (Or.inr rfl)
theorem f199_29 : zft 199 29 = some (.iaload, 1) := fet B199 (by decide +kernel) (Or.inr rfl)
theorem f199_30 : zft 199 30 = some (.bipush 63, 2) := fet B199 (by decide +kernel) (Or.inr rfl)
theorem f199_32 : zft 199 32 = some (.iand, 1) := fet B199 (by decide +kernel) (Or.inr rfl)
theorem f199_33 : zft 199 33 = some (.tableswitch 1233 0 37 #[167, 200, 223, 246, 269, 302, 335, 368, 391, 434, 447, 470, 503, 536, 569, 592, 605, 618, 641, 664, 677, 700, 723, 766, 779, 792, 815, 838, 861, 905, 948, 991, 1014, 1067, 1110, 1173, 1196, 1219], 167) := fet B199 (by decide +kernel) (Or.inl rfl)
theorem f199_200 : zft 199 200 = some (.aload_n 1, 1) := fet B199 (by decide +kernel) (Or.inr rfl)
theorem f199_201 : zft 199 201 = some (.aload_n 0, 1) := fet B199 (by decide +kernel) (Or.inr rfl)
theorem f199_202 : zft 199 202 = some (.iload_n 3, 1) := fet B199 (by decide +kernel) (Or.inr rfl)
theorem f199_203 : zft 199 203 = some (.iconst 1, 1) := fet B199 (by decide +kernel) (Or.inr rfl)
theorem f199_204 : zft 199 204 = some (.iadd, 1) := fet B199 (by decide +kernel) (Or.inr rfl)
theorem f199_205 : zft 199 205 = some (.iaload, 1) := fet B199 (by decide +kernel) (Or.inr rfl)
theorem f199_206 : zft 199 206 = some (.aload_n 0, 1) := fet B199 (by decide +kernel) (Or.inr rfl)
theorem f199_207 : zft 199 207 = some (.iload_n 3, 1) := fet B199 (by decide +kernel) (Or.inr rfl)
theorem f199_208 : zft 199 208 = some (.iconst 2, 1) := fet B199 (by decide +kernel) (Or.inr rfl)
theorem f199_209 : zft 199 209 = some (.iadd, 1) := fet B199 (by decide +kernel) (Or.inr rfl)
theorem f199_210 : zft 199 210 = some (.iaload, 1) := fet B199 (by decide +kernel) (Or.inr rfl)
theorem f199_211 : zft 199 211 = some (.invokevirtual 13, 3) := fet B199 (by decide +kernel) (Or.inr rfl)
theorem f199_214 : zft 199 214 = some (.aload_n 2, 1) := fet B199 (by decide +kernel) (Or.inr rfl)
theorem f199_215 : zft 199 215 = some (.aload_n 0, 1) := fet B199 (by decide +kernel) (Or.inr rfl)
theorem f199_216 : zft 199 216 = some (.iload_n 3, 1) := fet B199 (by decide +kernel) (Or.inr rfl)
theorem f199_217 : zft 199 217 = some (.iconst 1, 1) := fet B199 (by decide +kernel) (Or.inr rfl)
theorem f199_218 : zft 199 218 = some (.iadd, 1) := fet B199 (by decide +kernel) (Or.inr rfl)
theorem f199_219 : zft 199 219 = some (.iaload, 1) := fet B199 (by decide +kernel) (Or.inr rfl)
theorem f199_220 : zft 199 220 = some (.aload_n 0, 1) := fet B199 (by decide +kernel) (Or.inr rfl)
theorem f199_221 : zft 199 221 = some (.iload_n 3, 1) := fet B199 (by decide +kernel) (Or.inr rfl)
theorem f199_222 : zft 199 222 = some (.iconst 2, 1) := fet B199 (by decide +kernel) (Or.inr rfl)
theorem f199_223 : zft 199 223 = some (.iadd, 1) := fet B199 (by decide +kernel) (Or.inr rfl)
theorem f199_224 : zft 199 224 = some (.iaload, 1) := fet B199 (by decide +kernel) (Or.inr rfl)
theorem f199_225 : zft 199 225 = some (.invokevirtual 17, 3) := fet B199 (by decide +kernel) (Or.inr rfl)
theorem f199_228 : zft 199 228 = some (.if_icmp .eq 1038, 3) := fet B199 (by decide +kernel) (Or.inr rfl)
theorem f199_231 : zft 199 231 = some (.iconst 0, 1) := fet B199 (by decide +kernel) (Or.inr rfl)
theorem f199_232 : zft 199 232 = some (.ireturn, 1) := fet B199 (by decide +kernel) (Or.inr rfl)
theorem f199_233 : zft 199 233 = some (.aload_n 1, 1) := fet B199 (by decide +kernel) (Or.inr rfl)
theorem f199_234 : zft 199 234 = some (.aload_n 0, 1) := fet B199 (by decide +kernel) (Or.inr rfl)
theorem f199_235 : zft 199 235 = some (.iload_n 3, 1) := fet B199 (by decide +kernel) (Or.inr rfl)
theorem f199_236 : zft 199 236 = some (.iconst 1, 1) := fet B199 (by decide +kernel) (Or.inr rfl)
theorem f199_237 : zft 199 237 = some (.iadd, 1) := fet B199 (by decide +kernel) (Or.inr rfl)
theorem f199_238 : zft 199 238 = some (.iaload, 1) := fet B199 (by decide +kernel) (Or.inr rfl)
theorem f199_239 : zft 199 239 = some (.invokevirtual 18, 3) := fet B199 (by decide +kernel) (Or.inr rfl)
theorem f199_242 : zft 199 242 = some (.aload_n 2, 1) := fet B199 (by decide +kernel) (Or.inr rfl)
theorem f199_243 : zft 199 243 = some (.aload_n 0, 1) := fet B199 (by decide +kernel) (Or.inr rfl)
theorem f199_244 : zft 199 244 = some (.iload_n 3, 1) := fet B199 (by decide +kernel) (Or.inr rfl)
theorem f199_245 : zft 199 245 = some (.iconst 1, 1) := fet B199 (by decide +kernel) (Or.inr rfl)
theorem f199_246 : zft 199 246 = some (.iadd, 1) := fet B199 (by decide +kernel) (Or.inr rfl)
theorem f199_247 : zft 199 247 = some (.iaload, 1) := fet B199 (by decide +kernel) (Or.inr rfl)
theorem f199_248 : zft 199 248 = some (.invokevirtual 22, 3) := fet B199 (by decide +kernel) (Or.inr rfl)
theorem f199_251 : zft 199 251 = some (.if_icmp .eq 1015, 3) := fet B199 (by decide +kernel) (Or.inr rfl)
theorem f199_254 : zft 199 254 = some (.iconst 0, 1) := fet B199 (by decide +kernel) (Or.inr rfl)
theorem f199_255 : zft 199 255 = some (.ireturn, 1) := fet B199 (by decide +kernel) (Or.inr rfl)
theorem f199_256 : zft 199 256 = some (.aload_n 1, 1) := fet B199 (by decide +kernel) (Or.inr rfl)
theorem f199_257 : zft 199 257 = some (.aload_n 0, 1) := fet B199 (by decide +kernel) (Or.inr rfl)
theorem f199_258 : zft 199 258 = some (.iload_n 3, 1) := fet B199 (by decide +kernel) (Or.inr rfl)
theorem f199_259 : zft 199 259 = some (.iconst 1, 1) := fet B199 (by decide +kernel) (Or.inr rfl)
theorem f199_260 : zft 199 260 = some (.iadd, 1) := fet B199 (by decide +kernel) (Or.inr rfl)
theorem f199_261 : zft 199 261 = some (.iaload, 1) := fet B199 (by decide +kernel) (Or.inr rfl)
theorem f199_262 : zft 199 262 = some (.invokevirtual 23, 3) := fet B199 (by decide +kernel) (Or.inr rfl)
theorem f199_265 : zft 199 265 = some (.aload_n 2, 1) := fet B199 (by decide +kernel) (Or.inr rfl)
theorem f199_266 : zft 199 266 = some (.aload_n 0, 1) := fet B199 (by decide +kernel) (Or.inr rfl)
theorem f199_267 : zft 199 267 = some (.iload_n 3, 1) := fet B199 (by decide +kernel) (Or.inr rfl)
theorem f199_268 : zft 199 268 = some (.iconst 1, 1) := fet B199 (by decide +kernel) (Or.inr rfl)
theorem f199_269 : zft 199 269 = some (.iadd, 1) := fet B199 (by decide +kernel) (Or.inr rfl)
theorem f199_270 : zft 199 270 = some (.iaload, 1) := fet B199 (by decide +kernel) (Or.inr rfl)
theorem f199_271 : zft 199 271 = some (.invokevirtual 26, 3) := fet B199 (by decide +kernel) (Or.inr rfl)
theorem f199_274 : zft 199 274 = some (.if_icmp .eq 992, 3) := fet B199 (by decide +kernel) (Or.inr rfl)
theorem f199_277 : zft 199 277 = some (.iconst 0, 1) := fet B199 (by decide +kernel) (Or.inr rfl)
theorem f199_278 : zft 199 278 = some (.ireturn, 1) := fet B199 (by decide +kernel) (Or.inr rfl)
theorem f199_279 : zft 199 279 = some (.aload_n 1, 1) := fet B199 (by decide +kernel) (Or.inr rfl)
theorem f199_280 : zft 199 280 = some (.aload_n 0, 1) := fet B199 (by decide +kernel) (Or.inr rfl)
theorem f199_281 : zft 199 281 = some (.iload_n 3, 1) := fet B199 (by decide +kernel) (Or.inr rfl)
theorem f199_282 : zft 199 282 = some (.iconst 1, 1) := fet B199 (by decide +kernel) (Or.inr rfl)
theorem f199_283 : zft 199 283 = some (.iadd, 1) := fet B199 (by decide +kernel) (Or.inr rfl)
theorem f199_284 : zft 199 284 = some (.iaload, 1) := fet B199 (by decide +kernel) (Or.inr rfl)
theorem f199_285 : zft 199 285 = some (.invokevirtual 27, 3) := fet B199 (by decide +kernel) (Or.inr rfl)
theorem f199_288 : zft 199 288 = some (.aload_n 2, 1) := fet B199 (by decide +kernel) (Or.inr rfl)
theorem f199_289 : zft 199 289 = some (.aload_n 0, 1) := fet B199 (by decide +kernel) (Or.inr rfl)
theorem f199_290 : zft 199 290 = some (.iload_n 3, 1) := fet B199 (by decide +kernel) (Or.inr rfl)
theorem f199_291 : zft 199 291 = some (.iconst 1, 1) := fet B199 (by decide +kernel) (Or.inr rfl)
theorem f199_292 : zft 199 292 = some (.iadd, 1) := fet B199 (by decide +kernel) (Or.inr rfl)
theorem f199_293 : zft 199 293 = some (.iaload, 1) := fet B199 (by decide +kernel) (Or.inr rfl)
theorem f199_294 : zft 199 294 = some (.invokevirtual 30, 3) := fet B199 (by decide +kernel) (Or.inr rfl)
theorem f199_297 : zft 199 297 = some (.if_icmp .eq 969, 3) := fet B199 (by decide +kernel) (Or.inr rfl)
theorem f199_300 : zft 199 300 = some (.iconst 0, 1) := fet B199 (by decide +kernel) (Or.inr rfl)
theorem f199_301 : zft 199 301 = some (.ireturn, 1) := fet B199 (by decide +kernel) (Or.inr rfl)
theorem f199_302 : zft 199 302 = some (.aload_n 1, 1) := fet B199 (by decide +kernel) (Or.inr rfl)
theorem f199_303 : zft 199 303 = some (.aload_n 0, 1) := fet B199 (by decide +kernel) (Or.inr rfl)
theorem f199_304 : zft 199 304 = some (.iload_n 3, 1) := fet B199 (by decide +kernel) (Or.inr rfl)
theorem f199_305 : zft 199 305 = some (.iconst 1, 1) := fet B199 (by decide +kernel) (Or.inr rfl)
theorem f199_306 : zft 199 306 = some (.iadd, 1) := fet B199 (by decide +kernel) (Or.inr rfl)
theorem f199_307 : zft 199 307 = some (.iaload, 1) := fet B199 (by decide +kernel) (Or.inr rfl)
theorem f199_308 : zft 199 308 = some (.aload_n 0, 1) := fet B199 (by decide +kernel) (Or.inr rfl)
theorem f199_309 : zft 199 309 = some (.iload_n 3, 1) := fet B199 (by decide +kernel) (Or.inr rfl)
theorem f199_310 : zft 199 310 = some (.iconst 2, 1) := fet B199 (by decide +kernel) (Or.inr rfl)
theorem f199_311 : zft 199 311 = some (.iadd, 1) := fet B199 (by decide +kernel) (Or.inr rfl)
theorem f199_312 : zft 199 312 = some (.iaload, 1) := fet B199 (by decide +kernel) (Or.inr rfl)
theorem f199_313 : zft 199 313 = some (.invokevirtual 31, 3) := fet B199 (by decide +kernel) (Or.inr rfl)
theorem f199_316 : zft 199 316 = some (.aload_n 2, 1) := fet B199 (by decide +kernel) (Or.inr rfl)
theorem f199_317 : zft 199 317 = some (.aload_n 0, 1) := fet B199 (by decide +kernel) (Or.inr rfl)
theorem f199_318 : zft 199 318 = some (.iload_n 3, 1) := fet B199 (by decide +kernel) (Or.inr rfl)
theorem f199_319 : zft 199 319 = some (.iconst 1, 1) := fet B199 (by decide +kernel) (Or.inr rfl)
theorem f199_320 : zft 199 320 = some (.iadd, 1) := fet B199 (by decide +kernel) (Or.inr rfl)
theorem f199_321 : zft 199 321 = some (.iaload, 1) := fet B199 (by decide +kernel) (Or.inr rfl)
theorem f199_322 : zft 199 322 = some (.aload_n 0, 1) := fet B199 (by decide +kernel) (Or.inr rfl)
theorem f199_323 : zft 199 323 = some (.iload_n 3, 1) := fet B199 (by decide +kernel) (Or.inr rfl)
theorem f199_324 : zft 199 324 = some (.iconst 2, 1) := fet B199 (by decide +kernel) (Or.inr rfl)
theorem f199_325 : zft 199 325 = some (.iadd, 1) := fet B199 (by decide +kernel) (Or.inr rfl)
theorem f199_326 : zft 199 326 = some (.iaload, 1) := fet B199 (by decide +kernel) (Or.inr rfl)
theorem f199_327 : zft 199 327 = some (.invokevirtual 34, 3) := fet B199 (by decide +kernel) (Or.inr rfl)
theorem f199_330 : zft 199 330 = some (.if_icmp .eq 936, 3) := fet B199 (by decide +kernel) (Or.inr rfl)
theorem f199_333 : zft 199 333 = some (.iconst 0, 1) := fet B199 (by decide +kernel) (Or.inr rfl)
theorem f199_334 : zft 199 334 = some (.ireturn, 1) := fet B199 (by decide +kernel) (Or.inr rfl)
theorem f199_335 : zft 199 335 = some (.aload_n 1, 1) := fet B199 (by decide +kernel) (Or.inr rfl)
theorem f199_336 : zft 199 336 = some (.aload_n 0, 1) := fet B199 (by decide +kernel) (Or.inr rfl)
theorem f199_337 : zft 199 337 = some (.iload_n 3, 1) := fet B199 (by decide +kernel) (Or.inr rfl)
theorem f199_338 : zft 199 338 = some (.iconst 1, 1) := fet B199 (by decide +kernel) (Or.inr rfl)
theorem f199_339 : zft 199 339 = some (.iadd, 1) := fet B199 (by decide +kernel) (Or.inr rfl)
theorem f199_340 : zft 199 340 = some (.iaload, 1) := fet B199 (by decide +kernel) (Or.inr rfl)
theorem f199_341 : zft 199 341 = some (.aload_n 0, 1) := fet B199 (by decide +kernel) (Or.inr rfl)
theorem f199_342 : zft 199 342 = some (.iload_n 3, 1) := fet B199 (by decide +kernel) (Or.inr rfl)
theorem f199_343 : zft 199 343 = some (.iconst 2, 1) := fet B199 (by decide +kernel) (Or.inr rfl)
theorem f199_344 : zft 199 344 = some (.iadd, 1) := fet B199 (by decide +kernel) (Or.inr rfl)
theorem f199_345 : zft 199 345 = some (.iaload, 1) := fet B199 (by decide +kernel) (Or.inr rfl)
theorem f199_346 : zft 199 346 = some (.invokevirtual 35, 3) := fet B199 (by decide +kernel) (Or.inr rfl)
theorem f199_349 : zft 199 349 = some (.aload_n 2, 1) := fet B199 (by decide +kernel) (Or.inr rfl)
theorem f199_350 : zft 199 350 = some (.aload_n 0, 1) := fet B199 (by decide +kernel) (Or.inr rfl)
theorem f199_351 : zft 199 351 = some (.iload_n 3, 1) := fet B199 (by decide +kernel) (Or.inr rfl)
theorem f199_352 : zft 199 352 = some (.iconst 1, 1) := fet B199 (by decide +kernel) (Or.inr rfl)
theorem f199_353 : zft 199 353 = some (.iadd, 1) := fet B199 (by decide +kernel) (Or.inr rfl)
theorem f199_354 : zft 199 354 = some (.iaload, 1) := fet B199 (by decide +kernel) (Or.inr rfl)
theorem f199_355 : zft 199 355 = some (.aload_n 0, 1) := fet B199 (by decide +kernel) (Or.inr rfl)
theorem f199_356 : zft 199 356 = some (.iload_n 3, 1) := fet B199 (by decide +kernel) (Or.inr rfl)
theorem f199_357 : zft 199 357 = some (.iconst 2, 1) := fet B199 (by decide +kernel) (Or.inr rfl)
theorem f199_358 : zft 199 358 = some (.iadd, 1) := fet B199 (by decide +kernel) (Or.inr rfl)
theorem f199_359 : zft 199 359 = some (.iaload, 1) := fet B199 (by decide +kernel) (Or.inr rfl)
theorem f199_360 : zft 199 360 = some (.invokevirtual 38, 3) := fet B199 (by decide +kernel) (Or.inr rfl)
theorem f199_363 : zft 199 363 = some (.if_icmp .eq 903, 3) := fet B199 (by decide +kernel) (Or.inr rfl)
theorem f199_366 : zft 199 366 = some (.iconst 0, 1) := fet B199 (by decide +kernel) (Or.inr rfl)
theorem f199_367 : zft 199 367 = some (.ireturn, 1) := fet B199 (by decide +kernel) (Or.inr rfl)
theorem f199_368 : zft 199 368 = some (.aload_n 1, 1) := fet B199 (by decide +kernel) (Or.inr rfl)
theorem f199_369 : zft 199 369 = some (.aload_n 0, 1) := fet B199 (by decide +kernel) (Or.inr rfl)
theorem f199_370 : zft 199 370 = some (.iload_n 3, 1) := fet B199 (by decide +kernel) (Or.inr rfl)
theorem f199_371 : zft 199 371 = some (.iconst 1, 1) := fet B199 (by decide +kernel) (Or.inr rfl)
theorem f199_372 : zft 199 372 = some (.iadd, 1) := fet B199 (by decide +kernel) (Or.inr rfl)
theorem f199_373 : zft 199 373 = some (.iaload, 1) := fet B199 (by decide +kernel) (Or.inr rfl)
theorem f199_374 : zft 199 374 = some (.aload_n 0, 1) := fet B199 (by decide +kernel) (Or.inr rfl)
theorem f199_375 : zft 199 375 = some (.iload_n 3, 1) := fet B199 (by decide +kernel) (Or.inr rfl)
theorem f199_376 : zft 199 376 = some (.iconst 2, 1) := fet B199 (by decide +kernel) (Or.inr rfl)
theorem f199_377 : zft 199 377 = some (.iadd, 1) := fet B199 (by decide +kernel) (Or.inr rfl)
theorem f199_378 : zft 199 378 = some (.iaload, 1) := fet B199 (by decide +kernel) (Or.inr rfl)
theorem f199_379 : zft 199 379 = some (.invokevirtual 39, 3) := fet B199 (by decide +kernel) (Or.inr rfl)
theorem f199_382 : zft 199 382 = some (.aload_n 2, 1) := fet B199 (by decide +kernel) (Or.inr rfl)
theorem f199_383 : zft 199 383 = some (.aload_n 0, 1) := fet B199 (by decide +kernel) (Or.inr rfl)
theorem f199_384 : zft 199 384 = some (.iload_n 3, 1) := fet B199 (by decide +kernel) (Or.inr rfl)
theorem f199_385 : zft 199 385 = some (.iconst 1, 1) := fet B199 (by decide +kernel) (Or.inr rfl)
theorem f199_386 : zft 199 386 = some (.iadd, 1) := fet B199 (by decide +kernel) (Or.inr rfl)
theorem f199_387 : zft 199 387 = some (.iaload, 1) := fet B199 (by decide +kernel) (Or.inr rfl)
theorem f199_388 : zft 199 388 = some (.aload_n 0, 1) := fet B199 (by decide +kernel) (Or.inr rfl)
theorem f199_389 : zft 199 389 = some (.iload_n 3, 1) := fet B199 (by decide +kernel) (Or.inr rfl)
theorem f199_390 : zft 199 390 = some (.iconst 2, 1) := fet B199 (by decide +kernel) (Or.inr rfl)
theorem f199_391 : zft 199 391 = some (.iadd, 1) := fet B199 (by decide +kernel) (Or.inr rfl)
theorem f199_392 : zft 199 392 = some (.iaload, 1) := fet B199 (by decide +kernel) (Or.inr rfl)
theorem f199_393 : zft 199 393 = some (.invokevirtual 42, 3) := fet B199 (by decide +kernel) (Or.inr rfl)
theorem f199_396 : zft 199 396 = some (.if_icmp .eq 870, 3) := fet B199 (by decide +kernel) (Or.inr rfl)
theorem f199_399 : zft 199 399 = some (.iconst 0, 1) := fet B199 (by decide +kernel) (Or.inr rfl)
theorem f199_400 : zft 199 400 = some (.ireturn, 1) := fet B199 (by decide +kernel) (Or.inr rfl)
theorem f199_401 : zft 199 401 = some (.aload_n 1, 1) := fet B199 (by decide +kernel) (Or.inr rfl)
theorem f199_402 : zft 199 402 = some (.aload_n 0, 1) := fet B199 (by decide +kernel) (Or.inr rfl)
theorem f199_403 : zft 199 403 = some (.iload_n 3, 1) := fet B199 (by decide +kernel) (Or.inr rfl)
theorem f199_404 : zft 199 404 = some (.iconst 1, 1) := fet B199 (by decide +kernel) (Or.inr rfl)
theorem f199_405 : zft 199 405 = some (.iadd, 1) := fet B199 (by decide +kernel) (Or.inr rfl)
theorem f199_406 : zft 199 406 = some (.iaload, 1) := fet B199 (by decide +kernel) (Or.inr rfl)
theorem f199_407 : zft 199 407 = some (.invokevirtual 43, 3) := fet B199 (by decide +kernel) (Or.inr rfl)
theorem f199_410 : zft 199 410 = some (.aload_n 2, 1) := fet B199 (by decide +kernel) (Or.inr rfl)
theorem f199_411 : zft 199 411 = some (.aload_n 0, 1) := fet B199 (by decide +kernel) (Or.inr rfl)
theorem f199_412 : zft 199 412 = some (.iload_n 3, 1) := fet B199 (by decide +kernel) (Or.inr rfl)
theorem f199_413 : zft 199 413 = some (.iconst 1, 1) := fet B199 (by decide +kernel) (Or.inr rfl)
theorem f199_414 : zft 199 414 = some (.iadd, 1) := fet B199 (by decide +kernel) (Or.inr rfl)
theorem f199_415 : zft 199 415 = some (.iaload, 1) := fet B199 (by decide +kernel) (Or.inr rfl)
theorem f199_416 : zft 199 416 = some (.invokevirtual 46, 3) := fet B199 (by decide +kernel) (Or.inr rfl)
theorem f199_419 : zft 199 419 = some (.if_icmp .eq 847, 3) := fet B199 (by decide +kernel) (Or.inr rfl)
theorem f199_422 : zft 199 422 = some (.iconst 0, 1) := fet B199 (by decide +kernel) (Or.inr rfl)
theorem f199_423 : zft 199 423 = some (.ireturn, 1) := fet B199 (by decide +kernel) (Or.inr rfl)
theorem f199_424 : zft 199 424 = some (.aload_n 1, 1) := fet B199 (by decide +kernel) (Or.inr rfl)
theorem f199_425 : zft 199 425 = some (.aload_n 0, 1) := fet B199 (by decide +kernel) (Or.inr rfl)
theorem f199_426 : zft 199 426 = some (.iload_n 3, 1) := fet B199 (by decide +kernel) (Or.inr rfl)
theorem f199_427 : zft 199 427 = some (.iconst 1, 1) := fet B199 (by decide +kernel) (Or.inr rfl)
theorem f199_428 : zft 199 428 = some (.iadd, 1) := fet B199 (by decide +kernel) (Or.inr rfl)
theorem f199_429 : zft 199 429 = some (.iaload, 1) := fet B199 (by decide +kernel) (Or.inr rfl)
theorem f199_430 : zft 199 430 = some (.aload_n 0, 1) := fet B199 (by decide +kernel) (Or.inr rfl)
theorem f199_431 : zft 199 431 = some (.iload_n 3, 1) := fet B199 (by decide +kernel) (Or.inr rfl)
theorem f199_432 : zft 199 432 = some (.iconst 2, 1) := fet B199 (by decide +kernel) (Or.inr rfl)
theorem f199_433 : zft 199 433 = some (.iadd, 1) := fet B199 (by decide +kernel) (Or.inr rfl)
theorem f199_434 : zft 199 434 = some (.iaload, 1) := fet B199 (by decide +kernel) (Or.inr rfl)
theorem f199_435 : zft 199 435 = some (.aload_n 0, 1) := fet B199 (by decide +kernel) (Or.inr rfl)
theorem f199_436 : zft 199 436 = some (.iload_n 3, 1) := fet B199 (by decide +kernel) (Or.inr rfl)
theorem f199_437 : zft 199 437 = some (.iconst 3, 1) := fet B199 (by decide +kernel) (Or.inr rfl)
theorem f199_438 : zft 199 438 = some (.iadd, 1) := fet B199 (by decide +kernel) (Or.inr rfl)
theorem f199_439 : zft 199 439 = some (.iaload, 1) := fet B199 (by decide +kernel) (Or.inr rfl)
theorem f199_440 : zft 199 440 = some (.invokevirtual 47, 3) := fet B199 (by decide +kernel) (Or.inr rfl)
theorem f199_443 : zft 199 443 = some (.aload_n 2, 1) := fet B199 (by decide +kernel) (Or.inr rfl)
theorem f199_444 : zft 199 444 = some (.aload_n 0, 1) := fet B199 (by decide +kernel) (Or.inr rfl)
theorem f199_445 : zft 199 445 = some (.iload_n 3, 1) := fet B199 (by decide +kernel) (Or.inr rfl)
theorem f199_446 : zft 199 446 = some (.iconst 1, 1) := fet B199 (by decide +kernel) (Or.inr rfl)
theorem f199_447 : zft 199 447 = some (.iadd, 1) := fet B199 (by decide +kernel) (Or.inr rfl)
theorem f199_448 : zft 199 448 = some (.iaload, 1) := fet B199 (by decide +kernel) (Or.inr rfl)
theorem f199_449 : zft 199 449 = some (.aload_n 0, 1) := fet B199 (by decide +kernel) (Or.inr rfl)
theorem f199_450 : zft 199 450 = some (.iload_n 3, 1) := fet B199 (by decide +kernel) (Or.inr rfl)
theorem f199_451 : zft 199 451 = some (.iconst 2, 1) := fet B199 (by decide +kernel) (Or.inr rfl)
theorem f199_452 : zft 199 452 = some (.iadd, 1) := fet B199 (by decide +kernel) (Or.inr rfl)
theorem f199_453 : zft 199 453 = some (.iaload, 1) := fet B199 (by decide +kernel) (Or.inr rfl)
theorem f199_454 : zft 199 454 = some (.aload_n 0, 1) := fet B199 (by decide +kernel) (Or.inr rfl)
theorem f199_455 : zft 199 455 = some (.iload_n 3, 1) := fet B199 (by decide +kernel) (Or.inr rfl)
theorem f199_456 : zft 199 456 = some (.iconst 3, 1) := fet B199 (by decide +kernel) (Or.inr rfl)
theorem f199_457 : zft 199 457 = some (.iadd, 1) := fet B199 (by decide +kernel) (Or.inr rfl)
theorem f199_458 : zft 199 458 = some (.iaload, 1) := fet B199 (by decide +kernel) (Or.inr rfl)
theorem f199_459 : zft 199 459 = some (.invokevirtual 51, 3) := fet B199 (by decide +kernel) (Or.inr rfl)
theorem f199_462 : zft 199 462 = some (.if_icmp .eq 804, 3) := fet B199 (by decide +kernel) (Or.inr rfl)
theorem f199_465 : zft 199 465 = some (.iconst 0, 1) := fet B199 (by decide +kernel) (Or.inr rfl)
theorem f199_466 : zft 199 466 = some (.ireturn, 1) := fet B199 (by decide +kernel) (Or.inr rfl)
theorem f199_467 : zft 199 467 = some (.aload_n 1, 1) := fet B199 (by decide +kernel) (Or.inr rfl)
theorem f199_468 : zft 199 468 = some (.invokevirtual 52, 3) := fet B199 (by decide +kernel) (Or.inr rfl)
theorem f199_471 : zft 199 471 = some (.aload_n 2, 1) := fet B199 (by decide +kernel) (Or.inr rfl)
theorem f199_472 : zft 199 472 = some (.invokevirtual 56, 3) := fet B199 (by decide +kernel) (Or.inr rfl)
theorem f199_475 : zft 199 475 = some (.if_icmp .eq 791, 3) := fet B199 (by decide +kernel) (Or.inr rfl)
theorem f199_478 : zft 199 478 = some (.iconst 0, 1) := fet B199 (by decide +kernel) (Or.inr rfl)
theorem f199_479 : zft 199 479 = some (.ireturn, 1) := fet B199 (by decide +kernel) (Or.inr rfl)
theorem f199_480 : zft 199 480 = some (.aload_n 1, 1) := fet B199 (by decide +kernel) (Or.inr rfl)
theorem f199_481 : zft 199 481 = some (.aload_n 0, 1) := fet B199 (by decide +kernel) (Or.inr rfl)
theorem f199_482 : zft 199 482 = some (.iload_n 3, 1) := fet B199 (by decide +kernel) (Or.inr rfl)
theorem f199_483 : zft 199 483 = some (.iconst 1, 1) := fet B199 (by decide +kernel) (Or.inr rfl)
theorem f199_484 : zft 199 484 = some (.iadd, 1) := fet B199 (by decide +kernel) (Or.inr rfl)
theorem f199_485 : zft 199 485 = some (.iaload, 1) := fet B199 (by decide +kernel) (Or.inr rfl)
theorem f199_486 : zft 199 486 = some (.invokevirtual 57, 3) := fet B199 (by decide +kernel) (Or.inr rfl)
theorem f199_489 : zft 199 489 = some (.aload_n 2, 1) := fet B199 (by decide +kernel) (Or.inr rfl)
theorem f199_490 : zft 199 490 = some (.aload_n 0, 1) := fet B199 (by decide +kernel) (Or.inr rfl)
theorem f199_491 : zft 199 491 = some (.iload_n 3, 1) := fet B199 (by decide +kernel) (Or.inr rfl)
theorem f199_492 : zft 199 492 = some (.iconst 1, 1) := fet B199 (by decide +kernel) (Or.inr rfl)
theorem f199_493 : zft 199 493 = some (.iadd, 1) := fet B199 (by decide +kernel) (Or.inr rfl)
theorem f199_494 : zft 199 494 = some (.iaload, 1) := fet B199 (by decide +kernel) (Or.inr rfl)
theorem f199_495 : zft 199 495 = some (.invokevirtual 60, 3) := fet B199 (by decide +kernel) (Or.inr rfl)
theorem f199_498 : zft 199 498 = some (.if_icmp .eq 768, 3) := fet B199 (by decide +kernel) (Or.inr rfl)
theorem f199_501 : zft 199 501 = some (.iconst 0, 1) := fet B199 (by decide +kernel) (Or.inr rfl)
theorem f199_502 : zft 199 502 = some (.ireturn, 1) := fet B199 (by decide +kernel) (Or.inr rfl)
theorem f199_503 : zft 199 503 = some (.aload_n 1, 1) := fet B199 (by decide +kernel) (Or.inr rfl)
theorem f199_504 : zft 199 504 = some (.aload_n 0, 1) := fet B199 (by decide +kernel) (Or.inr rfl)
theorem f199_505 : zft 199 505 = some (.iload_n 3, 1) := fet B199 (by decide +kernel) (Or.inr rfl)
theorem f199_506 : zft 199 506 = some (.iconst 1, 1) := fet B199 (by decide +kernel) (Or.inr rfl)
theorem f199_507 : zft 199 507 = some (.iadd, 1) := fet B199 (by decide +kernel) (Or.inr rfl)
theorem f199_508 : zft 199 508 = some (.iaload, 1) := fet B199 (by decide +kernel) (Or.inr rfl)
theorem f199_509 : zft 199 509 = some (.aload_n 0, 1) := fet B199 (by decide +kernel) (Or.inr rfl)
theorem f199_510 : zft 199 510 = some (.iload_n 3, 1) := fet B199 (by decide +kernel) (Or.inr rfl)
theorem f199_511 : zft 199 511 = some (.iconst 2, 1) := fet B199 (by decide +kernel) (Or.inr rfl)
theorem f199_512 : zft 199 512 = some (.iadd, 1) := fet B199 (by decide +kernel) (Or.inr rfl)
theorem f199_513 : zft 199 513 = some (.iaload, 1) := fet B199 (by decide +kernel) (Or.inr rfl)
theorem f199_514 : zft 199 514 = some (.invokevirtual 61, 3) := fet B199 (by decide +kernel) (Or.inr rfl)
theorem f199_517 : zft 199 517 = some (.aload_n 2, 1) := fet B199 (by decide +kernel) (Or.inr rfl)
theorem f199_518 : zft 199 518 = some (.aload_n 0, 1) := fet B199 (by decide +kernel) (Or.inr rfl)
theorem f199_519 : zft 199 519 = some (.iload_n 3, 1) := fet B199 (by decide +kernel) (Or.inr rfl)
theorem f199_520 : zft 199 520 = some (.iconst 1, 1) := fet B199 (by decide +kernel) (Or.inr rfl)
theorem f199_521 : zft 199 521 = some (.iadd, 1) := fet B199 (by decide +kernel) (Or.inr rfl)
theorem f199_522 : zft 199 522 = some (.iaload, 1) := fet B199 (by decide +kernel) (Or.inr rfl)
theorem f199_523 : zft 199 523 = some (.aload_n 0, 1) := fet B199 (by decide +kernel) (Or.inr rfl)
theorem f199_524 : zft 199 524 = some (.iload_n 3, 1) := fet B199 (by decide +kernel) (Or.inr rfl)
theorem f199_525 : zft 199 525 = some (.iconst 2, 1) := fet B199 (by decide +kernel) (Or.inr rfl)
theorem f199_526 : zft 199 526 = some (.iadd, 1) := fet B199 (by decide +kernel) (Or.inr rfl)
theorem f199_527 : zft 199 527 = some (.iaload, 1) := fet B199 (by decide +kernel) (Or.inr rfl)
theorem f199_528 : zft 199 528 = some (.invokevirtual 64, 3) := fet B199 (by decide +kernel) (Or.inr rfl)
theorem f199_531 : zft 199 531 = some (.if_icmp .eq 735, 3) := fet B199 (by decide +kernel) (Or.inr rfl)
theorem f199_534 : zft 199 534 = some (.iconst 0, 1) := fet B199 (by decide +kernel) (Or.inr rfl)
theorem f199_535 : zft 199 535 = some (.ireturn, 1) := fet B199 (by decide +kernel) (Or.inr rfl)
theorem f199_536 : zft 199 536 = some (.aload_n 1, 1) := fet B199 (by decide +kernel) (Or.inr rfl)
theorem f199_537 : zft 199 537 = some (.aload_n 0, 1) := fet B199 (by decide +kernel) (Or.inr rfl)
theorem f199_538 : zft 199 538 = some (.iload_n 3, 1) := fet B199 (by decide +kernel) (Or.inr rfl)
theorem f199_539 : zft 199 539 = some (.iconst 1, 1) := fet B199 (by decide +kernel) (Or.inr rfl)
theorem f199_540 : zft 199 540 = some (.iadd, 1) := fet B199 (by decide +kernel) (Or.inr rfl)
theorem f199_541 : zft 199 541 = some (.iaload, 1) := fet B199 (by decide +kernel) (Or.inr rfl)
theorem f199_542 : zft 199 542 = some (.aload_n 0, 1) := fet B199 (by decide +kernel) (Or.inr rfl)
theorem f199_543 : zft 199 543 = some (.iload_n 3, 1) := fet B199 (by decide +kernel) (Or.inr rfl)
theorem f199_544 : zft 199 544 = some (.iconst 2, 1) := fet B199 (by decide +kernel) (Or.inr rfl)
theorem f199_545 : zft 199 545 = some (.iadd, 1) := fet B199 (by decide +kernel) (Or.inr rfl)
theorem f199_546 : zft 199 546 = some (.iaload, 1) := fet B199 (by decide +kernel) (Or.inr rfl)
theorem f199_547 : zft 199 547 = some (.invokevirtual 65, 3) := fet B199 (by decide +kernel) (Or.inr rfl)
theorem f199_550 : zft 199 550 = some (.aload_n 2, 1) := fet B199 (by decide +kernel) (Or.inr rfl)
theorem f199_551 : zft 199 551 = some (.aload_n 0, 1) := fet B199 (by decide +kernel) (Or.inr rfl)
theorem f199_552 : zft 199 552 = some (.iload_n 3, 1) := fet B199 (by decide +kernel) (Or.inr rfl)
theorem f199_553 : zft 199 553 = some (.iconst 1, 1) := fet B199 (by decide +kernel) (Or.inr rfl)
theorem f199_554 : zft 199 554 = some (.iadd, 1) := fet B199 (by decide +kernel) (Or.inr rfl)
theorem f199_555 : zft 199 555 = some (.iaload, 1) := fet B199 (by decide +kernel) (Or.inr rfl)
theorem f199_556 : zft 199 556 = some (.aload_n 0, 1) := fet B199 (by decide +kernel) (Or.inr rfl)
theorem f199_557 : zft 199 557 = some (.iload_n 3, 1) := fet B199 (by decide +kernel) (Or.inr rfl)
theorem f199_558 : zft 199 558 = some (.iconst 2, 1) := fet B199 (by decide +kernel) (Or.inr rfl)
theorem f199_559 : zft 199 559 = some (.iadd, 1) := fet B199 (by decide +kernel) (Or.inr rfl)
theorem f199_560 : zft 199 560 = some (.iaload, 1) := fet B199 (by decide +kernel) (Or.inr rfl)
theorem f199_561 : zft 199 561 = some (.invokevirtual 68, 3) := fet B199 (by decide +kernel) (Or.inr rfl)
theorem f199_564 : zft 199 564 = some (.if_icmp .eq 702, 3) := fet B199 (by decide +kernel) (Or.inr rfl)
theorem f199_567 : zft 199 567 = some (.iconst 0, 1) := fet B199 (by decide +kernel) (Or.inr rfl)
theorem f199_568 : zft 199 568 = some (.ireturn, 1) := fet B199 (by decide +kernel) (Or.inr rfl)
theorem f199_569 : zft 199 569 = some (.aload_n 1, 1) := fet B199 (by decide +kernel) (Or.inr rfl)
theorem f199_570 : zft 199 570 = some (.aload_n 0, 1) := fet B199 (by decide +kernel) (Or.inr rfl)
theorem f199_571 : zft 199 571 = some (.iload_n 3, 1) := fet B199 (by decide +kernel) (Or.inr rfl)
theorem f199_572 : zft 199 572 = some (.iconst 1, 1) := fet B199 (by decide +kernel) (Or.inr rfl)
theorem f199_573 : zft 199 573 = some (.iadd, 1) := fet B199 (by decide +kernel) (Or.inr rfl)
theorem f199_574 : zft 199 574 = some (.iaload, 1) := fet B199 (by decide +kernel) (Or.inr rfl)
theorem f199_575 : zft 199 575 = some (.aload_n 0, 1) := fet B199 (by decide +kernel) (Or.inr rfl)
theorem f199_576 : zft 199 576 = some (.iload_n 3, 1) := fet B199 (by decide +kernel) (Or.inr rfl)
theorem f199_577 : zft 199 577 = some (.iconst 2, 1) := fet B199 (by decide +kernel) (Or.inr rfl)
theorem f199_578 : zft 199 578 = some (.iadd, 1) := fet B199 (by decide +kernel) (Or.inr rfl)
theorem f199_579 : zft 199 579 = some (.iaload, 1) := fet B199 (by decide +kernel) (Or.inr rfl)
theorem f199_580 : zft 199 580 = some (.invokevirtual 69, 3) := fet B199 (by decide +kernel) (Or.inr rfl)
theorem f199_583 : zft 199 583 = some (.aload_n 2, 1) := fet B199 (by decide +kernel) (Or.inr rfl)
theorem f199_584 : zft 199 584 = some (.aload_n 0, 1) := fet B199 (by decide +kernel) (Or.inr rfl)
theorem f199_585 : zft 199 585 = some (.iload_n 3, 1) := fet B199 (by decide +kernel) (Or.inr rfl)
theorem f199_586 : zft 199 586 = some (.iconst 1, 1) := fet B199 (by decide +kernel) (Or.inr rfl)
theorem f199_587 : zft 199 587 = some (.iadd, 1) := fet B199 (by decide +kernel) (Or.inr rfl)
theorem f199_588 : zft 199 588 = some (.iaload, 1) := fet B199 (by decide +kernel) (Or.inr rfl)
theorem f199_589 : zft 199 589 = some (.aload_n 0, 1) := fet B199 (by decide +kernel) (Or.inr rfl)
theorem f199_590 : zft 199 590 = some (.iload_n 3, 1) := fet B199 (by decide +kernel) (Or.inr rfl)
theorem f199_591 : zft 199 591 = some (.iconst 2, 1) := fet B199 (by decide +kernel) (Or.inr rfl)
theorem f199_592 : zft 199 592 = some (.iadd, 1) := fet B199 (by decide +kernel) (Or.inr rfl)
theorem f199_593 : zft 199 593 = some (.iaload, 1) := fet B199 (by decide +kernel) (Or.inr rfl)
theorem f199_594 : zft 199 594 = some (.invokevirtual 72, 3) := fet B199 (by decide +kernel) (Or.inr rfl)
theorem f199_597 : zft 199 597 = some (.if_icmp .eq 669, 3) := fet B199 (by decide +kernel) (Or.inr rfl)
theorem f199_600 : zft 199 600 = some (.iconst 0, 1) := fet B199 (by decide +kernel) (Or.inr rfl)
theorem f199_601 : zft 199 601 = some (.ireturn, 1) := fet B199 (by decide +kernel) (Or.inr rfl)
theorem f199_602 : zft 199 602 = some (.aload_n 1, 1) := fet B199 (by decide +kernel) (Or.inr rfl)
theorem f199_603 : zft 199 603 = some (.aload_n 0, 1) := fet B199 (by decide +kernel) (Or.inr rfl)
theorem f199_604 : zft 199 604 = some (.iload_n 3, 1) := fet B199 (by decide +kernel) (Or.inr rfl)
theorem f199_605 : zft 199 605 = some (.iconst 1, 1) := fet B199 (by decide +kernel) (Or.inr rfl)
theorem f199_606 : zft 199 606 = some (.iadd, 1) := fet B199 (by decide +kernel) (Or.inr rfl)
theorem f199_607 : zft 199 607 = some (.iaload, 1) := fet B199 (by decide +kernel) (Or.inr rfl)
theorem f199_608 : zft 199 608 = some (.invokevirtual 73, 3) := fet B199 (by decide +kernel) (Or.inr rfl)
theorem f199_611 : zft 199 611 = some (.aload_n 2, 1) := fet B199 (by decide +kernel) (Or.inr rfl)
theorem f199_612 : zft 199 612 = some (.aload_n 0, 1) := fet B199 (by decide +kernel) (Or.inr rfl)
theorem f199_613 : zft 199 613 = some (.iload_n 3, 1) := fet B199 (by decide +kernel) (Or.inr rfl)
theorem f199_614 : zft 199 614 = some (.iconst 1, 1) := fet B199 (by decide +kernel) (Or.inr rfl)
theorem f199_615 : zft 199 615 = some (.iadd, 1) := fet B199 (by decide +kernel) (Or.inr rfl)
theorem f199_616 : zft 199 616 = some (.iaload, 1) := fet B199 (by decide +kernel) (Or.inr rfl)
theorem f199_617 : zft 199 617 = some (.invokevirtual 76, 3) := fet B199 (by decide +kernel) (Or.inr rfl)
theorem f199_620 : zft 199 620 = some (.if_icmp .eq 646, 3) := fet B199 (by decide +kernel) (Or.inr rfl)
theorem f199_623 : zft 199 623 = some (.iconst 0, 1) := fet B199 (by decide +kernel) (Or.inr rfl)
theorem f199_624 : zft 199 624 = some (.ireturn, 1) := fet B199 (by decide +kernel) (Or.inr rfl)
theorem f199_625 : zft 199 625 = some (.aload_n 1, 1) := fet B199 (by decide +kernel) (Or.inr rfl)
theorem f199_626 : zft 199 626 = some (.invokevirtual 77, 3) := fet B199 (by decide +kernel) (Or.inr rfl)
theorem f199_629 : zft 199 629 = some (.aload_n 2, 1) := fet B199 (by decide +kernel) (Or.inr rfl)
theorem f199_630 : zft 199 630 = some (.invokevirtual 80, 3) := fet B199 (by decide +kernel) (Or.inr rfl)
theorem f199_633 : zft 199 633 = some (.if_icmp .eq 633, 3) := fet B199 (by decide +kernel) (Or.inr rfl)
theorem f199_636 : zft 199 636 = some (.iconst 0, 1) := fet B199 (by decide +kernel) (Or.inr rfl)
theorem f199_637 : zft 199 637 = some (.ireturn, 1) := fet B199 (by decide +kernel) (Or.inr rfl)
theorem f199_638 : zft 199 638 = some (.aload_n 1, 1) := fet B199 (by decide +kernel) (Or.inr rfl)
theorem f199_639 : zft 199 639 = some (.invokevirtual 81, 3) := fet B199 (by decide +kernel) (Or.inr rfl)
theorem f199_642 : zft 199 642 = some (.aload_n 2, 1) := fet B199 (by decide +kernel) (Or.inr rfl)
theorem f199_643 : zft 199 643 = some (.invokevirtual 84, 3) := fet B199 (by decide +kernel) (Or.inr rfl)
theorem f199_646 : zft 199 646 = some (.if_icmp .eq 620, 3) := fet B199 (by decide +kernel) (Or.inr rfl)
theorem f199_649 : zft 199 649 = some (.iconst 0, 1) := fet B199 (by decide +kernel) (Or.inr rfl)
theorem f199_650 : zft 199 650 = some (.ireturn, 1) := fet B199 (by decide +kernel) (Or.inr rfl)
theorem f199_651 : zft 199 651 = some (.aload_n 1, 1) := fet B199 (by decide +kernel) (Or.inr rfl)
theorem f199_652 : zft 199 652 = some (.aload_n 0, 1) := fet B199 (by decide +kernel) (Or.inr rfl)
theorem f199_653 : zft 199 653 = some (.iload_n 3, 1) := fet B199 (by decide +kernel) (Or.inr rfl)
theorem f199_654 : zft 199 654 = some (.iconst 1, 1) := fet B199 (by decide +kernel) (Or.inr rfl)
theorem f199_655 : zft 199 655 = some (.iadd, 1) := fet B199 (by decide +kernel) (Or.inr rfl)
theorem f199_656 : zft 199 656 = some (.iaload, 1) := fet B199 (by decide +kernel) (Or.inr rfl)
theorem f199_657 : zft 199 657 = some (.invokevirtual 85, 3) := fet B199 (by decide +kernel) (Or.inr rfl)
theorem f199_660 : zft 199 660 = some (.aload_n 2, 1) := fet B199 (by decide +kernel) (Or.inr rfl)
theorem f199_661 : zft 199 661 = some (.aload_n 0, 1) := fet B199 (by decide +kernel) (Or.inr rfl)
theorem f199_662 : zft 199 662 = some (.iload_n 3, 1) := fet B199 (by decide +kernel) (Or.inr rfl)
theorem f199_663 : zft 199 663 = some (.iconst 1, 1) := fet B199 (by decide +kernel) (Or.inr rfl)
theorem f199_664 : zft 199 664 = some (.iadd, 1) := fet B199 (by decide +kernel) (Or.inr rfl)
theorem f199_665 : zft 199 665 = some (.iaload, 1) := fet B199 (by decide +kernel) (Or.inr rfl)
theorem f199_666 : zft 199 666 = some (.invokevirtual 88, 3) := fet B199 (by decide +kernel) (Or.inr rfl)
theorem f199_669 : zft 199 669 = some (.if_icmp .eq 597, 3) := fet B199 (by decide +kernel) (Or.inr rfl)
theorem f199_672 : zft 199 672 = some (.iconst 0, 1) := fet B199 (by decide +kernel) (Or.inr rfl)
theorem f199_673 : zft 199 673 = some (.ireturn, 1) := fet B199 (by decide +kernel) (Or.inr rfl)
theorem f199_674 : zft 199 674 = some (.aload_n 1, 1) := fet B199 (by decide +kernel) (Or.inr rfl)
theorem f199_675 : zft 199 675 = some (.aload_n 0, 1) := fet B199 (by decide +kernel) (Or.inr rfl)
theorem f199_676 : zft 199 676 = some (.iload_n 3, 1) := fet B199 (by decide +kernel) (Or.inr rfl)
theorem f199_677 : zft 199 677 = some (.iconst 1, 1) := fet B199 (by decide +kernel) (Or.inr rfl)
theorem f199_678 : zft 199 678 = some (.iadd, 1) := fet B199 (by decide +kernel) (Or.inr rfl)
theorem f199_679 : zft 199 679 = some (.iaload, 1) := fet B199 (by decide +kernel) (Or.inr rfl)
theorem f199_680 : zft 199 680 = some (.invokevirtual 89, 3) := fet B199 (by decide +kernel) (Or.inr rfl)
theorem f199_683 : zft 199 683 = some (.aload_n 2, 1) := fet B199 (by decide +kernel) (Or.inr rfl)
theorem f199_684 : zft 199 684 = some (.aload_n 0, 1) := fet B199 (by decide +kernel) (Or.inr rfl)
theorem f199_685 : zft 199 685 = some (.iload_n 3, 1) := fet B199 (by decide +kernel) (Or.inr rfl)
theorem f199_686 : zft 199 686 = some (.iconst 1, 1) := fet B199 (by decide +kernel) (Or.inr rfl)
theorem f199_687 : zft 199 687 = some (.iadd, 1) := fet B199 (by decide +kernel) (Or.inr rfl)
theorem f199_688 : zft 199 688 = some (.iaload, 1) := fet B199 (by decide +kernel) (Or.inr rfl)
theorem f199_689 : zft 199 689 = some (.invokevirtual 92, 3) := fet B199 (by decide +kernel) (Or.inr rfl)
theorem f199_692 : zft 199 692 = some (.if_icmp .eq 574, 3) := fet B199 (by decide +kernel) (Or.inr rfl)
theorem f199_695 : zft 199 695 = some (.iconst 0, 1) := fet B199 (by decide +kernel) (Or.inr rfl)
theorem f199_696 : zft 199 696 = some (.ireturn, 1) := fet B199 (by decide +kernel) (Or.inr rfl)
theorem f199_697 : zft 199 697 = some (.aload_n 1, 1) := fet B199 (by decide +kernel) (Or.inr rfl)
theorem f199_698 : zft 199 698 = some (.invokevirtual 93, 3) := fet B199 (by decide +kernel) (Or.inr rfl)
theorem f199_701 : zft 199 701 = some (.aload_n 2, 1) := fet B199 (by decide +kernel) (Or.inr rfl)
theorem f199_702 : zft 199 702 = some (.invokevirtual 96, 3) := fet B199 (by decide +kernel) (Or.inr rfl)
theorem f199_705 : zft 199 705 = some (.if_icmp .eq 561, 3) := fet B199 (by decide +kernel) (Or.inr rfl)
theorem f199_708 : zft 199 708 = some (.iconst 0, 1) := fet B199 (by decide +kernel) (Or.inr rfl)
theorem f199_709 : zft 199 709 = some (.ireturn, 1) := fet B199 (by decide +kernel) (Or.inr rfl)
theorem f199_710 : zft 199 710 = some (.aload_n 1, 1) := fet B199 (by decide +kernel) (Or.inr rfl)
theorem f199_711 : zft 199 711 = some (.aload_n 0, 1) := fet B199 (by decide +kernel) (Or.inr rfl)
theorem f199_712 : zft 199 712 = some (.iload_n 3, 1) := fet B199 (by decide +kernel) (Or.inr rfl)
theorem f199_713 : zft 199 713 = some (.iconst 1, 1) := fet B199 (by decide +kernel) (Or.inr rfl)
theorem f199_714 : zft 199 714 = some (.iadd, 1) := fet B199 (by decide +kernel) (Or.inr rfl)
theorem f199_715 : zft 199 715 = some (.iaload, 1) := fet B199 (by decide +kernel) (Or.inr rfl)
theorem f199_716 : zft 199 716 = some (.invokevirtual 97, 3) := fet B199 (by decide +kernel) (Or.inr rfl)
theorem f199_719 : zft 199 719 = some (.aload_n 2, 1) := fet B199 (by decide +kernel) (Or.inr rfl)
theorem f199_720 : zft 199 720 = some (.aload_n 0, 1) := fet B199 (by decide +kernel) (Or.inr rfl)
theorem f199_721 : zft 199 721 = some (.iload_n 3, 1) := fet B199 (by decide +kernel) (Or.inr rfl)
theorem f199_722 : zft 199 722 = some (.iconst 1, 1) := fet B199 (by decide +kernel) (Or.inr rfl)
theorem f199_723 : zft 199 723 = some (.iadd, 1) := fet B199 (by decide +kernel) (Or.inr rfl)
theorem f199_724 : zft 199 724 = some (.iaload, 1) := fet B199 (by decide +kernel) (Or.inr rfl)
theorem f199_725 : zft 199 725 = some (.invokevirtual 100, 3) := fet B199 (by decide +kernel) (Or.inr rfl)
theorem f199_728 : zft 199 728 = some (.if_icmp .eq 538, 3) := fet B199 (by decide +kernel) (Or.inr rfl)
theorem f199_731 : zft 199 731 = some (.iconst 0, 1) := fet B199 (by decide +kernel) (Or.inr rfl)
theorem f199_732 : zft 199 732 = some (.ireturn, 1) := fet B199 (by decide +kernel) (Or.inr rfl)
theorem f199_733 : zft 199 733 = some (.aload_n 1, 1) := fet B199 (by decide +kernel) (Or.inr rfl)
theorem f199_734 : zft 199 734 = some (.aload_n 0, 1) := fet B199 (by decide +kernel) (Or.inr rfl)
theorem f199_735 : zft 199 735 = some (.iload_n 3, 1) := fet B199 (by decide +kernel) (Or.inr rfl)
theorem f199_736 : zft 199 736 = some (.iconst 1, 1) := fet B199 (by decide +kernel) (Or.inr rfl)
theorem f199_737 : zft 199 737 = some (.iadd, 1) := fet B199 (by decide +kernel) (Or.inr rfl)
theorem f199_738 : zft 199 738 = some (.iaload, 1) := fet B199 (by decide +kernel) (Or.inr rfl)
theorem f199_739 : zft 199 739 = some (.invokevirtual 101, 3) := fet B199 (by decide +kernel) (Or.inr rfl)
theorem f199_742 : zft 199 742 = some (.aload_n 2, 1) := fet B199 (by decide +kernel) (Or.inr rfl)
theorem f199_743 : zft 199 743 = some (.aload_n 0, 1) := fet B199 (by decide +kernel) (Or.inr rfl)
theorem f199_744 : zft 199 744 = some (.iload_n 3, 1) := fet B199 (by decide +kernel) (Or.inr rfl)
theorem f199_745 : zft 199 745 = some (.iconst 1, 1) := fet B199 (by decide +kernel) (Or.inr rfl)
theorem f199_746 : zft 199 746 = some (.iadd, 1) := fet B199 (by decide +kernel) (Or.inr rfl)
theorem f199_747 : zft 199 747 = some (.iaload, 1) := fet B199 (by decide +kernel) (Or.inr rfl)
theorem f199_748 : zft 199 748 = some (.invokevirtual 104, 3) := fet B199 (by decide +kernel) (Or.inr rfl)
theorem f199_751 : zft 199 751 = some (.if_icmp .eq 515, 3) := fet B199 (by decide +kernel) (Or.inr rfl)
theorem f199_754 : zft 199 754 = some (.iconst 0, 1) := fet B199 (by decide +kernel) (Or.inr rfl)
theorem f199_755 : zft 199 755 = some (.ireturn, 1) := fet B199 (by decide +kernel) (Or.inr rfl)
theorem f199_756 : zft 199 756 = some (.aload_n 1, 1) := fet B199 (by decide +kernel) (Or.inr rfl)
theorem f199_757 : zft 199 757 = some (.aload_n 0, 1) := fet B199 (by decide +kernel) (Or.inr rfl)
theorem f199_758 : zft 199 758 = some (.iload_n 3, 1) := fet B199 (by decide +kernel) (Or.inr rfl)
theorem f199_759 : zft 199 759 = some (.iconst 1, 1) := fet B199 (by decide +kernel) (Or.inr rfl)
theorem f199_760 : zft 199 760 = some (.iadd, 1) := fet B199 (by decide +kernel) (Or.inr rfl)
theorem f199_761 : zft 199 761 = some (.iaload, 1) := fet B199 (by decide +kernel) (Or.inr rfl)
theorem f199_762 : zft 199 762 = some (.aload_n 0, 1) := fet B199 (by decide +kernel) (Or.inr rfl)
theorem f199_763 : zft 199 763 = some (.iload_n 3, 1) := fet B199 (by decide +kernel) (Or.inr rfl)
theorem f199_764 : zft 199 764 = some (.iconst 2, 1) := fet B199 (by decide +kernel) (Or.inr rfl)
theorem f199_765 : zft 199 765 = some (.iadd, 1) := fet B199 (by decide +kernel) (Or.inr rfl)
theorem f199_766 : zft 199 766 = some (.iaload, 1) := fet B199 (by decide +kernel) (Or.inr rfl)
theorem f199_767 : zft 199 767 = some (.aload_n 0, 1) := fet B199 (by decide +kernel) (Or.inr rfl)
theorem f199_768 : zft 199 768 = some (.iload_n 3, 1) := fet B199 (by decide +kernel) (Or.inr rfl)
theorem f199_769 : zft 199 769 = some (.iconst 3, 1) := fet B199 (by decide +kernel) (Or.inr rfl)
theorem f199_770 : zft 199 770 = some (.iadd, 1) := fet B199 (by decide +kernel) (Or.inr rfl)
theorem f199_771 : zft 199 771 = some (.iaload, 1) := fet B199 (by decide +kernel) (Or.inr rfl)
theorem f199_772 : zft 199 772 = some (.invokevirtual 105, 3) := fet B199 (by decide +kernel) (Or.inr rfl)
theorem f199_775 : zft 199 775 = some (.aload_n 2, 1) := fet B199 (by decide +kernel) (Or.inr rfl)
theorem f199_776 : zft 199 776 = some (.aload_n 0, 1) := fet B199 (by decide +kernel) (Or.inr rfl)
theorem f199_777 : zft 199 777 = some (.iload_n 3, 1) := fet B199 (by decide +kernel) (Or.inr rfl)
theorem f199_778 : zft 199 778 = some (.iconst 1, 1) := fet B199 (by decide +kernel) (Or.inr rfl)
theorem f199_779 : zft 199 779 = some (.iadd, 1) := fet B199 (by decide +kernel) (Or.inr rfl)
theorem f199_780 : zft 199 780 = some (.iaload, 1) := fet B199 (by decide +kernel) (Or.inr rfl)
theorem f199_781 : zft 199 781 = some (.aload_n 0, 1) := fet B199 (by decide +kernel) (Or.inr rfl)
theorem f199_782 : zft 199 782 = some (.iload_n 3, 1) := fet B199 (by decide +kernel) (Or.inr rfl)
theorem f199_783 : zft 199 783 = some (.iconst 2, 1) := fet B199 (by decide +kernel) (Or.inr rfl)
theorem f199_784 : zft 199 784 = some (.iadd, 1) := fet B199 (by decide +kernel) (Or.inr rfl)
theorem f199_785 : zft 199 785 = some (.iaload, 1) := fet B199 (by decide +kernel) (Or.inr rfl)
theorem f199_786 : zft 199 786 = some (.aload_n 0, 1) := fet B199 (by decide +kernel) (Or.inr rfl)
theorem f199_787 : zft 199 787 = some (.iload_n 3, 1) := fet B199 (by decide +kernel) (Or.inr rfl)
theorem f199_788 : zft 199 788 = some (.iconst 3, 1) := fet B199 (by decide +kernel) (Or.inr rfl)
theorem f199_789 : zft 199 789 = some (.iadd, 1) := fet B199 (by decide +kernel) (Or.inr rfl)
theorem f199_790 : zft 199 790 = some (.iaload, 1) := fet B199 (by decide +kernel) (Or.inr rfl)
theorem f199_791 : zft 199 791 = some (.invokevirtual 108, 3) := fet B199 (by decide +kernel) (Or.inr rfl)
theorem f199_794 : zft 199 794 = some (.if_icmp .eq 472, 3) := fet B199 (by decide +kernel) (Or.inr rfl)
theorem f199_797 : zft 199 797 = some (.iconst 0, 1) := fet B199 (by decide +kernel) (Or.inr rfl)
theorem f199_798 : zft 199 798 = some (.ireturn, 1) := fet B199 (by decide +kernel) (Or.inr rfl)
theorem f199_799 : zft 199 799 = some (.aload_n 1, 1) := fet B199 (by decide +kernel) (Or.inr rfl)
theorem f199_800 : zft 199 800 = some (.invokevirtual 109, 3) := fet B199 (by decide +kernel) (Or.inr rfl)
theorem f199_803 : zft 199 803 = some (.aload_n 2, 1) := fet B199 (by decide +kernel) (Or.inr rfl)
theorem f199_804 : zft 199 804 = some (.invokevirtual 112, 3) := fet B199 (by decide +kernel) (Or.inr rfl)
theorem f199_807 : zft 199 807 = some (.if_icmp .eq 459, 3) := fet B199 (by decide +kernel) (Or.inr rfl)
theorem f199_810 : zft 199 810 = some (.iconst 0, 1) := fet B199 (by decide +kernel) (Or.inr rfl)
theorem f199_811 : zft 199 811 = some (.ireturn, 1) := fet B199 (by decide +kernel) (Or.inr rfl)
theorem f199_812 : zft 199 812 = some (.aload_n 1, 1) := fet B199 (by decide +kernel) (Or.inr rfl)
theorem f199_813 : zft 199 813 = some (.invokevirtual 113, 3) := fet B199 (by decide +kernel) (Or.inr rfl)
theorem f199_816 : zft 199 816 = some (.aload_n 2, 1) := fet B199 (by decide +kernel) (Or.inr rfl)
theorem f199_817 : zft 199 817 = some (.invokevirtual 116, 3) := fet B199 (by decide +kernel) (Or.inr rfl)
theorem f199_820 : zft 199 820 = some (.if_icmp .eq 446, 3) := fet B199 (by decide +kernel) (Or.inr rfl)
theorem f199_823 : zft 199 823 = some (.iconst 0, 1) := fet B199 (by decide +kernel) (Or.inr rfl)
theorem f199_824 : zft 199 824 = some (.ireturn, 1) := fet B199 (by decide +kernel) (Or.inr rfl)
theorem f199_825 : zft 199 825 = some (.aload_n 1, 1) := fet B199 (by decide +kernel) (Or.inr rfl)
theorem f199_826 : zft 199 826 = some (.aload_n 0, 1) := fet B199 (by decide +kernel) (Or.inr rfl)
theorem f199_827 : zft 199 827 = some (.iload_n 3, 1) := fet B199 (by decide +kernel) (Or.inr rfl)
theorem f199_828 : zft 199 828 = some (.iconst 1, 1) := fet B199 (by decide +kernel) (Or.inr rfl)
theorem f199_829 : zft 199 829 = some (.iadd, 1) := fet B199 (by decide +kernel) (Or.inr rfl)
theorem f199_830 : zft 199 830 = some (.iaload, 1) := fet B199 (by decide +kernel) (Or.inr rfl)
theorem f199_831 : zft 199 831 = some (.invokevirtual 117, 3) := fet B199 (by decide +kernel) (Or.inr rfl)
theorem f199_834 : zft 199 834 = some (.aload_n 2, 1) := fet B199 (by decide +kernel) (Or.inr rfl)
theorem f199_835 : zft 199 835 = some (.aload_n 0, 1) := fet B199 (by decide +kernel) (Or.inr rfl)
theorem f199_836 : zft 199 836 = some (.iload_n 3, 1) := fet B199 (by decide +kernel) (Or.inr rfl)
theorem f199_837 : zft 199 837 = some (.iconst 1, 1) := fet B199 (by decide +kernel) (Or.inr rfl)
theorem f199_838 : zft 199 838 = some (.iadd, 1) := fet B199 (by decide +kernel) (Or.inr rfl)
theorem f199_839 : zft 199 839 = some (.iaload, 1) := fet B199 (by decide +kernel) (Or.inr rfl)
theorem f199_840 : zft 199 840 = some (.invokevirtual 120, 3) := fet B199 (by decide +kernel) (Or.inr rfl)
theorem f199_843 : zft 199 843 = some (.if_icmp .eq 423, 3) := fet B199 (by decide +kernel) (Or.inr rfl)
theorem f199_846 : zft 199 846 = some (.iconst 0, 1) := fet B199 (by decide +kernel) (Or.inr rfl)
theorem f199_847 : zft 199 847 = some (.ireturn, 1) := fet B199 (by decide +kernel) (Or.inr rfl)
theorem f199_848 : zft 199 848 = some (.aload_n 1, 1) := fet B199 (by decide +kernel) (Or.inr rfl)
theorem f199_849 : zft 199 849 = some (.aload_n 0, 1) := fet B199 (by decide +kernel) (Or.inr rfl)
theorem f199_850 : zft 199 850 = some (.iload_n 3, 1) := fet B199 (by decide +kernel) (Or.inr rfl)
theorem f199_851 : zft 199 851 = some (.iconst 1, 1) := fet B199 (by decide +kernel) (Or.inr rfl)
theorem f199_852 : zft 199 852 = some (.iadd, 1) := fet B199 (by decide +kernel) (Or.inr rfl)
theorem f199_853 : zft 199 853 = some (.iaload, 1) := fet B199 (by decide +kernel) (Or.inr rfl)
theorem f199_854 : zft 199 854 = some (.invokevirtual 121, 3) := fet B199 (by decide +kernel) (Or.inr rfl)
theorem f199_857 : zft 199 857 = some (.aload_n 2, 1) := fet B199 (by decide +kernel) (Or.inr rfl)
theorem f199_858 : zft 199 858 = some (.aload_n 0, 1) := fet B199 (by decide +kernel) (Or.inr rfl)
theorem f199_859 : zft 199 859 = some (.iload_n 3, 1) := fet B199 (by decide +kernel) (Or.inr rfl)
theorem f199_860 : zft 199 860 = some (.iconst 1, 1) := fet B199 (by decide +kernel) (Or.inr rfl)
theorem f199_861 : zft 199 861 = some (.iadd, 1) := fet B199 (by decide +kernel) (Or.inr rfl)
theorem f199_862 : zft 199 862 = some (.iaload, 1) := fet B199 (by decide +kernel) (Or.inr rfl)
theorem f199_863 : zft 199 863 = some (.invokevirtual 124, 3) := fet B199 (by decide +kernel) (Or.inr rfl)
theorem f199_866 : zft 199 866 = some (.if_icmp .eq 400, 3) := fet B199 (by decide +kernel) (Or.inr rfl)
theorem f199_869 : zft 199 869 = some (.iconst 0, 1) := fet B199 (by decide +kernel) (Or.inr rfl)
theorem f199_870 : zft 199 870 = some (.ireturn, 1) := fet B199 (by decide +kernel) (Or.inr rfl)
theorem f199_871 : zft 199 871 = some (.aload_n 1, 1) := fet B199 (by decide +kernel) (Or.inr rfl)
theorem f199_872 : zft 199 872 = some (.aload_n 0, 1) := fet B199 (by decide +kernel) (Or.inr rfl)
theorem f199_873 : zft 199 873 = some (.iload_n 3, 1) := fet B199 (by decide +kernel) (Or.inr rfl)
theorem f199_874 : zft 199 874 = some (.iconst 1, 1) := fet B199 (by decide +kernel) (Or.inr rfl)
theorem f199_875 : zft 199 875 = some (.iadd, 1) := fet B199 (by decide +kernel) (Or.inr rfl)
theorem f199_876 : zft 199 876 = some (.iaload, 1) := fet B199 (by decide +kernel) (Or.inr rfl)
theorem f199_877 : zft 199 877 = some (.invokevirtual 125, 3) := fet B199 (by decide +kernel) (Or.inr rfl)
theorem f199_880 : zft 199 880 = some (.aload_n 2, 1) := fet B199 (by decide +kernel) (Or.inr rfl)
theorem f199_881 : zft 199 881 = some (.aload_n 0, 1) := fet B199 (by decide +kernel) (Or.inr rfl)
theorem f199_882 : zft 199 882 = some (.iload_n 3, 1) := fet B199 (by decide +kernel) (Or.inr rfl)
theorem f199_883 : zft 199 883 = some (.iconst 1, 1) := fet B199 (by decide +kernel) (Or.inr rfl)
theorem f199_884 : zft 199 884 = some (.iadd, 1) := fet B199 (by decide +kernel) (Or.inr rfl)
theorem f199_885 : zft 199 885 = some (.iaload, 1) := fet B199 (by decide +kernel) (Or.inr rfl)
theorem f199_886 : zft 199 886 = some (.invokevirtual 128, 3) := fet B199 (by decide +kernel) (Or.inr rfl)
theorem f199_889 : zft 199 889 = some (.if_icmp .eq 377, 3) := fet B199 (by decide +kernel) (Or.inr rfl)
theorem f199_892 : zft 199 892 = some (.iconst 0, 1) := fet B199 (by decide +kernel) (Or.inr rfl)
theorem f199_893 : zft 199 893 = some (.ireturn, 1) := fet B199 (by decide +kernel) (Or.inr rfl)
theorem f199_894 : zft 199 894 = some (.aload_n 1, 1) := fet B199 (by decide +kernel) (Or.inr rfl)
theorem f199_895 : zft 199 895 = some (.aload_n 0, 1) := fet B199 (by decide +kernel) (Or.inr rfl)
theorem f199_896 : zft 199 896 = some (.iload_n 3, 1) := fet B199 (by decide +kernel) (Or.inr rfl)
theorem f199_897 : zft 199 897 = some (.iconst 1, 1) := fet B199 (by decide +kernel) (Or.inr rfl)
theorem f199_898 : zft 199 898 = some (.iadd, 1) := fet B199 (by decide +kernel) (Or.inr rfl)
theorem f199_899 : zft 199 899 = some (.iaload, 1) := fet B199 (by decide +kernel) (Or.inr rfl)
theorem f199_900 : zft 199 900 = some (.aload_n 0, 1) := fet B199 (by decide +kernel) (Or.inr rfl)
theorem f199_901 : zft 199 901 = some (.iload_n 3, 1) := fet B199 (by decide +kernel) (Or.inr rfl)
theorem f199_902 : zft 199 902 = some (.iconst 2, 1) := fet B199 (by decide +kernel) (Or.inr rfl)
theorem f199_903 : zft 199 903 = some (.iadd, 1) := fet B199 (by decide +kernel) (Or.inr rfl)
theorem f199_904 : zft 199 904 = some (.iaload, 1) := fet B199 (by decide +kernel) (Or.inr rfl)
theorem f199_905 : zft 199 905 = some (.aload_n 0, 1) := fet B199 (by decide +kernel) (Or.inr rfl)
theorem f199_906 : zft 199 906 = some (.iload_n 3, 1) := fet B199 (by decide +kernel) (Or.inr rfl)
theorem f199_907 : zft 199 907 = some (.iconst 3, 1) := fet B199 (by decide +kernel) (Or.inr rfl)
theorem f199_908 : zft 199 908 = some (.iadd, 1) := fet B199 (by decide +kernel) (Or.inr rfl)
theorem f199_909 : zft 199 909 = some (.iaload, 1) := fet B199 (by decide +kernel) (Or.inr rfl)
theorem f199_910 : zft 199 910 = some (.invokevirtual 129, 3) := fet B199 (by decide +kernel) (Or.inr rfl)
theorem f199_913 : zft 199 913 = some (.aload_n 2, 1) := fet B199 (by decide +kernel) (Or.inr rfl)
theorem f199_914 : zft 199 914 = some (.aload_n 0, 1) := fet B199 (by decide +kernel) (Or.inr rfl)
theorem f199_915 : zft 199 915 = some (.iload_n 3, 1) := fet B199 (by decide +kernel) (Or.inr rfl)
theorem f199_916 : zft 199 916 = some (.iconst 1, 1) := fet B199 (by decide +kernel) (Or.inr rfl)
theorem f199_917 : zft 199 917 = some (.iadd, 1) := fet B199 (by decide +kernel) (Or.inr rfl)
theorem f199_918 : zft 199 918 = some (.iaload, 1) := fet B199 (by decide +kernel) (Or.inr rfl)
theorem f199_919 : zft 199 919 = some (.aload_n 0, 1) := fet B199 (by decide +kernel) (Or.inr rfl)
theorem f199_920 : zft 199 920 = some (.iload_n 3, 1) := fet B199 (by decide +kernel) (Or.inr rfl)
theorem f199_921 : zft 199 921 = some (.iconst 2, 1) := fet B199 (by decide +kernel) (Or.inr rfl)
theorem f199_922 : zft 199 922 = some (.iadd, 1) := fet B199 (by decide +kernel) (Or.inr rfl)
theorem f199_923 : zft 199 923 = some (.iaload, 1) := fet B199 (by decide +kernel) (Or.inr rfl)
theorem f199_924 : zft 199 924 = some (.aload_n 0, 1) := fet B199 (by decide +kernel) (Or.inr rfl)
theorem f199_925 : zft 199 925 = some (.iload_n 3, 1) := fet B199 (by decide +kernel) (Or.inr rfl)
theorem f199_926 : zft 199 926 = some (.iconst 3, 1) := fet B199 (by decide +kernel) (Or.inr rfl)
theorem f199_927 : zft 199 927 = some (.iadd, 1) := fet B199 (by decide +kernel) (Or.inr rfl)
theorem f199_928 : zft 199 928 = some (.iaload, 1) := fet B199 (by decide +kernel) (Or.inr rfl)
theorem f199_929 : zft 199 929 = some (.invokevirtual 133, 3) := fet B199 (by decide +kernel) (Or.inr rfl)
theorem f199_932 : zft 199 932 = some (.lcmp, 1) := fet B199 (by decide +kernel) (Or.inr rfl)
theorem f199_933 : zft 199 933 = some (.ifCond .eq 333, 3) := fet B199 (by decide +kernel) (Or.inr rfl)
theorem f199_936 : zft 199 936 = some (.iconst 0, 1) := fet B199 (by decide +kernel) (Or.inr rfl)
theorem f199_937 : zft 199 937 = some (.ireturn, 1) := fet B199 (by decide +kernel) (Or.inr rfl)
theorem f199_938 : zft 199 938 = some (.aload_n 1, 1) := fet B199 (by decide +kernel) (Or.inr rfl)
theorem f199_939 : zft 199 939 = some (.aload_n 0, 1) := fet B199 (by decide +kernel) (Or.inr rfl)
theorem f199_940 : zft 199 940 = some (.iload_n 3, 1) := fet B199 (by decide +kernel) (Or.inr rfl)
theorem f199_941 : zft 199 941 = some (.iconst 1, 1) := fet B199 (by decide +kernel) (Or.inr rfl)
theorem f199_942 : zft 199 942 = some (.iadd, 1) := fet B199 (by decide +kernel) (Or.inr rfl)
theorem f199_943 : zft 199 943 = some (.iaload, 1) := fet B199 (by decide +kernel) (Or.inr rfl)
theorem f199_944 : zft 199 944 = some (.aload_n 0, 1) := fet B199 (by decide +kernel) (Or.inr rfl)
theorem f199_945 : zft 199 945 = some (.iload_n 3, 1) := fet B199 (by decide +kernel) (Or.inr rfl)
theorem f199_946 : zft 199 946 = some (.iconst 2, 1) := fet B199 (by decide +kernel) (Or.inr rfl)
theorem f199_947 : zft 199 947 = some (.iadd, 1) := fet B199 (by decide +kernel) (Or.inr rfl)
theorem f199_948 : zft 199 948 = some (.iaload, 1) := fet B199 (by decide +kernel) (Or.inr rfl)
theorem f199_949 : zft 199 949 = some (.aload_n 0, 1) := fet B199 (by decide +kernel) (Or.inr rfl)
theorem f199_950 : zft 199 950 = some (.iload_n 3, 1) := fet B199 (by decide +kernel) (Or.inr rfl)
theorem f199_951 : zft 199 951 = some (.iconst 3, 1) := fet B199 (by decide +kernel) (Or.inr rfl)
theorem f199_952 : zft 199 952 = some (.iadd, 1) := fet B199 (by decide +kernel) (Or.inr rfl)
theorem f199_953 : zft 199 953 = some (.iaload, 1) := fet B199 (by decide +kernel) (Or.inr rfl)
theorem f199_954 : zft 199 954 = some (.invokevirtual 134, 3) := fet B199 (by decide +kernel) (Or.inr rfl)
theorem f199_957 : zft 199 957 = some (.aload_n 2, 1) := fet B199 (by decide +kernel) (Or.inr rfl)
theorem f199_958 : zft 199 958 = some (.aload_n 0, 1) := fet B199 (by decide +kernel) (Or.inr rfl)
theorem f199_959 : zft 199 959 = some (.iload_n 3, 1) := fet B199 (by decide +kernel) (Or.inr rfl)
theorem f199_960 : zft 199 960 = some (.iconst 1, 1) := fet B199 (by decide +kernel) (Or.inr rfl)
theorem f199_961 : zft 199 961 = some (.iadd, 1) := fet B199 (by decide +kernel) (Or.inr rfl)
theorem f199_962 : zft 199 962 = some (.iaload, 1) := fet B199 (by decide +kernel) (Or.inr rfl)
theorem f199_963 : zft 199 963 = some (.aload_n 0, 1) := fet B199 (by decide +kernel) (Or.inr rfl)
theorem f199_964 : zft 199 964 = some (.iload_n 3, 1) := fet B199 (by decide +kernel) (Or.inr rfl)
theorem f199_965 : zft 199 965 = some (.iconst 2, 1) := fet B199 (by decide +kernel) (Or.inr rfl)
theorem f199_966 : zft 199 966 = some (.iadd, 1) := fet B199 (by decide +kernel) (Or.inr rfl)
theorem f199_967 : zft 199 967 = some (.iaload, 1) := fet B199 (by decide +kernel) (Or.inr rfl)
theorem f199_968 : zft 199 968 = some (.aload_n 0, 1) := fet B199 (by decide +kernel) (Or.inr rfl)
theorem f199_969 : zft 199 969 = some (.iload_n 3, 1) := fet B199 (by decide +kernel) (Or.inr rfl)
theorem f199_970 : zft 199 970 = some (.iconst 3, 1) := fet B199 (by decide +kernel) (Or.inr rfl)
theorem f199_971 : zft 199 971 = some (.iadd, 1) := fet B199 (by decide +kernel) (Or.inr rfl)
theorem f199_972 : zft 199 972 = some (.iaload, 1) := fet B199 (by decide +kernel) (Or.inr rfl)
theorem f199_973 : zft 199 973 = some (.invokevirtual 137, 3) := fet B199 (by decide +kernel) (Or.inr rfl)
theorem f199_976 : zft 199 976 = some (.if_icmp .eq 290, 3) := fet B199 (by decide +kernel) (Or.inr rfl)
theorem f199_979 : zft 199 979 = some (.iconst 0, 1) := fet B199 (by decide +kernel) (Or.inr rfl)
theorem f199_980 : zft 199 980 = some (.ireturn, 1) := fet B199 (by decide +kernel) (Or.inr rfl)
theorem f199_981 : zft 199 981 = some (.aload_n 1, 1) := fet B199 (by decide +kernel) (Or.inr rfl)
theorem f199_982 : zft 199 982 = some (.aload_n 0, 1) := fet B199 (by decide +kernel) (Or.inr rfl)
theorem f199_983 : zft 199 983 = some (.iload_n 3, 1) := fet B199 (by decide +kernel) (Or.inr rfl)
theorem f199_984 : zft 199 984 = some (.iconst 1, 1) := fet B199 (by decide +kernel) (Or.inr rfl)
theorem f199_985 : zft 199 985 = some (.iadd, 1) := fet B199 (by decide +kernel) (Or.inr rfl)
theorem f199_986 : zft 199 986 = some (.iaload, 1) := fet B199 (by decide +kernel) (Or.inr rfl)
theorem f199_987 : zft 199 987 = some (.aload_n 0, 1) := fet B199 (by decide +kernel) (Or.inr rfl)
theorem f199_988 : zft 199 988 = some (.iload_n 3, 1) := fet B199 (by decide +kernel) (Or.inr rfl)
theorem f199_989 : zft 199 989 = some (.iconst 2, 1) := fet B199 (by decide +kernel) (Or.inr rfl)
theorem f199_990 : zft 199 990 = some (.iadd, 1) := fet B199 (by decide +kernel) (Or.inr rfl)
theorem f199_991 : zft 199 991 = some (.iaload, 1) := fet B199 (by decide +kernel) (Or.inr rfl)
theorem f199_992 : zft 199 992 = some (.aload_n 0, 1) := fet B199 (by decide +kernel) (Or.inr rfl)
theorem f199_993 : zft 199 993 = some (.iload_n 3, 1) := fet B199 (by decide +kernel) (Or.inr rfl)
theorem f199_994 : zft 199 994 = some (.iconst 3, 1) := fet B199 (by decide +kernel) (Or.inr rfl)
theorem f199_995 : zft 199 995 = some (.iadd, 1) := fet B199 (by decide +kernel) (Or.inr rfl)
theorem f199_996 : zft 199 996 = some (.iaload, 1) := fet B199 (by decide +kernel) (Or.inr rfl)
theorem f199_997 : zft 199 997 = some (.invokevirtual 138, 3) := fet B199 (by decide +kernel) (Or.inr rfl)
theorem f199_1000 : zft 199 1000 = some (.aload_n 2, 1) := fet B199 (by decide +kernel) (Or.inr rfl)
theorem f199_1001 : zft 199 1001 = some (.aload_n 0, 1) := fet B199 (by decide +kernel) (Or.inr rfl)
theorem f199_1002 : zft 199 1002 = some (.iload_n 3, 1) := fet B199 (by decide +kernel) (Or.inr rfl)
theorem f199_1003 : zft 199 1003 = some (.iconst 1, 1) := fet B199 (by decide +kernel) (Or.inr rfl)
theorem f199_1004 : zft 199 1004 = some (.iadd, 1) := fet B199 (by decide +kernel) (Or.inr rfl)
theorem f199_1005 : zft 199 1005 = some (.iaload, 1) := fet B199 (by decide +kernel) (Or.inr rfl)
theorem f199_1006 : zft 199 1006 = some (.aload_n 0, 1) := fet B199 (by decide +kernel) (Or.inr rfl)
theorem f199_1007 : zft 199 1007 = some (.iload_n 3, 1) := fet B199 (by decide +kernel) (Or.inr rfl)
theorem f199_1008 : zft 199 1008 = some (.iconst 2, 1) := fet B199 (by decide +kernel) (Or.inr rfl)
theorem f199_1009 : zft 199 1009 = some (.iadd, 1) := fet B199 (by decide +kernel) (Or.inr rfl)
theorem f199_1010 : zft 199 1010 = some (.iaload, 1) := fet B199 (by decide +kernel) (Or.inr rfl)
theorem f199_1011 : zft 199 1011 = some (.aload_n 0, 1) := fet B199 (by decide +kernel) (Or.inr rfl)
theorem f199_1012 : zft 199 1012 = some (.iload_n 3, 1) := fet B199 (by decide +kernel) (Or.inr rfl)
theorem f199_1013 : zft 199 1013 = some (.iconst 3, 1) := fet B199 (by decide +kernel) (Or.inr rfl)
theorem f199_1014 : zft 199 1014 = some (.iadd, 1) := fet B199 (by decide +kernel) (Or.inr rfl)
theorem f199_1015 : zft 199 1015 = some (.iaload, 1) := fet B199 (by decide +kernel) (Or.inr rfl)
theorem f199_1016 : zft 199 1016 = some (.invokevirtual 141, 3) := fet B199 (by decide +kernel) (Or.inr rfl)
theorem f199_1019 : zft 199 1019 = some (.if_icmp .eq 247, 3) := fet B199 (by decide +kernel) (Or.inr rfl)
theorem f199_1022 : zft 199 1022 = some (.iconst 0, 1) := fet B199 (by decide +kernel) (Or.inr rfl)
theorem f199_1023 : zft 199 1023 = some (.ireturn, 1) := fet B199 (by decide +kernel) (Or.inr rfl)
theorem f199_1024 : zft 199 1024 = some (.aload_n 1, 1) := fet B199 (by decide +kernel) (Or.inr rfl)
theorem f199_1025 : zft 199 1025 = some (.aload_n 0, 1) := fet B199 (by decide +kernel) (Or.inr rfl)
theorem f199_1026 : zft 199 1026 = some (.iload_n 3, 1) := fet B199 (by decide +kernel) (Or.inr rfl)
theorem f199_1027 : zft 199 1027 = some (.iconst 1, 1) := fet B199 (by decide +kernel) (Or.inr rfl)
theorem f199_1028 : zft 199 1028 = some (.iadd, 1) := fet B199 (by decide +kernel) (Or.inr rfl)
theorem f199_1029 : zft 199 1029 = some (.iaload, 1) := fet B199 (by decide +kernel) (Or.inr rfl)
theorem f199_1030 : zft 199 1030 = some (.invokevirtual 142, 3) := fet B199 (by decide +kernel) (Or.inr rfl)
theorem f199_1033 : zft 199 1033 = some (.aload_n 2, 1) := fet B199 (by decide +kernel) (Or.inr rfl)
theorem f199_1034 : zft 199 1034 = some (.aload_n 0, 1) := fet B199 (by decide +kernel) (Or.inr rfl)
theorem f199_1035 : zft 199 1035 = some (.iload_n 3, 1) := fet B199 (by decide +kernel) (Or.inr rfl)
theorem f199_1036 : zft 199 1036 = some (.iconst 1, 1) := fet B199 (by decide +kernel) (Or.inr rfl)
theorem f199_1037 : zft 199 1037 = some (.iadd, 1) := fet B199 (by decide +kernel) (Or.inr rfl)
theorem f199_1038 : zft 199 1038 = some (.iaload, 1) := fet B199 (by decide +kernel) (Or.inr rfl)
theorem f199_1039 : zft 199 1039 = some (.invokevirtual 145, 3) := fet B199 (by decide +kernel) (Or.inr rfl)
theorem f199_1042 : zft 199 1042 = some (.if_icmp .eq 224, 3) := fet B199 (by decide +kernel) (Or.inr rfl)
theorem f199_1045 : zft 199 1045 = some (.iconst 0, 1) := fet B199 (by decide +kernel) (Or.inr rfl)
theorem f199_1046 : zft 199 1046 = some (.ireturn, 1) := fet B199 (by decide +kernel) (Or.inr rfl)
theorem f199_1047 : zft 199 1047 = some (.aload_n 1, 1) := fet B199 (by decide +kernel) (Or.inr rfl)
theorem f199_1048 : zft 199 1048 = some (.aload_n 0, 1) := fet B199 (by decide +kernel) (Or.inr rfl)
theorem f199_1049 : zft 199 1049 = some (.iload_n 3, 1) := fet B199 (by decide +kernel) (Or.inr rfl)
theorem f199_1050 : zft 199 1050 = some (.iconst 1, 1) := fet B199 (by decide +kernel) (Or.inr rfl)
theorem f199_1051 : zft 199 1051 = some (.iadd, 1) := fet B199 (by decide +kernel) (Or.inr rfl)
theorem f199_1052 : zft 199 1052 = some (.iaload, 1) := fet B199 (by decide +kernel) (Or.inr rfl)
theorem f199_1053 : zft 199 1053 = some (.aload_n 0, 1) := fet B199 (by decide +kernel) (Or.inr rfl)
theorem f199_1054 : zft 199 1054 = some (.iload_n 3, 1) := fet B199 (by decide +kernel) (Or.inr rfl)
theorem f199_1055 : zft 199 1055 = some (.iconst 2, 1) := fet B199 (by decide +kernel) (Or.inr rfl)
theorem f199_1056 : zft 199 1056 = some (.iadd, 1) := fet B199 (by decide +kernel) (Or.inr rfl)
theorem f199_1057 : zft 199 1057 = some (.iaload, 1) := fet B199 (by decide +kernel) (Or.inr rfl)
theorem f199_1058 : zft 199 1058 = some (.aload_n 0, 1) := fet B199 (by decide +kernel) (Or.inr rfl)
theorem f199_1059 : zft 199 1059 = some (.iload_n 3, 1) := fet B199 (by decide +kernel) (Or.inr rfl)
theorem f199_1060 : zft 199 1060 = some (.iconst 3, 1) := fet B199 (by decide +kernel) (Or.inr rfl)
theorem f199_1061 : zft 199 1061 = some (.iadd, 1) := fet B199 (by decide +kernel) (Or.inr rfl)
theorem f199_1062 : zft 199 1062 = some (.iaload, 1) := fet B199 (by decide +kernel) (Or.inr rfl)
theorem f199_1063 : zft 199 1063 = some (.aload_n 0, 1) := fet B199 (by decide +kernel) (Or.inr rfl)
theorem f199_1064 : zft 199 1064 = some (.iload_n 3, 1) := fet B199 (by decide +kernel) (Or.inr rfl)
theorem f199_1065 : zft 199 1065 = some (.iconst 4, 1) := fet B199 (by decide +kernel) (Or.inr rfl)
theorem f199_1066 : zft 199 1066 = some (.iadd, 1) := fet B199 (by decide +kernel) (Or.inr rfl)
theorem f199_1067 : zft 199 1067 = some (.iaload, 1) := fet B199 (by decide +kernel) (Or.inr rfl)
theorem f199_1068 : zft 199 1068 = some (.invokevirtual 146, 3) := fet B199 (by decide +kernel) (Or.inr rfl)
theorem f199_1071 : zft 199 1071 = some (.aload_n 2, 1) := fet B199 (by decide +kernel) (Or.inr rfl)
theorem f199_1072 : zft 199 1072 = some (.aload_n 0, 1) := fet B199 (by decide +kernel) (Or.inr rfl)
theorem f199_1073 : zft 199 1073 = some (.iload_n 3, 1) := fet B199 (by decide +kernel) (Or.inr rfl)
theorem f199_1074 : zft 199 1074 = some (.iconst 1, 1) := fet B199 (by decide +kernel) (Or.inr rfl)
theorem f199_1075 : zft 199 1075 = some (.iadd, 1) := fet B199 (by decide +kernel) (Or.inr rfl)
theorem f199_1076 : zft 199 1076 = some (.iaload, 1) := fet B199 (by decide +kernel) (Or.inr rfl)
theorem f199_1077 : zft 199 1077 = some (.aload_n 0, 1) := fet B199 (by decide +kernel) (Or.inr rfl)
theorem f199_1078 : zft 199 1078 = some (.iload_n 3, 1) := fet B199 (by decide +kernel) (Or.inr rfl)
theorem f199_1079 : zft 199 1079 = some (.iconst 2, 1) := fet B199 (by decide +kernel) (Or.inr rfl)
theorem f199_1080 : zft 199 1080 = some (.iadd, 1) := fet B199 (by decide +kernel) (Or.inr rfl)
theorem f199_1081 : zft 199 1081 = some (.iaload, 1) := fet B199 (by decide +kernel) (Or.inr rfl)
theorem f199_1082 : zft 199 1082 = some (.aload_n 0, 1) := fet B199 (by decide +kernel) (Or.inr rfl)
theorem f199_1083 : zft 199 1083 = some (.iload_n 3, 1) := fet B199 (by decide +kernel) (Or.inr rfl)
theorem f199_1084 : zft 199 1084 = some (.iconst 3, 1) := fet B199 (by decide +kernel) (Or.inr rfl)
theorem f199_1085 : zft 199 1085 = some (.iadd, 1) := fet B199 (by decide +kernel) (Or.inr rfl)
theorem f199_1086 : zft 199 1086 = some (.iaload, 1) := fet B199 (by decide +kernel) (Or.inr rfl)
theorem f199_1087 : zft 199 1087 = some (.aload_n 0, 1) := fet B199 (by decide +kernel) (Or.inr rfl)
theorem f199_1088 : zft 199 1088 = some (.iload_n 3, 1) := fet B199 (by decide +kernel) (Or.inr rfl)
theorem f199_1089 : zft 199 1089 = some (.iconst 4, 1) := fet B199 (by decide +kernel) (Or.inr rfl)
theorem f199_1090 : zft 199 1090 = some (.iadd, 1) := fet B199 (by decide +kernel) (Or.inr rfl)
theorem f199_1091 : zft 199 1091 = some (.iaload, 1) := fet B199 (by decide +kernel) (Or.inr rfl)
theorem f199_1092 : zft 199 1092 = some (.invokevirtual 150, 3) := fet B199 (by decide +kernel) (Or.inr rfl)
theorem f199_1095 : zft 199 1095 = some (.if_icmp .eq 171, 3) := fet B199 (by decide +kernel) (Or.inr rfl)
theorem f199_1098 : zft 199 1098 = some (.iconst 0, 1) := fet B199 (by decide +kernel) (Or.inr rfl)
theorem f199_1099 : zft 199 1099 = some (.ireturn, 1) := fet B199 (by decide +kernel) (Or.inr rfl)
theorem f199_1100 : zft 199 1100 = some (.aload_n 1, 1) := fet B199 (by decide +kernel) (Or.inr rfl)
theorem f199_1101 : zft 199 1101 = some (.aload_n 0, 1) := fet B199 (by decide +kernel) (Or.inr rfl)
theorem f199_1102 : zft 199 1102 = some (.iload_n 3, 1) := fet B199 (by decide +kernel) (Or.inr rfl)
theorem f199_1103 : zft 199 1103 = some (.iconst 1, 1) := fet B199 (by decide +kernel) (Or.inr rfl)
theorem f199_1104 : zft 199 1104 = some (.iadd, 1) := fet B199 (by decide +kernel) (Or.inr rfl)
theorem f199_1105 : zft 199 1105 = some (.iaload, 1) := fet B199 (by decide +kernel) (Or.inr rfl)
theorem f199_1106 : zft 199 1106 = some (.aload_n 0, 1) := fet B199 (by decide +kernel) (Or.inr rfl)
theorem f199_1107 : zft 199 1107 = some (.iload_n 3, 1) := fet B199 (by decide +kernel) (Or.inr rfl)
theorem f199_1108 : zft 199 1108 = some (.iconst 2, 1) := fet B199 (by decide +kernel) (Or.inr rfl)
theorem f199_1109 : zft 199 1109 = some (.iadd, 1) := fet B199 (by decide +kernel) (Or.inr rfl)
theorem f199_1110 : zft 199 1110 = some (.iaload, 1) := fet B199 (by decide +kernel) (Or.inr rfl)
theorem f199_1111 : zft 199 1111 = some (.aload_n 0, 1) := fet B199 (by decide +kernel) (Or.inr rfl)
theorem f199_1112 : zft 199 1112 = some (.iload_n 3, 1) := fet B199 (by decide +kernel) (Or.inr rfl)
theorem f199_1113 : zft 199 1113 = some (.iconst 3, 1) := fet B199 (by decide +kernel) (Or.inr rfl)
theorem f199_1114 : zft 199 1114 = some (.iadd, 1) := fet B199 (by decide +kernel) (Or.inr rfl)
theorem f199_1115 : zft 199 1115 = some (.iaload, 1) := fet B199 (by decide +kernel) (Or.inr rfl)
theorem f199_1116 : zft 199 1116 = some (.invokevirtual 151, 3) := fet B199 (by decide +kernel) (Or.inr rfl)
theorem f199_1119 : zft 199 1119 = some (.aload_n 2, 1) := fet B199 (by decide +kernel) (Or.inr rfl)
theorem f199_1120 : zft 199 1120 = some (.aload_n 0, 1) := fet B199 (by decide +kernel) (Or.inr rfl)
theorem f199_1121 : zft 199 1121 = some (.iload_n 3, 1) := fet B199 (by decide +kernel) (Or.inr rfl)
theorem f199_1122 : zft 199 1122 = some (.iconst 1, 1) := fet B199 (by decide +kernel) (Or.inr rfl)
theorem f199_1123 : zft 199 1123 = some (.iadd, 1) := fet B199 (by decide +kernel) (Or.inr rfl)
theorem f199_1124 : zft 199 1124 = some (.iaload, 1) := fet B199 (by decide +kernel) (Or.inr rfl)
theorem f199_1125 : zft 199 1125 = some (.aload_n 0, 1) := fet B199 (by decide +kernel) (Or.inr rfl)
theorem f199_1126 : zft 199 1126 = some (.iload_n 3, 1) := fet B199 (by decide +kernel) (Or.inr rfl)
theorem f199_1127 : zft 199 1127 = some (.iconst 2, 1) := fet B199 (by decide +kernel) (Or.inr rfl)
theorem f199_1128 : zft 199 1128 = some (.iadd, 1) := fet B199 (by decide +kernel) (Or.inr rfl)
theorem f199_1129 : zft 199 1129 = some (.iaload, 1) := fet B199 (by decide +kernel) (Or.inr rfl)
theorem f199_1130 : zft 199 1130 = some (.aload_n 0, 1) := fet B199 (by decide +kernel) (Or.inr rfl)
theorem f199_1131 : zft 199 1131 = some (.iload_n 3, 1) := fet B199 (by decide +kernel) (Or.inr rfl)
theorem f199_1132 : zft 199 1132 = some (.iconst 3, 1) := fet B199 (by decide +kernel) (Or.inr rfl)
theorem f199_1133 : zft 199 1133 = some (.iadd, 1) := fet B199 (by decide +kernel) (Or.inr rfl)
theorem f199_1134 : zft 199 1134 = some (.iaload, 1) := fet B199 (by decide +kernel) (Or.inr rfl)
theorem f199_1135 : zft 199 1135 = some (.invokevirtual 154, 3) := fet B199 (by decide +kernel) (Or.inr rfl)
theorem f199_1138 : zft 199 1138 = some (.if_icmp .eq 128, 3) := fet B199 (by decide +kernel) (Or.inr rfl)
theorem f199_1141 : zft 199 1141 = some (.iconst 0, 1) := fet B199 (by decide +kernel) (Or.inr rfl)
theorem f199_1142 : zft 199 1142 = some (.ireturn, 1) := fet B199 (by decide +kernel) (Or.inr rfl)
theorem f199_1143 : zft 199 1143 = some (.aload_n 1, 1) := fet B199 (by decide +kernel) (Or.inr rfl)
theorem f199_1144 : zft 199 1144 = some (.aload_n 0, 1) := fet B199 (by decide +kernel) (Or.inr rfl)
theorem f199_1145 : zft 199 1145 = some (.iload_n 3, 1) := fet B199 (by decide +kernel) (Or.inr rfl)
theorem f199_1146 : zft 199 1146 = some (.iconst 1, 1) := fet B199 (by decide +kernel) (Or.inr rfl)
theorem f199_1147 : zft 199 1147 = some (.iadd, 1) := fet B199 (by decide +kernel) (Or.inr rfl)
theorem f199_1148 : zft 199 1148 = some (.iaload, 1) := fet B199 (by decide +kernel) (Or.inr rfl)
theorem f199_1149 : zft 199 1149 = some (.aload_n 0, 1) := fet B199 (by decide +kernel) (Or.inr rfl)
theorem f199_1150 : zft 199 1150 = some (.iload_n 3, 1) := fet B199 (by decide +kernel) (Or.inr rfl)
theorem f199_1151 : zft 199 1151 = some (.iconst 2, 1) := fet B199 (by decide +kernel) (Or.inr rfl)
theorem f199_1152 : zft 199 1152 = some (.iadd, 1) := fet B199 (by decide +kernel) (Or.inr rfl)
theorem f199_1153 : zft 199 1153 = some (.iaload, 1) := fet B199 (by decide +kernel) (Or.inr rfl)
theorem f199_1154 : zft 199 1154 = some (.aload_n 0, 1) := fet B199 (by decide +kernel) (Or.inr rfl)
theorem f199_1155 : zft 199 1155 = some (.iload_n 3, 1) := fet B199 (by decide +kernel) (Or.inr rfl)
theorem f199_1156 : zft 199 1156 = some (.iconst 3, 1) := fet B199 (by decide +kernel) (Or.inr rfl)
theorem f199_1157 : zft 199 1157 = some (.iadd, 1) := fet B199 (by decide +kernel) (Or.inr rfl)
theorem f199_1158 : zft 199 1158 = some (.iaload, 1) := fet B199 (by decide +kernel) (Or.inr rfl)
theorem f199_1159 : zft 199 1159 = some (.aload_n 0, 1) := fet B199 (by decide +kernel) (Or.inr rfl)
theorem f199_1160 : zft 199 1160 = some (.iload_n 3, 1) := fet B199 (by decide +kernel) (Or.inr rfl)
theorem f199_1161 : zft 199 1161 = some (.iconst 4, 1) := fet B199 (by decide +kernel) (Or.inr rfl)
theorem f199_1162 : zft 199 1162 = some (.iadd, 1) := fet B199 (by decide +kernel) (Or.inr rfl)
theorem f199_1163 : zft 199 1163 = some (.iaload, 1) := fet B199 (by decide +kernel) (Or.inr rfl)
theorem f199_1164 : zft 199 1164 = some (.aload_n 0, 1) := fet B199 (by decide +kernel) (Or.inr rfl)
theorem f199_1165 : zft 199 1165 = some (.iload_n 3, 1) := fet B199 (by decide +kernel) (Or.inr rfl)
theorem f199_1166 : zft 199 1166 = some (.iconst 5, 1) := fet B199 (by decide +kernel) (Or.inr rfl)
theorem f199_1167 : zft 199 1167 = some (.iadd, 1) := fet B199 (by decide +kernel) (Or.inr rfl)
theorem f199_1168 : zft 199 1168 = some (.iaload, 1) := fet B199 (by decide +kernel) (Or.inr rfl)
theorem f199_1169 : zft 199 1169 = some (.invokevirtual 155, 3) := fet B199 (by decide +kernel) (Or.inr rfl)
theorem f199_1172 : zft 199 1172 = some (.aload_n 2, 1) := fet B199 (by decide +kernel) (Or.inr rfl)
theorem f199_1173 : zft 199 1173 = some (.aload_n 0, 1) := fet B199 (by decide +kernel) (Or.inr rfl)
theorem f199_1174 : zft 199 1174 = some (.iload_n 3, 1) := fet B199 (by decide +kernel) (Or.inr rfl)
theorem f199_1175 : zft 199 1175 = some (.iconst 1, 1) := fet B199 (by decide +kernel) (Or.inr rfl)
theorem f199_1176 : zft 199 1176 = some (.iadd, 1) := fet B199 (by decide +kernel) (Or.inr rfl)
theorem f199_1177 : zft 199 1177 = some (.iaload, 1) := fet B199 (by decide +kernel) (Or.inr rfl)
theorem f199_1178 : zft 199 1178 = some (.aload_n 0, 1) := fet B199 (by decide +kernel) (Or.inr rfl)
theorem f199_1179 : zft 199 1179 = some (.iload_n 3, 1) := fet B199 (by decide +kernel) (Or.inr rfl)
theorem f199_1180 : zft 199 1180 = some (.iconst 2, 1) := fet B199 (by decide +kernel) (Or.inr rfl)
theorem f199_1181 : zft 199 1181 = some (.iadd, 1) := fet B199 (by decide +kernel) (Or.inr rfl)
theorem f199_1182 : zft 199 1182 = some (.iaload, 1) := fet B199 (by decide +kernel) (Or.inr rfl)
theorem f199_1183 : zft 199 1183 = some (.aload_n 0, 1) := fet B199 (by decide +kernel) (Or.inr rfl)
theorem f199_1184 : zft 199 1184 = some (.iload_n 3, 1) := fet B199 (by decide +kernel) (Or.inr rfl)
theorem f199_1185 : zft 199 1185 = some (.iconst 3, 1) := fet B199 (by decide +kernel) (Or.inr rfl)
theorem f199_1186 : zft 199 1186 = some (.iadd, 1) := fet B199 (by decide +kernel) (Or.inr rfl)
theorem f199_1187 : zft 199 1187 = some (.iaload, 1) := fet B199 (by decide +kernel) (Or.inr rfl)
theorem f199_1188 : zft 199 1188 = some (.aload_n 0, 1) := fet B199 (by decide +kernel) (Or.inr rfl)
theorem f199_1189 : zft 199 1189 = some (.iload_n 3, 1) := fet B199 (by decide +kernel) (Or.inr rfl)
theorem f199_1190 : zft 199 1190 = some (.iconst 4, 1) := fet B199 (by decide +kernel) (Or.inr rfl)
theorem f199_1191 : zft 199 1191 = some (.iadd, 1) := fet B199 (by decide +kernel) (Or.inr rfl)
theorem f199_1192 : zft 199 1192 = some (.iaload, 1) := fet B199 (by decide +kernel) (Or.inr rfl)
theorem f199_1193 : zft 199 1193 = some (.aload_n 0, 1) := fet B199 (by decide +kernel) (Or.inr rfl)
theorem f199_1194 : zft 199 1194 = some (.iload_n 3, 1) := fet B199 (by decide +kernel) (Or.inr rfl)
theorem f199_1195 : zft 199 1195 = some (.iconst 5, 1) := fet B199 (by decide +kernel) (Or.inr rfl)
theorem f199_1196 : zft 199 1196 = some (.iadd, 1) := fet B199 (by decide +kernel) (Or.inr rfl)
theorem f199_1197 : zft 199 1197 = some (.iaload, 1) := fet B199 (by decide +kernel) (Or.inr rfl)
theorem f199_1198 : zft 199 1198 = some (.invokevirtual 159, 3) := fet B199 (by decide +kernel) (Or.inr rfl)
theorem f199_1201 : zft 199 1201 = some (.if_icmp .eq 65, 3) := fet B199 (by decide +kernel) (Or.inr rfl)
theorem f199_1204 : zft 199 1204 = some (.iconst 0, 1) := fet B199 (by decide +kernel) (Or.inr rfl)
theorem f199_1205 : zft 199 1205 = some (.ireturn, 1) := fet B199 (by decide +kernel) (Or.inr rfl)
theorem f199_1206 : zft 199 1206 = some (.aload_n 1, 1) := fet B199 (by decide +kernel) (Or.inr rfl)
theorem f199_1207 : zft 199 1207 = some (.aload_n 0, 1) := fet B199 (by decide +kernel) (Or.inr rfl)
theorem f199_1208 : zft 199 1208 = some (.iload_n 3, 1) := fet B199 (by decide +kernel) (Or.inr rfl)
theorem f199_1209 : zft 199 1209 = some (.iconst 1, 1) := fet B199 (by decide +kernel) (Or.inr rfl)
theorem f199_1210 : zft 199 1210 = some (.iadd, 1) := fet B199 (by decide +kernel) (Or.inr rfl)
theorem f199_1211 : zft 199 1211 = some (.iaload, 1) := fet B199 (by decide +kernel) (Or.inr rfl)
theorem f199_1212 : zft 199 1212 = some (.invokevirtual 160, 3) := fet B199 (by decide +kernel) (Or.inr rfl)
theorem f199_1215 : zft 199 1215 = some (.aload_n 2, 1) := fet B199 (by decide +kernel) (Or.inr rfl)
theorem f199_1216 : zft 199 1216 = some (.aload_n 0, 1) := fet B199 (by decide +kernel) (Or.inr rfl)
theorem f199_1217 : zft 199 1217 = some (.iload_n 3, 1) := fet B199 (by decide +kernel) (Or.inr rfl)
theorem f199_1218 : zft 199 1218 = some (.iconst 1, 1) := fet B199 (by decide +kernel) (Or.inr rfl)
theorem f199_1219 : zft 199 1219 = some (.iadd, 1) := fet B199 (by decide +kernel) (Or.inr rfl)
theorem f199_1220 : zft 199 1220 = some (.iaload, 1) := fet B199 (by decide +kernel) (Or.inr rfl)
theorem f199_1221 : zft 199 1221 = some (.invokevirtual 163, 3) := fet B199 (by decide +kernel) (Or.inr rfl)
theorem f199_1224 : zft 199 1224 = some (.if_icmp .eq 42, 3) := fet B199 (by decide +kernel) (Or.inr rfl)
theorem f199_1227 : zft 199 1227 = some (.iconst 0, 1) := fet B199 (by decide +kernel) (Or.inr rfl)
theorem f199_1228 : zft 199 1228 = some (.ireturn, 1) := fet B199 (by decide +kernel) (Or.inr rfl)
theorem f199_1229 : zft 199 1229 = some (.aload_n 1, 1) := fet B199 (by decide +kernel) (Or.inr rfl)
theorem f199_1230 : zft 199 1230 = some (.aload_n 0, 1) := fet B199 (by decide +kernel) (Or.inr rfl)
theorem f199_1231 : zft 199 1231 = some (.iload_n 3, 1) := fet B199 (by decide +kernel) (Or.inr rfl)
theorem f199_1232 : zft 199 1232 = some (.iconst 1, 1) := fet B199 (by decide +kernel) (Or.inr rfl)
theorem f199_1233 : zft 199 1233 = some (.iadd, 1) := fet B199 (by decide +kernel) (Or.inr rfl)
theorem f199_1234 : zft 199 1234 = some (.iaload, 1) := fet B199 (by decide +kernel) (Or.inr rfl)
theorem f199_1235 : zft 199 1235 = some (.invokevirtual 164, 3) := fet B199 (by decide +kernel) (Or.inr rfl)
theorem f199_1238 : zft 199 1238 = some (.aload_n 2, 1) := fet B199 (by decide +kernel) (Or.inr rfl)
theorem f199_1239 : zft 199 1239 = some (.aload_n 0, 1) := fet B199 (by decide +kernel) (Or.inr rfl)
theorem f199_1240 : zft 199 1240 = some (.iload_n 3, 1) := fet B199 (by decide +kernel) (Or.inr rfl)
theorem f199_1241 : zft 199 1241 = some (.iconst 1, 1) := fet B199 (by decide +kernel) (Or.inr rfl)
theorem f199_1242 : zft 199 1242 = some (.iadd, 1) := fet B199 (by decide +kernel) (Or.inr rfl)
theorem f199_1243 : zft 199 1243 = some (.iaload, 1) := fet B199 (by decide +kernel) (Or.inr rfl)
theorem f199_1244 : zft 199 1244 = some (.invokevirtual 167, 3) := fet B199 (by decide +kernel) (Or.inr rfl)
theorem f199_1247 : zft 199 1247 = some (.if_icmp .eq 19, 3) := fet B199 (by decide +kernel) (Or.inr rfl)
theorem f199_1250 : zft 199 1250 = some (.iconst 0, 1) := fet B199 (by decide +kernel) (Or.inr rfl)
theorem f199_1251 : zft 199 1251 = some (.ireturn, 1) := fet B199 (by decide +kernel) (Or.inr rfl)
theorem f199_1252 : zft 199 1252 = some (.aload_n 1, 1) := fet B199 (by decide +kernel) (Or.inr rfl)
theorem f199_1253 : zft 199 1253 = some (.invokevirtual 168, 3) := fet B199 (by decide +kernel) (Or.inr rfl)
theorem f199_1256 : zft 199 1256 = some (.aload_n 2, 1) := fet B199 (by decide +kernel) (Or.inr rfl)
theorem f199_1257 : zft 199 1257 = some (.invokevirtual 172, 3) := fet B199 (by decide +kernel) (Or.inr rfl)
theorem f199_1260 : zft 199 1260 = some (.lcmp, 1) := fet B199 (by decide +kernel) (Or.inr rfl)
theorem f199_1261 : zft 199 1261 = some (.ifCond .eq 5, 3) := fet B199 (by decide +kernel) (Or.inr rfl)
theorem f199_1264 : zft 199 1264 = some (.iconst 0, 1) := fet B199 (by decide +kernel) (Or.inr rfl)
theorem f199_1265 : zft 199 1265 = some (.ireturn, 1) := fet B199 (by decide +kernel) (Or.inr rfl)
theorem f199_1266 : zft 199 1266 = some (.iinc 3 6, 3) := fet B199 (by decide +kernel) (Or.inr rfl)
theorem f199_1269 : zft 199 1269 = some (.goto (-1251), 3) := fet B199 (by decide +kernel) (Or.inr rfl)
theorem f199_1272 : zft 199 1272 = some (.iconst 1, 1) := fet B199 (by decide +kernel) (Or.inr rfl)
theorem f199_1273 : zft 199 1273 = some (.ireturn, 1) := fet B199 (by decide +kernel) (Or.inr rfl)
theorem x199_3i : Rn S 199 3 [v0, v1, v2, v3] (.int a :: st) I J Q = Rn S 199 4 [v0, v1, v2, v3] (.int a :: .int a :: st) I J Q := rS f199_3 rfl
theorem x199_3r : Rn S 199 3 [v0, v1, v2, v3] (.ref q :: st) I J Q = Rn S 199 4 [v0, v1, v2, v3] (.ref q :: .ref q :: st) I J Q := rS f199_3 rfl
theorem x199_7 : Rn S 199 7 [v0, v1, v2, v3] (.ref q :: st) I J Q = Rn S 199 8 [zkl v0, .ref q, v2, v3] st I J Q := rL f199_7 rfl rfl
theorem x199_11i : Rn S 199 11 [v0, v1, v2, v3] (.int a :: st) I J Q = Rn S 199 12 [v0, v1, v2, v3] (.int a :: .int a :: st) I J Q := rS f199_11 rfl
theorem x199_11r : Rn S 199 11 [v0, v1, v2, v3] (.ref q :: st) I J Q = Rn S 199 12 [v0, v1, v2, v3] (.ref q :: .ref q :: st) I J Q := rS f199_11 rfl
theorem x199_15 : Rn S 199 15 [v0, v1, v2, v3] (.ref q :: st) I J Q = Rn S 199 16 [v0, zkl v1, .ref q, v3] st I J Q := rL f199_15 rfl rfl
theorem x199_16 : Rn S 199 16 [v0, v1, v2, v3] st I J Q = Rn S 199 17 [v0, v1, v2, v3] (.int 0 :: st) I J Q := rS f199_16 rfl
theorem x199_17 : Rn S 199 17 [v0, v1, v2, v3] (.int a :: st) I J Q = Rn S 199 18 [v0, v1, zkl v2, .int a] st I J Q := rL f199_17 rfl rfl
theorem h199_18 : Rn S 199 18 [v0, v1, v2, .int a] st I J Q = Rn S 199 19 [v0, v1, v2, .int a] (.int a :: st) I J Q := rL f199_18 rfl rfl
theorem x199_19 : Rn S 199 19 [.ref q, v1, v2, v3] st I J Q = Rn S 199 20 [.ref q, v1, v2, v3] (.ref q :: st) I J Q := rL f199_19 rfl rfl
theorem x199_20 : Rn S 199 20 [v0, v1, v2, v3] (.ref q :: st) I J Q = (¬ zkd S q = 99 ∧ Rn S 199 21 [v0, v1, v2, v3] (.int (Int32.ofNat (zln S q)) :: st) I J Q) := rAln f199_20
theorem x199_21 : Rn S 199 21 [v0, v1, v2, v3] st I J Q = Rn S 199 23 [v0, v1, v2, v3] (.int 6 :: st) I J Q := rS f199_21 rfl
theorem x199_23 : Rn S 199 23 [v0, v1, v2, v3] (.int b :: .int a :: st) I J Q = Rn S 199 24 [v0, v1, v2, v3] (.int (a - b) :: st) I J Q := rS f199_23 rfl
theorem x199_24 : Rn S 199 24 [v0, v1, v2, v3] (.int b :: .int a :: st) I J Q = if b < a then Rn S 199 1272 [v0, v1, v2, v3] st I J Q else Rn S 199 27 [v0, v1, v2, v3] st I J Q := rCgt f199_24 rfl rfl
theorem x199_27 : Rn S 199 27 [.ref q, v1, v2, v3] st I J Q = Rn S 199 28 [.ref q, v1, v2, v3] (.ref q :: st) I J Q := rL f199_27 rfl rfl
theorem x199_28 : Rn S 199 28 [v0, v1, v2, .int a] st I J Q = Rn S 199 29 [v0, v1, v2, .int a] (.int a :: st) I J Q := rL f199_28 rfl rfl
theorem x199_29 : Rn S 199 29 [v0, v1, v2, v3] (.int a :: .ref q :: st) I J Q = (zai S q a ∧ Rn S 199 30 [v0, v1, v2, v3] (.int (I q a.toNatClampNeg) :: st) I J Q) := rIal f199_29
theorem x199_30 : Rn S 199 30 [v0, v1, v2, v3] st I J Q = Rn S 199 32 [v0, v1, v2, v3] (.int 63 :: st) I J Q := rS f199_30 rfl
theorem x199_32 : Rn S 199 32 [v0, v1, v2, v3] (.int b :: .int a :: st) I J Q = Rn S 199 33 [v0, v1, v2, v3] (.int (a &&& b) :: st) I J Q := rS f199_32 rfl
theorem x199_33 : Rn S 199 33 [v0, v1, v2, v3] (.int a :: st) I J Q = Rn S 199 (ztb 1266 a [200, 233, 256, 279, 302, 335, 368, 401, 424, 467, 480, 503, 536, 569, 602, 625, 638, 651, 674, 697, 710, 733, 756, 799, 812, 825, 848, 871, 894, 938, 981, 1024, 1047, 1100, 1143, 1206, 1229, 1252] 0) [v0, v1, v2, v3] st I J Q := rTb f199_33 rfl (by decide +kernel) (by decide +kernel)
theorem x199_200 : Rn S 199 200 [v0, .ref q, v2, v3] st I J Q = Rn S 199 201 [v0, .ref q, v2, v3] (.ref q :: st) I J Q := rL f199_200 rfl rfl
theorem x199_201 : Rn S 199 201 [.ref q, v1, v2, v3] st I J Q = Rn S 199 202 [.ref q, v1, v2, v3] (.ref q :: st) I J Q := rL f199_201 rfl rfl
theorem x199_202 : Rn S 199 202 [v0, v1, v2, .int a] st I J Q = Rn S 199 203 [v0, v1, v2, .int a] (.int a :: st) I J Q := rL f199_202 rfl rfl
theorem x199_203 : Rn S 199 203 [v0, v1, v2, v3] st I J Q = Rn S 199 204 [v0, v1, v2, v3] (.int 1 :: st) I J Q := rS f199_203 rfl
theorem x199_204 : Rn S 199 204 [v0, v1, v2, v3] (.int b :: .int a :: st) I J Q = Rn S 199 205 [v0, v1, v2, v3] (.int (a + b) :: st) I J Q := rS f199_204 rfl
theorem x199_205 : Rn S 199 205 [v0, v1, v2, v3] (.int a :: .ref q :: st) I J Q = (zai S q a ∧ Rn S 199 206 [v0, v1, v2, v3] (.int (I q a.toNatClampNeg) :: st) I J Q) := rIal f199_205
theorem x199_206 : Rn S 199 206 [.ref q, v1, v2, v3] st I J Q = Rn S 199 207 [.ref q, v1, v2, v3] (.ref q :: st) I J Q := rL f199_206 rfl rfl
theorem x199_207 : Rn S 199 207 [v0, v1, v2, .int a] st I J Q = Rn S 199 208 [v0, v1, v2, .int a] (.int a :: st) I J Q := rL f199_207 rfl rfl
theorem x199_208 : Rn S 199 208 [v0, v1, v2, v3] st I J Q = Rn S 199 209 [v0, v1, v2, v3] (.int 2 :: st) I J Q := rS f199_208 rfl
theorem x199_209 : Rn S 199 209 [v0, v1, v2, v3] (.int b :: .int a :: st) I J Q = Rn S 199 210 [v0, v1, v2, v3] (.int (a + b) :: st) I J Q := rS f199_209 rfl
theorem x199_210 : Rn S 199 210 [v0, v1, v2, v3] (.int a :: .ref q :: st) I J Q = (zai S q a ∧ Rn S 199 211 [v0, v1, v2, v3] (.int (I q a.toNatClampNeg) :: st) I J Q) := rIal f199_210
theorem x199_211 : Rn S 199 211 [v0, v1, v2, v3] (.int a1 :: .int a0 :: .ref q :: st) I J Q = ((zcls S q = 5 ∧ zcs st ≤ 8) ∧ Rn S 37 0 [.ref q, .int a0, .int a1, .null] [] I J (fun v I' J' => Rn S 199 214 [v0, v1, v2, v3] (v.toList ++ st) I' J' Q)) := rCV (As := [.int a0, .int a1]) f199_211 rfl rfl rfl rfl (Nat.le_of_ble_eq_true rfl)
theorem x199_214 : Rn S 199 214 [v0, v1, .ref q, v3] st I J Q = Rn S 199 215 [v0, v1, .ref q, v3] (.ref q :: st) I J Q := rL f199_214 rfl rfl
theorem x199_215 : Rn S 199 215 [.ref q, v1, v2, v3] st I J Q = Rn S 199 216 [.ref q, v1, v2, v3] (.ref q :: st) I J Q := rL f199_215 rfl rfl
theorem x199_216 : Rn S 199 216 [v0, v1, v2, .int a] st I J Q = Rn S 199 217 [v0, v1, v2, .int a] (.int a :: st) I J Q := rL f199_216 rfl rfl
theorem x199_217 : Rn S 199 217 [v0, v1, v2, v3] st I J Q = Rn S 199 218 [v0, v1, v2, v3] (.int 1 :: st) I J Q := rS f199_217 rfl
theorem x199_218 : Rn S 199 218 [v0, v1, v2, v3] (.int b :: .int a :: st) I J Q = Rn S 199 219 [v0, v1, v2, v3] (.int (a + b) :: st) I J Q := rS f199_218 rfl
theorem x199_219 : Rn S 199 219 [v0, v1, v2, v3] (.int a :: .ref q :: st) I J Q = (zai S q a ∧ Rn S 199 220 [v0, v1, v2, v3] (.int (I q a.toNatClampNeg) :: st) I J Q) := rIal f199_219
theorem x199_220 : Rn S 199 220 [.ref q, v1, v2, v3] st I J Q = Rn S 199 221 [.ref q, v1, v2, v3] (.ref q :: st) I J Q := rL f199_220 rfl rfl
theorem x199_221 : Rn S 199 221 [v0, v1, v2, .int a] st I J Q = Rn S 199 222 [v0, v1, v2, .int a] (.int a :: st) I J Q := rL f199_221 rfl rfl
theorem x199_222 : Rn S 199 222 [v0, v1, v2, v3] st I J Q = Rn S 199 223 [v0, v1, v2, v3] (.int 2 :: st) I J Q := rS f199_222 rfl
theorem x199_223 : Rn S 199 223 [v0, v1, v2, v3] (.int b :: .int a :: st) I J Q = Rn S 199 224 [v0, v1, v2, v3] (.int (a + b) :: st) I J Q := rS f199_223 rfl
theorem x199_224 : Rn S 199 224 [v0, v1, v2, v3] (.int a :: .ref q :: st) I J Q = (zai S q a ∧ Rn S 199 225 [v0, v1, v2, v3] (.int (I q a.toNatClampNeg) :: st) I J Q) := rIal f199_224
theorem x199_225 : Rn S 199 225 [v0, v1, v2, v3] (.int a1 :: .int a0 :: .ref q :: st) I J Q = ((zcls S q = 6 ∧ zcs st ≤ 8) ∧ Rn S 114 0 [.ref q, .int a0, .int a1] [] I J (fun v I' J' => Rn S 199 228 [v0, v1, v2, v3] (v.toList ++ st) I' J' Q)) := rCV (As := [.int a0, .int a1]) f199_225 rfl rfl rfl rfl (Nat.le_of_ble_eq_true rfl)
theorem x199_228 : Rn S 199 228 [v0, v1, v2, v3] (.int b :: .int a :: st) I J Q = if a = b then Rn S 199 1266 [v0, v1, v2, v3] st I J Q else Rn S 199 231 [v0, v1, v2, v3] st I J Q := rCeq f199_228 rfl rfl
theorem x199_231 : Rn S 199 231 [v0, v1, v2, v3] st I J Q = Rn S 199 232 [v0, v1, v2, v3] (.int 0 :: st) I J Q := rS f199_231 rfl
theorem x199_232 : Rn S 199 232 [v0, v1, v2, v3] [.int a] I J Q = ((a = 0 ∨ a = 1) ∧ Q (some (.int a)) I J) := rRZ f199_232 (Or.inl rfl)
theorem x199_233 : Rn S 199 233 [v0, .ref q, v2, v3] st I J Q = Rn S 199 234 [v0, .ref q, v2, v3] (.ref q :: st) I J Q := rL f199_233 rfl rfl
theorem x199_234 : Rn S 199 234 [.ref q, v1, v2, v3] st I J Q = Rn S 199 235 [.ref q, v1, v2, v3] (.ref q :: st) I J Q := rL f199_234 rfl rfl
theorem x199_235 : Rn S 199 235 [v0, v1, v2, .int a] st I J Q = Rn S 199 236 [v0, v1, v2, .int a] (.int a :: st) I J Q := rL f199_235 rfl rfl
theorem x199_236 : Rn S 199 236 [v0, v1, v2, v3] st I J Q = Rn S 199 237 [v0, v1, v2, v3] (.int 1 :: st) I J Q := rS f199_236 rfl
theorem x199_237 : Rn S 199 237 [v0, v1, v2, v3] (.int b :: .int a :: st) I J Q = Rn S 199 238 [v0, v1, v2, v3] (.int (a + b) :: st) I J Q := rS f199_237 rfl
theorem x199_238 : Rn S 199 238 [v0, v1, v2, v3] (.int a :: .ref q :: st) I J Q = (zai S q a ∧ Rn S 199 239 [v0, v1, v2, v3] (.int (I q a.toNatClampNeg) :: st) I J Q) := rIal f199_238
theorem x199_239 : Rn S 199 239 [v0, v1, v2, v3] (.int a0 :: .ref q :: st) I J Q = ((zcls S q = 5 ∧ zcs st ≤ 8) ∧ Rn S 38 0 [.ref q, .int a0, .null] [] I J (fun v I' J' => Rn S 199 242 [v0, v1, v2, v3] (v.toList ++ st) I' J' Q)) := rCV (As := [.int a0]) f199_239 rfl rfl rfl rfl (Nat.le_of_ble_eq_true rfl)
theorem x199_242 : Rn S 199 242 [v0, v1, .ref q, v3] st I J Q = Rn S 199 243 [v0, v1, .ref q, v3] (.ref q :: st) I J Q := rL f199_242 rfl rfl
theorem x199_243 : Rn S 199 243 [.ref q, v1, v2, v3] st I J Q = Rn S 199 244 [.ref q, v1, v2, v3] (.ref q :: st) I J Q := rL f199_243 rfl rfl
theorem x199_244 : Rn S 199 244 [v0, v1, v2, .int a] st I J Q = Rn S 199 245 [v0, v1, v2, .int a] (.int a :: st) I J Q := rL f199_244 rfl rfl
theorem x199_245 : Rn S 199 245 [v0, v1, v2, v3] st I J Q = Rn S 199 246 [v0, v1, v2, v3] (.int 1 :: st) I J Q := rS f199_245 rfl
theorem x199_246 : Rn S 199 246 [v0, v1, v2, v3] (.int b :: .int a :: st) I J Q = Rn S 199 247 [v0, v1, v2, v3] (.int (a + b) :: st) I J Q := rS f199_246 rfl
theorem x199_247 : Rn S 199 247 [v0, v1, v2, v3] (.int a :: .ref q :: st) I J Q = (zai S q a ∧ Rn S 199 248 [v0, v1, v2, v3] (.int (I q a.toNatClampNeg) :: st) I J Q) := rIal f199_247
theorem x199_248 : Rn S 199 248 [v0, v1, v2, v3] (.int a0 :: .ref q :: st) I J Q = ((zcls S q = 6 ∧ zcs st ≤ 8) ∧ Rn S 115 0 [.ref q, .int a0, .null] [] I J (fun v I' J' => Rn S 199 251 [v0, v1, v2, v3] (v.toList ++ st) I' J' Q)) := rCV (As := [.int a0]) f199_248 rfl rfl rfl rfl (Nat.le_of_ble_eq_true rfl)
theorem x199_251 : Rn S 199 251 [v0, v1, v2, v3] (.int b :: .int a :: st) I J Q = if a = b then Rn S 199 1266 [v0, v1, v2, v3] st I J Q else Rn S 199 254 [v0, v1, v2, v3] st I J Q := rCeq f199_251 rfl rfl
theorem x199_254 : Rn S 199 254 [v0, v1, v2, v3] st I J Q = Rn S 199 255 [v0, v1, v2, v3] (.int 0 :: st) I J Q := rS f199_254 rfl
theorem x199_255 : Rn S 199 255 [v0, v1, v2, v3] [.int a] I J Q = ((a = 0 ∨ a = 1) ∧ Q (some (.int a)) I J) := rRZ f199_255 (Or.inl rfl)
theorem x199_256 : Rn S 199 256 [v0, .ref q, v2, v3] st I J Q = Rn S 199 257 [v0, .ref q, v2, v3] (.ref q :: st) I J Q := rL f199_256 rfl rfl
theorem x199_257 : Rn S 199 257 [.ref q, v1, v2, v3] st I J Q = Rn S 199 258 [.ref q, v1, v2, v3] (.ref q :: st) I J Q := rL f199_257 rfl rfl
theorem x199_258 : Rn S 199 258 [v0, v1, v2, .int a] st I J Q = Rn S 199 259 [v0, v1, v2, .int a] (.int a :: st) I J Q := rL f199_258 rfl rfl
theorem x199_259 : Rn S 199 259 [v0, v1, v2, v3] st I J Q = Rn S 199 260 [v0, v1, v2, v3] (.int 1 :: st) I J Q := rS f199_259 rfl
theorem x199_260 : Rn S 199 260 [v0, v1, v2, v3] (.int b :: .int a :: st) I J Q = Rn S 199 261 [v0, v1, v2, v3] (.int (a + b) :: st) I J Q := rS f199_260 rfl
theorem x199_261 : Rn S 199 261 [v0, v1, v2, v3] (.int a :: .ref q :: st) I J Q = (zai S q a ∧ Rn S 199 262 [v0, v1, v2, v3] (.int (I q a.toNatClampNeg) :: st) I J Q) := rIal f199_261
theorem x199_262 : Rn S 199 262 [v0, v1, v2, v3] (.int a0 :: .ref q :: st) I J Q = ((zcls S q = 5 ∧ zcs st ≤ 8) ∧ Rn S 39 0 [.ref q, .int a0, .null] [] I J (fun v I' J' => Rn S 199 265 [v0, v1, v2, v3] (v.toList ++ st) I' J' Q)) := rCV (As := [.int a0]) f199_262 rfl rfl rfl rfl (Nat.le_of_ble_eq_true rfl)
theorem x199_265 : Rn S 199 265 [v0, v1, .ref q, v3] st I J Q = Rn S 199 266 [v0, v1, .ref q, v3] (.ref q :: st) I J Q := rL f199_265 rfl rfl
theorem x199_266 : Rn S 199 266 [.ref q, v1, v2, v3] st I J Q = Rn S 199 267 [.ref q, v1, v2, v3] (.ref q :: st) I J Q := rL f199_266 rfl rfl
theorem x199_267 : Rn S 199 267 [v0, v1, v2, .int a] st I J Q = Rn S 199 268 [v0, v1, v2, .int a] (.int a :: st) I J Q := rL f199_267 rfl rfl
theorem x199_268 : Rn S 199 268 [v0, v1, v2, v3] st I J Q = Rn S 199 269 [v0, v1, v2, v3] (.int 1 :: st) I J Q := rS f199_268 rfl
theorem x199_269 : Rn S 199 269 [v0, v1, v2, v3] (.int b :: .int a :: st) I J Q = Rn S 199 270 [v0, v1, v2, v3] (.int (a + b) :: st) I J Q := rS f199_269 rfl
theorem x199_270 : Rn S 199 270 [v0, v1, v2, v3] (.int a :: .ref q :: st) I J Q = (zai S q a ∧ Rn S 199 271 [v0, v1, v2, v3] (.int (I q a.toNatClampNeg) :: st) I J Q) := rIal f199_270
theorem x199_271 : Rn S 199 271 [v0, v1, v2, v3] (.int a0 :: .ref q :: st) I J Q = ((zcls S q = 6 ∧ zcs st ≤ 8) ∧ Rn S 116 0 [.ref q, .int a0] [] I J (fun v I' J' => Rn S 199 274 [v0, v1, v2, v3] (v.toList ++ st) I' J' Q)) := rCV (As := [.int a0]) f199_271 rfl rfl rfl rfl (Nat.le_of_ble_eq_true rfl)
theorem x199_274 : Rn S 199 274 [v0, v1, v2, v3] (.int b :: .int a :: st) I J Q = if a = b then Rn S 199 1266 [v0, v1, v2, v3] st I J Q else Rn S 199 277 [v0, v1, v2, v3] st I J Q := rCeq f199_274 rfl rfl
theorem x199_277 : Rn S 199 277 [v0, v1, v2, v3] st I J Q = Rn S 199 278 [v0, v1, v2, v3] (.int 0 :: st) I J Q := rS f199_277 rfl
theorem x199_278 : Rn S 199 278 [v0, v1, v2, v3] [.int a] I J Q = ((a = 0 ∨ a = 1) ∧ Q (some (.int a)) I J) := rRZ f199_278 (Or.inl rfl)
theorem x199_279 : Rn S 199 279 [v0, .ref q, v2, v3] st I J Q = Rn S 199 280 [v0, .ref q, v2, v3] (.ref q :: st) I J Q := rL f199_279 rfl rfl
theorem x199_280 : Rn S 199 280 [.ref q, v1, v2, v3] st I J Q = Rn S 199 281 [.ref q, v1, v2, v3] (.ref q :: st) I J Q := rL f199_280 rfl rfl
theorem x199_281 : Rn S 199 281 [v0, v1, v2, .int a] st I J Q = Rn S 199 282 [v0, v1, v2, .int a] (.int a :: st) I J Q := rL f199_281 rfl rfl
theorem x199_282 : Rn S 199 282 [v0, v1, v2, v3] st I J Q = Rn S 199 283 [v0, v1, v2, v3] (.int 1 :: st) I J Q := rS f199_282 rfl
theorem x199_283 : Rn S 199 283 [v0, v1, v2, v3] (.int b :: .int a :: st) I J Q = Rn S 199 284 [v0, v1, v2, v3] (.int (a + b) :: st) I J Q := rS f199_283 rfl
theorem x199_284 : Rn S 199 284 [v0, v1, v2, v3] (.int a :: .ref q :: st) I J Q = (zai S q a ∧ Rn S 199 285 [v0, v1, v2, v3] (.int (I q a.toNatClampNeg) :: st) I J Q) := rIal f199_284
theorem x199_285 : Rn S 199 285 [v0, v1, v2, v3] (.int a0 :: .ref q :: st) I J Q = ((zcls S q = 5 ∧ zcs st ≤ 8) ∧ Rn S 40 0 [.ref q, .int a0] [] I J (fun v I' J' => Rn S 199 288 [v0, v1, v2, v3] (v.toList ++ st) I' J' Q)) := rCV (As := [.int a0]) f199_285 rfl rfl rfl rfl (Nat.le_of_ble_eq_true rfl)
theorem x199_288 : Rn S 199 288 [v0, v1, .ref q, v3] st I J Q = Rn S 199 289 [v0, v1, .ref q, v3] (.ref q :: st) I J Q := rL f199_288 rfl rfl
theorem x199_289 : Rn S 199 289 [.ref q, v1, v2, v3] st I J Q = Rn S 199 290 [.ref q, v1, v2, v3] (.ref q :: st) I J Q := rL f199_289 rfl rfl
theorem x199_290 : Rn S 199 290 [v0, v1, v2, .int a] st I J Q = Rn S 199 291 [v0, v1, v2, .int a] (.int a :: st) I J Q := rL f199_290 rfl rfl
theorem x199_291 : Rn S 199 291 [v0, v1, v2, v3] st I J Q = Rn S 199 292 [v0, v1, v2, v3] (.int 1 :: st) I J Q := rS f199_291 rfl
theorem x199_292 : Rn S 199 292 [v0, v1, v2, v3] (.int b :: .int a :: st) I J Q = Rn S 199 293 [v0, v1, v2, v3] (.int (a + b) :: st) I J Q := rS f199_292 rfl
theorem x199_293 : Rn S 199 293 [v0, v1, v2, v3] (.int a :: .ref q :: st) I J Q = (zai S q a ∧ Rn S 199 294 [v0, v1, v2, v3] (.int (I q a.toNatClampNeg) :: st) I J Q) := rIal f199_293
theorem x199_294 : Rn S 199 294 [v0, v1, v2, v3] (.int a0 :: .ref q :: st) I J Q = ((zcls S q = 6 ∧ zcs st ≤ 8) ∧ Rn S 125 0 [.ref q, .int a0] [] I J (fun v I' J' => Rn S 199 297 [v0, v1, v2, v3] (v.toList ++ st) I' J' Q)) := rCV (As := [.int a0]) f199_294 rfl rfl rfl rfl (Nat.le_of_ble_eq_true rfl)
theorem x199_297 : Rn S 199 297 [v0, v1, v2, v3] (.int b :: .int a :: st) I J Q = if a = b then Rn S 199 1266 [v0, v1, v2, v3] st I J Q else Rn S 199 300 [v0, v1, v2, v3] st I J Q := rCeq f199_297 rfl rfl
theorem x199_300 : Rn S 199 300 [v0, v1, v2, v3] st I J Q = Rn S 199 301 [v0, v1, v2, v3] (.int 0 :: st) I J Q := rS f199_300 rfl
theorem x199_301 : Rn S 199 301 [v0, v1, v2, v3] [.int a] I J Q = ((a = 0 ∨ a = 1) ∧ Q (some (.int a)) I J) := rRZ f199_301 (Or.inl rfl)
theorem x199_302 : Rn S 199 302 [v0, .ref q, v2, v3] st I J Q = Rn S 199 303 [v0, .ref q, v2, v3] (.ref q :: st) I J Q := rL f199_302 rfl rfl
theorem x199_303 : Rn S 199 303 [.ref q, v1, v2, v3] st I J Q = Rn S 199 304 [.ref q, v1, v2, v3] (.ref q :: st) I J Q := rL f199_303 rfl rfl
theorem x199_304 : Rn S 199 304 [v0, v1, v2, .int a] st I J Q = Rn S 199 305 [v0, v1, v2, .int a] (.int a :: st) I J Q := rL f199_304 rfl rfl
theorem x199_305 : Rn S 199 305 [v0, v1, v2, v3] st I J Q = Rn S 199 306 [v0, v1, v2, v3] (.int 1 :: st) I J Q := rS f199_305 rfl
theorem x199_306 : Rn S 199 306 [v0, v1, v2, v3] (.int b :: .int a :: st) I J Q = Rn S 199 307 [v0, v1, v2, v3] (.int (a + b) :: st) I J Q := rS f199_306 rfl
theorem x199_307 : Rn S 199 307 [v0, v1, v2, v3] (.int a :: .ref q :: st) I J Q = (zai S q a ∧ Rn S 199 308 [v0, v1, v2, v3] (.int (I q a.toNatClampNeg) :: st) I J Q) := rIal f199_307
theorem x199_308 : Rn S 199 308 [.ref q, v1, v2, v3] st I J Q = Rn S 199 309 [.ref q, v1, v2, v3] (.ref q :: st) I J Q := rL f199_308 rfl rfl
theorem x199_309 : Rn S 199 309 [v0, v1, v2, .int a] st I J Q = Rn S 199 310 [v0, v1, v2, .int a] (.int a :: st) I J Q := rL f199_309 rfl rfl
theorem x199_310 : Rn S 199 310 [v0, v1, v2, v3] st I J Q = Rn S 199 311 [v0, v1, v2, v3] (.int 2 :: st) I J Q := rS f199_310 rfl
theorem x199_311 : Rn S 199 311 [v0, v1, v2, v3] (.int b :: .int a :: st) I J Q = Rn S 199 312 [v0, v1, v2, v3] (.int (a + b) :: st) I J Q := rS f199_311 rfl
theorem x199_312 : Rn S 199 312 [v0, v1, v2, v3] (.int a :: .ref q :: st) I J Q = (zai S q a ∧ Rn S 199 313 [v0, v1, v2, v3] (.int (I q a.toNatClampNeg) :: st) I J Q) := rIal f199_312
theorem x199_313 : Rn S 199 313 [v0, v1, v2, v3] (.int a1 :: .int a0 :: .ref q :: st) I J Q = ((zcls S q = 5 ∧ zcs st ≤ 8) ∧ Rn S 41 0 [.ref q, .int a0, .int a1, .null] [] I J (fun v I' J' => Rn S 199 316 [v0, v1, v2, v3] (v.toList ++ st) I' J' Q)) := rCV (As := [.int a0, .int a1]) f199_313 rfl rfl rfl rfl (Nat.le_of_ble_eq_true rfl)
theorem x199_316 : Rn S 199 316 [v0, v1, .ref q, v3] st I J Q = Rn S 199 317 [v0, v1, .ref q, v3] (.ref q :: st) I J Q := rL f199_316 rfl rfl
theorem x199_317 : Rn S 199 317 [.ref q, v1, v2, v3] st I J Q = Rn S 199 318 [.ref q, v1, v2, v3] (.ref q :: st) I J Q := rL f199_317 rfl rfl
theorem x199_318 : Rn S 199 318 [v0, v1, v2, .int a] st I J Q = Rn S 199 319 [v0, v1, v2, .int a] (.int a :: st) I J Q := rL f199_318 rfl rfl
theorem x199_319 : Rn S 199 319 [v0, v1, v2, v3] st I J Q = Rn S 199 320 [v0, v1, v2, v3] (.int 1 :: st) I J Q := rS f199_319 rfl
theorem x199_320 : Rn S 199 320 [v0, v1, v2, v3] (.int b :: .int a :: st) I J Q = Rn S 199 321 [v0, v1, v2, v3] (.int (a + b) :: st) I J Q := rS f199_320 rfl
theorem x199_321 : Rn S 199 321 [v0, v1, v2, v3] (.int a :: .ref q :: st) I J Q = (zai S q a ∧ Rn S 199 322 [v0, v1, v2, v3] (.int (I q a.toNatClampNeg) :: st) I J Q) := rIal f199_321
theorem x199_322 : Rn S 199 322 [.ref q, v1, v2, v3] st I J Q = Rn S 199 323 [.ref q, v1, v2, v3] (.ref q :: st) I J Q := rL f199_322 rfl rfl
theorem x199_323 : Rn S 199 323 [v0, v1, v2, .int a] st I J Q = Rn S 199 324 [v0, v1, v2, .int a] (.int a :: st) I J Q := rL f199_323 rfl rfl
theorem x199_324 : Rn S 199 324 [v0, v1, v2, v3] st I J Q = Rn S 199 325 [v0, v1, v2, v3] (.int 2 :: st) I J Q := rS f199_324 rfl
theorem x199_325 : Rn S 199 325 [v0, v1, v2, v3] (.int b :: .int a :: st) I J Q = Rn S 199 326 [v0, v1, v2, v3] (.int (a + b) :: st) I J Q := rS f199_325 rfl
theorem x199_326 : Rn S 199 326 [v0, v1, v2, v3] (.int a :: .ref q :: st) I J Q = (zai S q a ∧ Rn S 199 327 [v0, v1, v2, v3] (.int (I q a.toNatClampNeg) :: st) I J Q) := rIal f199_326
theorem x199_327 : Rn S 199 327 [v0, v1, v2, v3] (.int a1 :: .int a0 :: .ref q :: st) I J Q = ((zcls S q = 6 ∧ zcs st ≤ 8) ∧ Rn S 130 0 [.ref q, .int a0, .int a1] [] I J (fun v I' J' => Rn S 199 330 [v0, v1, v2, v3] (v.toList ++ st) I' J' Q)) := rCV (As := [.int a0, .int a1]) f199_327 rfl rfl rfl rfl (Nat.le_of_ble_eq_true rfl)
theorem x199_330 : Rn S 199 330 [v0, v1, v2, v3] (.int b :: .int a :: st) I J Q = if a = b then Rn S 199 1266 [v0, v1, v2, v3] st I J Q else Rn S 199 333 [v0, v1, v2, v3] st I J Q := rCeq f199_330 rfl rfl
theorem x199_333 : Rn S 199 333 [v0, v1, v2, v3] st I J Q = Rn S 199 334 [v0, v1, v2, v3] (.int 0 :: st) I J Q := rS f199_333 rfl
theorem x199_334 : Rn S 199 334 [v0, v1, v2, v3] [.int a] I J Q = ((a = 0 ∨ a = 1) ∧ Q (some (.int a)) I J) := rRZ f199_334 (Or.inl rfl)
theorem x199_335 : Rn S 199 335 [v0, .ref q, v2, v3] st I J Q = Rn S 199 336 [v0, .ref q, v2, v3] (.ref q :: st) I J Q := rL f199_335 rfl rfl
theorem x199_336 : Rn S 199 336 [.ref q, v1, v2, v3] st I J Q = Rn S 199 337 [.ref q, v1, v2, v3] (.ref q :: st) I J Q := rL f199_336 rfl rfl
theorem x199_337 : Rn S 199 337 [v0, v1, v2, .int a] st I J Q = Rn S 199 338 [v0, v1, v2, .int a] (.int a :: st) I J Q := rL f199_337 rfl rfl
theorem x199_338 : Rn S 199 338 [v0, v1, v2, v3] st I J Q = Rn S 199 339 [v0, v1, v2, v3] (.int 1 :: st) I J Q := rS f199_338 rfl
theorem x199_339 : Rn S 199 339 [v0, v1, v2, v3] (.int b :: .int a :: st) I J Q = Rn S 199 340 [v0, v1, v2, v3] (.int (a + b) :: st) I J Q := rS f199_339 rfl
theorem x199_340 : Rn S 199 340 [v0, v1, v2, v3] (.int a :: .ref q :: st) I J Q = (zai S q a ∧ Rn S 199 341 [v0, v1, v2, v3] (.int (I q a.toNatClampNeg) :: st) I J Q) := rIal f199_340
theorem x199_341 : Rn S 199 341 [.ref q, v1, v2, v3] st I J Q = Rn S 199 342 [.ref q, v1, v2, v3] (.ref q :: st) I J Q := rL f199_341 rfl rfl
theorem x199_342 : Rn S 199 342 [v0, v1, v2, .int a] st I J Q = Rn S 199 343 [v0, v1, v2, .int a] (.int a :: st) I J Q := rL f199_342 rfl rfl
theorem x199_343 : Rn S 199 343 [v0, v1, v2, v3] st I J Q = Rn S 199 344 [v0, v1, v2, v3] (.int 2 :: st) I J Q := rS f199_343 rfl
theorem x199_344 : Rn S 199 344 [v0, v1, v2, v3] (.int b :: .int a :: st) I J Q = Rn S 199 345 [v0, v1, v2, v3] (.int (a + b) :: st) I J Q := rS f199_344 rfl
theorem x199_345 : Rn S 199 345 [v0, v1, v2, v3] (.int a :: .ref q :: st) I J Q = (zai S q a ∧ Rn S 199 346 [v0, v1, v2, v3] (.int (I q a.toNatClampNeg) :: st) I J Q) := rIal f199_345
theorem x199_346 : Rn S 199 346 [v0, v1, v2, v3] (.int a1 :: .int a0 :: .ref q :: st) I J Q = ((zcls S q = 5 ∧ zcs st ≤ 8) ∧ Rn S 42 0 [.ref q, .int a0, .int a1] [] I J (fun v I' J' => Rn S 199 349 [v0, v1, v2, v3] (v.toList ++ st) I' J' Q)) := rCV (As := [.int a0, .int a1]) f199_346 rfl rfl rfl rfl (Nat.le_of_ble_eq_true rfl)
theorem x199_349 : Rn S 199 349 [v0, v1, .ref q, v3] st I J Q = Rn S 199 350 [v0, v1, .ref q, v3] (.ref q :: st) I J Q := rL f199_349 rfl rfl
theorem x199_350 : Rn S 199 350 [.ref q, v1, v2, v3] st I J Q = Rn S 199 351 [.ref q, v1, v2, v3] (.ref q :: st) I J Q := rL f199_350 rfl rfl
theorem x199_351 : Rn S 199 351 [v0, v1, v2, .int a] st I J Q = Rn S 199 352 [v0, v1, v2, .int a] (.int a :: st) I J Q := rL f199_351 rfl rfl
theorem x199_352 : Rn S 199 352 [v0, v1, v2, v3] st I J Q = Rn S 199 353 [v0, v1, v2, v3] (.int 1 :: st) I J Q := rS f199_352 rfl
theorem x199_353 : Rn S 199 353 [v0, v1, v2, v3] (.int b :: .int a :: st) I J Q = Rn S 199 354 [v0, v1, v2, v3] (.int (a + b) :: st) I J Q := rS f199_353 rfl
theorem x199_354 : Rn S 199 354 [v0, v1, v2, v3] (.int a :: .ref q :: st) I J Q = (zai S q a ∧ Rn S 199 355 [v0, v1, v2, v3] (.int (I q a.toNatClampNeg) :: st) I J Q) := rIal f199_354
theorem x199_355 : Rn S 199 355 [.ref q, v1, v2, v3] st I J Q = Rn S 199 356 [.ref q, v1, v2, v3] (.ref q :: st) I J Q := rL f199_355 rfl rfl
theorem x199_356 : Rn S 199 356 [v0, v1, v2, .int a] st I J Q = Rn S 199 357 [v0, v1, v2, .int a] (.int a :: st) I J Q := rL f199_356 rfl rfl
theorem x199_357 : Rn S 199 357 [v0, v1, v2, v3] st I J Q = Rn S 199 358 [v0, v1, v2, v3] (.int 2 :: st) I J Q := rS f199_357 rfl
theorem x199_358 : Rn S 199 358 [v0, v1, v2, v3] (.int b :: .int a :: st) I J Q = Rn S 199 359 [v0, v1, v2, v3] (.int (a + b) :: st) I J Q := rS f199_358 rfl
theorem x199_359 : Rn S 199 359 [v0, v1, v2, v3] (.int a :: .ref q :: st) I J Q = (zai S q a ∧ Rn S 199 360 [v0, v1, v2, v3] (.int (I q a.toNatClampNeg) :: st) I J Q) := rIal f199_359
theorem x199_360 : Rn S 199 360 [v0, v1, v2, v3] (.int a1 :: .int a0 :: .ref q :: st) I J Q = ((zcls S q = 6 ∧ zcs st ≤ 8) ∧ Rn S 131 0 [.ref q, .int a0, .int a1] [] I J (fun v I' J' => Rn S 199 363 [v0, v1, v2, v3] (v.toList ++ st) I' J' Q)) := rCV (As := [.int a0, .int a1]) f199_360 rfl rfl rfl rfl (Nat.le_of_ble_eq_true rfl)
theorem x199_363 : Rn S 199 363 [v0, v1, v2, v3] (.int b :: .int a :: st) I J Q = if a = b then Rn S 199 1266 [v0, v1, v2, v3] st I J Q else Rn S 199 366 [v0, v1, v2, v3] st I J Q := rCeq f199_363 rfl rfl
theorem x199_366 : Rn S 199 366 [v0, v1, v2, v3] st I J Q = Rn S 199 367 [v0, v1, v2, v3] (.int 0 :: st) I J Q := rS f199_366 rfl
theorem x199_367 : Rn S 199 367 [v0, v1, v2, v3] [.int a] I J Q = ((a = 0 ∨ a = 1) ∧ Q (some (.int a)) I J) := rRZ f199_367 (Or.inl rfl)
theorem x199_368 : Rn S 199 368 [v0, .ref q, v2, v3] st I J Q = Rn S 199 369 [v0, .ref q, v2, v3] (.ref q :: st) I J Q := rL f199_368 rfl rfl
theorem x199_369 : Rn S 199 369 [.ref q, v1, v2, v3] st I J Q = Rn S 199 370 [.ref q, v1, v2, v3] (.ref q :: st) I J Q := rL f199_369 rfl rfl
theorem x199_370 : Rn S 199 370 [v0, v1, v2, .int a] st I J Q = Rn S 199 371 [v0, v1, v2, .int a] (.int a :: st) I J Q := rL f199_370 rfl rfl
theorem x199_371 : Rn S 199 371 [v0, v1, v2, v3] st I J Q = Rn S 199 372 [v0, v1, v2, v3] (.int 1 :: st) I J Q := rS f199_371 rfl
theorem x199_372 : Rn S 199 372 [v0, v1, v2, v3] (.int b :: .int a :: st) I J Q = Rn S 199 373 [v0, v1, v2, v3] (.int (a + b) :: st) I J Q := rS f199_372 rfl
theorem x199_373 : Rn S 199 373 [v0, v1, v2, v3] (.int a :: .ref q :: st) I J Q = (zai S q a ∧ Rn S 199 374 [v0, v1, v2, v3] (.int (I q a.toNatClampNeg) :: st) I J Q) := rIal f199_373
theorem x199_374 : Rn S 199 374 [.ref q, v1, v2, v3] st I J Q = Rn S 199 375 [.ref q, v1, v2, v3] (.ref q :: st) I J Q := rL f199_374 rfl rfl
theorem x199_375 : Rn S 199 375 [v0, v1, v2, .int a] st I J Q = Rn S 199 376 [v0, v1, v2, .int a] (.int a :: st) I J Q := rL f199_375 rfl rfl
theorem x199_376 : Rn S 199 376 [v0, v1, v2, v3] st I J Q = Rn S 199 377 [v0, v1, v2, v3] (.int 2 :: st) I J Q := rS f199_376 rfl
theorem x199_377 : Rn S 199 377 [v0, v1, v2, v3] (.int b :: .int a :: st) I J Q = Rn S 199 378 [v0, v1, v2, v3] (.int (a + b) :: st) I J Q := rS f199_377 rfl
theorem x199_378 : Rn S 199 378 [v0, v1, v2, v3] (.int a :: .ref q :: st) I J Q = (zai S q a ∧ Rn S 199 379 [v0, v1, v2, v3] (.int (I q a.toNatClampNeg) :: st) I J Q) := rIal f199_378
theorem x199_379 : Rn S 199 379 [v0, v1, v2, v3] (.int a1 :: .int a0 :: .ref q :: st) I J Q = ((zcls S q = 5 ∧ zcs st ≤ 8) ∧ Rn S 43 0 [.ref q, .int a0, .int a1] [] I J (fun v I' J' => Rn S 199 382 [v0, v1, v2, v3] (v.toList ++ st) I' J' Q)) := rCV (As := [.int a0, .int a1]) f199_379 rfl rfl rfl rfl (Nat.le_of_ble_eq_true rfl)
theorem x199_382 : Rn S 199 382 [v0, v1, .ref q, v3] st I J Q = Rn S 199 383 [v0, v1, .ref q, v3] (.ref q :: st) I J Q := rL f199_382 rfl rfl
theorem x199_383 : Rn S 199 383 [.ref q, v1, v2, v3] st I J Q = Rn S 199 384 [.ref q, v1, v2, v3] (.ref q :: st) I J Q := rL f199_383 rfl rfl
theorem x199_384 : Rn S 199 384 [v0, v1, v2, .int a] st I J Q = Rn S 199 385 [v0, v1, v2, .int a] (.int a :: st) I J Q := rL f199_384 rfl rfl
theorem x199_385 : Rn S 199 385 [v0, v1, v2, v3] st I J Q = Rn S 199 386 [v0, v1, v2, v3] (.int 1 :: st) I J Q := rS f199_385 rfl
theorem x199_386 : Rn S 199 386 [v0, v1, v2, v3] (.int b :: .int a :: st) I J Q = Rn S 199 387 [v0, v1, v2, v3] (.int (a + b) :: st) I J Q := rS f199_386 rfl
theorem x199_387 : Rn S 199 387 [v0, v1, v2, v3] (.int a :: .ref q :: st) I J Q = (zai S q a ∧ Rn S 199 388 [v0, v1, v2, v3] (.int (I q a.toNatClampNeg) :: st) I J Q) := rIal f199_387
theorem x199_388 : Rn S 199 388 [.ref q, v1, v2, v3] st I J Q = Rn S 199 389 [.ref q, v1, v2, v3] (.ref q :: st) I J Q := rL f199_388 rfl rfl
theorem x199_389 : Rn S 199 389 [v0, v1, v2, .int a] st I J Q = Rn S 199 390 [v0, v1, v2, .int a] (.int a :: st) I J Q := rL f199_389 rfl rfl
theorem x199_390 : Rn S 199 390 [v0, v1, v2, v3] st I J Q = Rn S 199 391 [v0, v1, v2, v3] (.int 2 :: st) I J Q := rS f199_390 rfl
theorem x199_391 : Rn S 199 391 [v0, v1, v2, v3] (.int b :: .int a :: st) I J Q = Rn S 199 392 [v0, v1, v2, v3] (.int (a + b) :: st) I J Q := rS f199_391 rfl
theorem x199_392 : Rn S 199 392 [v0, v1, v2, v3] (.int a :: .ref q :: st) I J Q = (zai S q a ∧ Rn S 199 393 [v0, v1, v2, v3] (.int (I q a.toNatClampNeg) :: st) I J Q) := rIal f199_392
theorem x199_393 : Rn S 199 393 [v0, v1, v2, v3] (.int a1 :: .int a0 :: .ref q :: st) I J Q = ((zcls S q = 6 ∧ zcs st ≤ 8) ∧ Rn S 133 0 [.ref q, .int a0, .int a1] [] I J (fun v I' J' => Rn S 199 396 [v0, v1, v2, v3] (v.toList ++ st) I' J' Q)) := rCV (As := [.int a0, .int a1]) f199_393 rfl rfl rfl rfl (Nat.le_of_ble_eq_true rfl)
theorem x199_396 : Rn S 199 396 [v0, v1, v2, v3] (.int b :: .int a :: st) I J Q = if a = b then Rn S 199 1266 [v0, v1, v2, v3] st I J Q else Rn S 199 399 [v0, v1, v2, v3] st I J Q := rCeq f199_396 rfl rfl
theorem x199_399 : Rn S 199 399 [v0, v1, v2, v3] st I J Q = Rn S 199 400 [v0, v1, v2, v3] (.int 0 :: st) I J Q := rS f199_399 rfl
theorem x199_400 : Rn S 199 400 [v0, v1, v2, v3] [.int a] I J Q = ((a = 0 ∨ a = 1) ∧ Q (some (.int a)) I J) := rRZ f199_400 (Or.inl rfl)
theorem x199_401 : Rn S 199 401 [v0, .ref q, v2, v3] st I J Q = Rn S 199 402 [v0, .ref q, v2, v3] (.ref q :: st) I J Q := rL f199_401 rfl rfl
theorem x199_402 : Rn S 199 402 [.ref q, v1, v2, v3] st I J Q = Rn S 199 403 [.ref q, v1, v2, v3] (.ref q :: st) I J Q := rL f199_402 rfl rfl
theorem x199_403 : Rn S 199 403 [v0, v1, v2, .int a] st I J Q = Rn S 199 404 [v0, v1, v2, .int a] (.int a :: st) I J Q := rL f199_403 rfl rfl
theorem x199_404 : Rn S 199 404 [v0, v1, v2, v3] st I J Q = Rn S 199 405 [v0, v1, v2, v3] (.int 1 :: st) I J Q := rS f199_404 rfl
theorem x199_405 : Rn S 199 405 [v0, v1, v2, v3] (.int b :: .int a :: st) I J Q = Rn S 199 406 [v0, v1, v2, v3] (.int (a + b) :: st) I J Q := rS f199_405 rfl
theorem x199_406 : Rn S 199 406 [v0, v1, v2, v3] (.int a :: .ref q :: st) I J Q = (zai S q a ∧ Rn S 199 407 [v0, v1, v2, v3] (.int (I q a.toNatClampNeg) :: st) I J Q) := rIal f199_406
theorem x199_407 : Rn S 199 407 [v0, v1, v2, v3] (.int a0 :: .ref q :: st) I J Q = ((zcls S q = 5 ∧ zcs st ≤ 8) ∧ Rn S 44 0 [.ref q, .int a0, .null] [] I J (fun v I' J' => Rn S 199 410 [v0, v1, v2, v3] (v.toList ++ st) I' J' Q)) := rCV (As := [.int a0]) f199_407 rfl rfl rfl rfl (Nat.le_of_ble_eq_true rfl)
theorem x199_410 : Rn S 199 410 [v0, v1, .ref q, v3] st I J Q = Rn S 199 411 [v0, v1, .ref q, v3] (.ref q :: st) I J Q := rL f199_410 rfl rfl
theorem x199_411 : Rn S 199 411 [.ref q, v1, v2, v3] st I J Q = Rn S 199 412 [.ref q, v1, v2, v3] (.ref q :: st) I J Q := rL f199_411 rfl rfl
theorem x199_412 : Rn S 199 412 [v0, v1, v2, .int a] st I J Q = Rn S 199 413 [v0, v1, v2, .int a] (.int a :: st) I J Q := rL f199_412 rfl rfl
theorem x199_413 : Rn S 199 413 [v0, v1, v2, v3] st I J Q = Rn S 199 414 [v0, v1, v2, v3] (.int 1 :: st) I J Q := rS f199_413 rfl
theorem x199_414 : Rn S 199 414 [v0, v1, v2, v3] (.int b :: .int a :: st) I J Q = Rn S 199 415 [v0, v1, v2, v3] (.int (a + b) :: st) I J Q := rS f199_414 rfl
theorem x199_415 : Rn S 199 415 [v0, v1, v2, v3] (.int a :: .ref q :: st) I J Q = (zai S q a ∧ Rn S 199 416 [v0, v1, v2, v3] (.int (I q a.toNatClampNeg) :: st) I J Q) := rIal f199_415
theorem x199_416 : Rn S 199 416 [v0, v1, v2, v3] (.int a0 :: .ref q :: st) I J Q = ((zcls S q = 6 ∧ zcs st ≤ 8) ∧ Rn S 134 0 [.ref q, .int a0, .null] [] I J (fun v I' J' => Rn S 199 419 [v0, v1, v2, v3] (v.toList ++ st) I' J' Q)) := rCV (As := [.int a0]) f199_416 rfl rfl rfl rfl (Nat.le_of_ble_eq_true rfl)
theorem x199_419 : Rn S 199 419 [v0, v1, v2, v3] (.int b :: .int a :: st) I J Q = if a = b then Rn S 199 1266 [v0, v1, v2, v3] st I J Q else Rn S 199 422 [v0, v1, v2, v3] st I J Q := rCeq f199_419 rfl rfl
theorem x199_422 : Rn S 199 422 [v0, v1, v2, v3] st I J Q = Rn S 199 423 [v0, v1, v2, v3] (.int 0 :: st) I J Q := rS f199_422 rfl
theorem x199_423 : Rn S 199 423 [v0, v1, v2, v3] [.int a] I J Q = ((a = 0 ∨ a = 1) ∧ Q (some (.int a)) I J) := rRZ f199_423 (Or.inl rfl)
theorem x199_424 : Rn S 199 424 [v0, .ref q, v2, v3] st I J Q = Rn S 199 425 [v0, .ref q, v2, v3] (.ref q :: st) I J Q := rL f199_424 rfl rfl
theorem x199_425 : Rn S 199 425 [.ref q, v1, v2, v3] st I J Q = Rn S 199 426 [.ref q, v1, v2, v3] (.ref q :: st) I J Q := rL f199_425 rfl rfl
theorem x199_426 : Rn S 199 426 [v0, v1, v2, .int a] st I J Q = Rn S 199 427 [v0, v1, v2, .int a] (.int a :: st) I J Q := rL f199_426 rfl rfl
theorem x199_427 : Rn S 199 427 [v0, v1, v2, v3] st I J Q = Rn S 199 428 [v0, v1, v2, v3] (.int 1 :: st) I J Q := rS f199_427 rfl
theorem x199_428 : Rn S 199 428 [v0, v1, v2, v3] (.int b :: .int a :: st) I J Q = Rn S 199 429 [v0, v1, v2, v3] (.int (a + b) :: st) I J Q := rS f199_428 rfl
theorem x199_429 : Rn S 199 429 [v0, v1, v2, v3] (.int a :: .ref q :: st) I J Q = (zai S q a ∧ Rn S 199 430 [v0, v1, v2, v3] (.int (I q a.toNatClampNeg) :: st) I J Q) := rIal f199_429
theorem x199_430 : Rn S 199 430 [.ref q, v1, v2, v3] st I J Q = Rn S 199 431 [.ref q, v1, v2, v3] (.ref q :: st) I J Q := rL f199_430 rfl rfl
theorem x199_431 : Rn S 199 431 [v0, v1, v2, .int a] st I J Q = Rn S 199 432 [v0, v1, v2, .int a] (.int a :: st) I J Q := rL f199_431 rfl rfl
theorem x199_432 : Rn S 199 432 [v0, v1, v2, v3] st I J Q = Rn S 199 433 [v0, v1, v2, v3] (.int 2 :: st) I J Q := rS f199_432 rfl
theorem x199_433 : Rn S 199 433 [v0, v1, v2, v3] (.int b :: .int a :: st) I J Q = Rn S 199 434 [v0, v1, v2, v3] (.int (a + b) :: st) I J Q := rS f199_433 rfl
theorem x199_434 : Rn S 199 434 [v0, v1, v2, v3] (.int a :: .ref q :: st) I J Q = (zai S q a ∧ Rn S 199 435 [v0, v1, v2, v3] (.int (I q a.toNatClampNeg) :: st) I J Q) := rIal f199_434
theorem x199_435 : Rn S 199 435 [.ref q, v1, v2, v3] st I J Q = Rn S 199 436 [.ref q, v1, v2, v3] (.ref q :: st) I J Q := rL f199_435 rfl rfl
theorem x199_436 : Rn S 199 436 [v0, v1, v2, .int a] st I J Q = Rn S 199 437 [v0, v1, v2, .int a] (.int a :: st) I J Q := rL f199_436 rfl rfl
theorem x199_437 : Rn S 199 437 [v0, v1, v2, v3] st I J Q = Rn S 199 438 [v0, v1, v2, v3] (.int 3 :: st) I J Q := rS f199_437 rfl
theorem x199_438 : Rn S 199 438 [v0, v1, v2, v3] (.int b :: .int a :: st) I J Q = Rn S 199 439 [v0, v1, v2, v3] (.int (a + b) :: st) I J Q := rS f199_438 rfl
theorem x199_439 : Rn S 199 439 [v0, v1, v2, v3] (.int a :: .ref q :: st) I J Q = (zai S q a ∧ Rn S 199 440 [v0, v1, v2, v3] (.int (I q a.toNatClampNeg) :: st) I J Q) := rIal f199_439
theorem x199_440 : Rn S 199 440 [v0, v1, v2, v3] (.int a2 :: .int a1 :: .int a0 :: .ref q :: st) I J Q = ((zcls S q = 5 ∧ zcs st ≤ 8) ∧ Rn S 45 0 [.ref q, .int a0, .int a1, .int a2] [] I J (fun v I' J' => Rn S 199 443 [v0, v1, v2, v3] (v.toList ++ st) I' J' Q)) := rCV (As := [.int a0, .int a1, .int a2]) f199_440 rfl rfl rfl rfl (Nat.le_of_ble_eq_true rfl)
theorem x199_443 : Rn S 199 443 [v0, v1, .ref q, v3] st I J Q = Rn S 199 444 [v0, v1, .ref q, v3] (.ref q :: st) I J Q := rL f199_443 rfl rfl
theorem x199_444 : Rn S 199 444 [.ref q, v1, v2, v3] st I J Q = Rn S 199 445 [.ref q, v1, v2, v3] (.ref q :: st) I J Q := rL f199_444 rfl rfl
theorem x199_445 : Rn S 199 445 [v0, v1, v2, .int a] st I J Q = Rn S 199 446 [v0, v1, v2, .int a] (.int a :: st) I J Q := rL f199_445 rfl rfl
theorem x199_446 : Rn S 199 446 [v0, v1, v2, v3] st I J Q = Rn S 199 447 [v0, v1, v2, v3] (.int 1 :: st) I J Q := rS f199_446 rfl
theorem x199_447 : Rn S 199 447 [v0, v1, v2, v3] (.int b :: .int a :: st) I J Q = Rn S 199 448 [v0, v1, v2, v3] (.int (a + b) :: st) I J Q := rS f199_447 rfl
theorem x199_448 : Rn S 199 448 [v0, v1, v2, v3] (.int a :: .ref q :: st) I J Q = (zai S q a ∧ Rn S 199 449 [v0, v1, v2, v3] (.int (I q a.toNatClampNeg) :: st) I J Q) := rIal f199_448
theorem x199_449 : Rn S 199 449 [.ref q, v1, v2, v3] st I J Q = Rn S 199 450 [.ref q, v1, v2, v3] (.ref q :: st) I J Q := rL f199_449 rfl rfl
theorem x199_450 : Rn S 199 450 [v0, v1, v2, .int a] st I J Q = Rn S 199 451 [v0, v1, v2, .int a] (.int a :: st) I J Q := rL f199_450 rfl rfl
theorem x199_451 : Rn S 199 451 [v0, v1, v2, v3] st I J Q = Rn S 199 452 [v0, v1, v2, v3] (.int 2 :: st) I J Q := rS f199_451 rfl
theorem x199_452 : Rn S 199 452 [v0, v1, v2, v3] (.int b :: .int a :: st) I J Q = Rn S 199 453 [v0, v1, v2, v3] (.int (a + b) :: st) I J Q := rS f199_452 rfl
theorem x199_453 : Rn S 199 453 [v0, v1, v2, v3] (.int a :: .ref q :: st) I J Q = (zai S q a ∧ Rn S 199 454 [v0, v1, v2, v3] (.int (I q a.toNatClampNeg) :: st) I J Q) := rIal f199_453
theorem x199_454 : Rn S 199 454 [.ref q, v1, v2, v3] st I J Q = Rn S 199 455 [.ref q, v1, v2, v3] (.ref q :: st) I J Q := rL f199_454 rfl rfl
theorem x199_455 : Rn S 199 455 [v0, v1, v2, .int a] st I J Q = Rn S 199 456 [v0, v1, v2, .int a] (.int a :: st) I J Q := rL f199_455 rfl rfl
theorem x199_456 : Rn S 199 456 [v0, v1, v2, v3] st I J Q = Rn S 199 457 [v0, v1, v2, v3] (.int 3 :: st) I J Q := rS f199_456 rfl
theorem x199_457 : Rn S 199 457 [v0, v1, v2, v3] (.int b :: .int a :: st) I J Q = Rn S 199 458 [v0, v1, v2, v3] (.int (a + b) :: st) I J Q := rS f199_457 rfl
theorem x199_458 : Rn S 199 458 [v0, v1, v2, v3] (.int a :: .ref q :: st) I J Q = (zai S q a ∧ Rn S 199 459 [v0, v1, v2, v3] (.int (I q a.toNatClampNeg) :: st) I J Q) := rIal f199_458
theorem x199_459 : Rn S 199 459 [v0, v1, v2, v3] (.int a2 :: .int a1 :: .int a0 :: .ref q :: st) I J Q = ((zcls S q = 6 ∧ zcs st ≤ 8) ∧ Rn S 135 0 [.ref q, .int a0, .int a1, .int a2] [] I J (fun v I' J' => Rn S 199 462 [v0, v1, v2, v3] (v.toList ++ st) I' J' Q)) := rCV (As := [.int a0, .int a1, .int a2]) f199_459 rfl rfl rfl rfl (Nat.le_of_ble_eq_true rfl)
theorem x199_462 : Rn S 199 462 [v0, v1, v2, v3] (.int b :: .int a :: st) I J Q = if a = b then Rn S 199 1266 [v0, v1, v2, v3] st I J Q else Rn S 199 465 [v0, v1, v2, v3] st I J Q := rCeq f199_462 rfl rfl
theorem x199_465 : Rn S 199 465 [v0, v1, v2, v3] st I J Q = Rn S 199 466 [v0, v1, v2, v3] (.int 0 :: st) I J Q := rS f199_465 rfl
theorem x199_466 : Rn S 199 466 [v0, v1, v2, v3] [.int a] I J Q = ((a = 0 ∨ a = 1) ∧ Q (some (.int a)) I J) := rRZ f199_466 (Or.inl rfl)
theorem x199_467 : Rn S 199 467 [v0, .ref q, v2, v3] st I J Q = Rn S 199 468 [v0, .ref q, v2, v3] (.ref q :: st) I J Q := rL f199_467 rfl rfl
theorem x199_468 : Rn S 199 468 [v0, v1, v2, v3] (.ref q :: st) I J Q = ((zcls S q = 5 ∧ zcs st ≤ 8) ∧ Rn S 46 0 [.ref q] [] I J (fun v I' J' => Rn S 199 471 [v0, v1, v2, v3] (v.toList ++ st) I' J' Q)) := rCV (As := []) f199_468 rfl rfl rfl rfl (Nat.le_of_ble_eq_true rfl)
theorem x199_471 : Rn S 199 471 [v0, v1, .ref q, v3] st I J Q = Rn S 199 472 [v0, v1, .ref q, v3] (.ref q :: st) I J Q := rL f199_471 rfl rfl
theorem x199_472 : Rn S 199 472 [v0, v1, v2, v3] (.ref q :: st) I J Q = ((zcls S q = 6 ∧ zcs st ≤ 8) ∧ Rn S 136 0 [.ref q] [] I J (fun v I' J' => Rn S 199 475 [v0, v1, v2, v3] (v.toList ++ st) I' J' Q)) := rCV (As := []) f199_472 rfl rfl rfl rfl (Nat.le_of_ble_eq_true rfl)
theorem x199_475 : Rn S 199 475 [v0, v1, v2, v3] (.int b :: .int a :: st) I J Q = if a = b then Rn S 199 1266 [v0, v1, v2, v3] st I J Q else Rn S 199 478 [v0, v1, v2, v3] st I J Q := rCeq f199_475 rfl rfl
theorem x199_478 : Rn S 199 478 [v0, v1, v2, v3] st I J Q = Rn S 199 479 [v0, v1, v2, v3] (.int 0 :: st) I J Q := rS f199_478 rfl
theorem x199_479 : Rn S 199 479 [v0, v1, v2, v3] [.int a] I J Q = ((a = 0 ∨ a = 1) ∧ Q (some (.int a)) I J) := rRZ f199_479 (Or.inl rfl)
theorem x199_480 : Rn S 199 480 [v0, .ref q, v2, v3] st I J Q = Rn S 199 481 [v0, .ref q, v2, v3] (.ref q :: st) I J Q := rL f199_480 rfl rfl
theorem x199_481 : Rn S 199 481 [.ref q, v1, v2, v3] st I J Q = Rn S 199 482 [.ref q, v1, v2, v3] (.ref q :: st) I J Q := rL f199_481 rfl rfl
theorem x199_482 : Rn S 199 482 [v0, v1, v2, .int a] st I J Q = Rn S 199 483 [v0, v1, v2, .int a] (.int a :: st) I J Q := rL f199_482 rfl rfl
theorem x199_483 : Rn S 199 483 [v0, v1, v2, v3] st I J Q = Rn S 199 484 [v0, v1, v2, v3] (.int 1 :: st) I J Q := rS f199_483 rfl
theorem x199_484 : Rn S 199 484 [v0, v1, v2, v3] (.int b :: .int a :: st) I J Q = Rn S 199 485 [v0, v1, v2, v3] (.int (a + b) :: st) I J Q := rS f199_484 rfl
theorem x199_485 : Rn S 199 485 [v0, v1, v2, v3] (.int a :: .ref q :: st) I J Q = (zai S q a ∧ Rn S 199 486 [v0, v1, v2, v3] (.int (I q a.toNatClampNeg) :: st) I J Q) := rIal f199_485
theorem x199_486 : Rn S 199 486 [v0, v1, v2, v3] (.int a0 :: .ref q :: st) I J Q = ((zcls S q = 5 ∧ zcs st ≤ 8) ∧ Rn S 47 0 [.ref q, .int a0, .null, .null, .null, .null, .null, .null] [] I J (fun v I' J' => Rn S 199 489 [v0, v1, v2, v3] (v.toList ++ st) I' J' Q)) := rCV (As := [.int a0]) f199_486 rfl rfl rfl rfl (Nat.le_of_ble_eq_true rfl)
theorem x199_489 : Rn S 199 489 [v0, v1, .ref q, v3] st I J Q = Rn S 199 490 [v0, v1, .ref q, v3] (.ref q :: st) I J Q := rL f199_489 rfl rfl
theorem x199_490 : Rn S 199 490 [.ref q, v1, v2, v3] st I J Q = Rn S 199 491 [.ref q, v1, v2, v3] (.ref q :: st) I J Q := rL f199_490 rfl rfl
theorem x199_491 : Rn S 199 491 [v0, v1, v2, .int a] st I J Q = Rn S 199 492 [v0, v1, v2, .int a] (.int a :: st) I J Q := rL f199_491 rfl rfl
theorem x199_492 : Rn S 199 492 [v0, v1, v2, v3] st I J Q = Rn S 199 493 [v0, v1, v2, v3] (.int 1 :: st) I J Q := rS f199_492 rfl
theorem x199_493 : Rn S 199 493 [v0, v1, v2, v3] (.int b :: .int a :: st) I J Q = Rn S 199 494 [v0, v1, v2, v3] (.int (a + b) :: st) I J Q := rS f199_493 rfl
theorem x199_494 : Rn S 199 494 [v0, v1, v2, v3] (.int a :: .ref q :: st) I J Q = (zai S q a ∧ Rn S 199 495 [v0, v1, v2, v3] (.int (I q a.toNatClampNeg) :: st) I J Q) := rIal f199_494
theorem x199_495 : Rn S 199 495 [v0, v1, v2, v3] (.int a0 :: .ref q :: st) I J Q = ((zcls S q = 6 ∧ zcs st ≤ 8) ∧ Rn S 137 0 [.ref q, .int a0, .null, .null, .null] [] I J (fun v I' J' => Rn S 199 498 [v0, v1, v2, v3] (v.toList ++ st) I' J' Q)) := rCV (As := [.int a0]) f199_495 rfl rfl rfl rfl (Nat.le_of_ble_eq_true rfl)
theorem x199_498 : Rn S 199 498 [v0, v1, v2, v3] (.int b :: .int a :: st) I J Q = if a = b then Rn S 199 1266 [v0, v1, v2, v3] st I J Q else Rn S 199 501 [v0, v1, v2, v3] st I J Q := rCeq f199_498 rfl rfl
theorem x199_501 : Rn S 199 501 [v0, v1, v2, v3] st I J Q = Rn S 199 502 [v0, v1, v2, v3] (.int 0 :: st) I J Q := rS f199_501 rfl
theorem x199_502 : Rn S 199 502 [v0, v1, v2, v3] [.int a] I J Q = ((a = 0 ∨ a = 1) ∧ Q (some (.int a)) I J) := rRZ f199_502 (Or.inl rfl)
theorem x199_503 : Rn S 199 503 [v0, .ref q, v2, v3] st I J Q = Rn S 199 504 [v0, .ref q, v2, v3] (.ref q :: st) I J Q := rL f199_503 rfl rfl
theorem x199_504 : Rn S 199 504 [.ref q, v1, v2, v3] st I J Q = Rn S 199 505 [.ref q, v1, v2, v3] (.ref q :: st) I J Q := rL f199_504 rfl rfl
theorem x199_505 : Rn S 199 505 [v0, v1, v2, .int a] st I J Q = Rn S 199 506 [v0, v1, v2, .int a] (.int a :: st) I J Q := rL f199_505 rfl rfl
theorem x199_506 : Rn S 199 506 [v0, v1, v2, v3] st I J Q = Rn S 199 507 [v0, v1, v2, v3] (.int 1 :: st) I J Q := rS f199_506 rfl
theorem x199_507 : Rn S 199 507 [v0, v1, v2, v3] (.int b :: .int a :: st) I J Q = Rn S 199 508 [v0, v1, v2, v3] (.int (a + b) :: st) I J Q := rS f199_507 rfl
theorem x199_508 : Rn S 199 508 [v0, v1, v2, v3] (.int a :: .ref q :: st) I J Q = (zai S q a ∧ Rn S 199 509 [v0, v1, v2, v3] (.int (I q a.toNatClampNeg) :: st) I J Q) := rIal f199_508
theorem x199_509 : Rn S 199 509 [.ref q, v1, v2, v3] st I J Q = Rn S 199 510 [.ref q, v1, v2, v3] (.ref q :: st) I J Q := rL f199_509 rfl rfl
theorem x199_510 : Rn S 199 510 [v0, v1, v2, .int a] st I J Q = Rn S 199 511 [v0, v1, v2, .int a] (.int a :: st) I J Q := rL f199_510 rfl rfl
theorem x199_511 : Rn S 199 511 [v0, v1, v2, v3] st I J Q = Rn S 199 512 [v0, v1, v2, v3] (.int 2 :: st) I J Q := rS f199_511 rfl
theorem x199_512 : Rn S 199 512 [v0, v1, v2, v3] (.int b :: .int a :: st) I J Q = Rn S 199 513 [v0, v1, v2, v3] (.int (a + b) :: st) I J Q := rS f199_512 rfl
theorem x199_513 : Rn S 199 513 [v0, v1, v2, v3] (.int a :: .ref q :: st) I J Q = (zai S q a ∧ Rn S 199 514 [v0, v1, v2, v3] (.int (I q a.toNatClampNeg) :: st) I J Q) := rIal f199_513
theorem x199_514 : Rn S 199 514 [v0, v1, v2, v3] (.int a1 :: .int a0 :: .ref q :: st) I J Q = ((zcls S q = 5 ∧ zcs st ≤ 8) ∧ Rn S 48 0 [.ref q, .int a0, .int a1] [] I J (fun v I' J' => Rn S 199 517 [v0, v1, v2, v3] (v.toList ++ st) I' J' Q)) := rCV (As := [.int a0, .int a1]) f199_514 rfl rfl rfl rfl (Nat.le_of_ble_eq_true rfl)
theorem x199_517 : Rn S 199 517 [v0, v1, .ref q, v3] st I J Q = Rn S 199 518 [v0, v1, .ref q, v3] (.ref q :: st) I J Q := rL f199_517 rfl rfl
theorem x199_518 : Rn S 199 518 [.ref q, v1, v2, v3] st I J Q = Rn S 199 519 [.ref q, v1, v2, v3] (.ref q :: st) I J Q := rL f199_518 rfl rfl
theorem x199_519 : Rn S 199 519 [v0, v1, v2, .int a] st I J Q = Rn S 199 520 [v0, v1, v2, .int a] (.int a :: st) I J Q := rL f199_519 rfl rfl
theorem x199_520 : Rn S 199 520 [v0, v1, v2, v3] st I J Q = Rn S 199 521 [v0, v1, v2, v3] (.int 1 :: st) I J Q := rS f199_520 rfl
theorem x199_521 : Rn S 199 521 [v0, v1, v2, v3] (.int b :: .int a :: st) I J Q = Rn S 199 522 [v0, v1, v2, v3] (.int (a + b) :: st) I J Q := rS f199_521 rfl
theorem x199_522 : Rn S 199 522 [v0, v1, v2, v3] (.int a :: .ref q :: st) I J Q = (zai S q a ∧ Rn S 199 523 [v0, v1, v2, v3] (.int (I q a.toNatClampNeg) :: st) I J Q) := rIal f199_522
theorem x199_523 : Rn S 199 523 [.ref q, v1, v2, v3] st I J Q = Rn S 199 524 [.ref q, v1, v2, v3] (.ref q :: st) I J Q := rL f199_523 rfl rfl
theorem x199_524 : Rn S 199 524 [v0, v1, v2, .int a] st I J Q = Rn S 199 525 [v0, v1, v2, .int a] (.int a :: st) I J Q := rL f199_524 rfl rfl
theorem x199_525 : Rn S 199 525 [v0, v1, v2, v3] st I J Q = Rn S 199 526 [v0, v1, v2, v3] (.int 2 :: st) I J Q := rS f199_525 rfl
theorem x199_526 : Rn S 199 526 [v0, v1, v2, v3] (.int b :: .int a :: st) I J Q = Rn S 199 527 [v0, v1, v2, v3] (.int (a + b) :: st) I J Q := rS f199_526 rfl
theorem x199_527 : Rn S 199 527 [v0, v1, v2, v3] (.int a :: .ref q :: st) I J Q = (zai S q a ∧ Rn S 199 528 [v0, v1, v2, v3] (.int (I q a.toNatClampNeg) :: st) I J Q) := rIal f199_527
theorem x199_528 : Rn S 199 528 [v0, v1, v2, v3] (.int a1 :: .int a0 :: .ref q :: st) I J Q = ((zcls S q = 6 ∧ zcs st ≤ 8) ∧ Rn S 143 0 [.ref q, .int a0, .int a1] [] I J (fun v I' J' => Rn S 199 531 [v0, v1, v2, v3] (v.toList ++ st) I' J' Q)) := rCV (As := [.int a0, .int a1]) f199_528 rfl rfl rfl rfl (Nat.le_of_ble_eq_true rfl)
theorem x199_531 : Rn S 199 531 [v0, v1, v2, v3] (.int b :: .int a :: st) I J Q = if a = b then Rn S 199 1266 [v0, v1, v2, v3] st I J Q else Rn S 199 534 [v0, v1, v2, v3] st I J Q := rCeq f199_531 rfl rfl
theorem x199_534 : Rn S 199 534 [v0, v1, v2, v3] st I J Q = Rn S 199 535 [v0, v1, v2, v3] (.int 0 :: st) I J Q := rS f199_534 rfl
theorem x199_535 : Rn S 199 535 [v0, v1, v2, v3] [.int a] I J Q = ((a = 0 ∨ a = 1) ∧ Q (some (.int a)) I J) := rRZ f199_535 (Or.inl rfl)
theorem x199_536 : Rn S 199 536 [v0, .ref q, v2, v3] st I J Q = Rn S 199 537 [v0, .ref q, v2, v3] (.ref q :: st) I J Q := rL f199_536 rfl rfl
theorem x199_537 : Rn S 199 537 [.ref q, v1, v2, v3] st I J Q = Rn S 199 538 [.ref q, v1, v2, v3] (.ref q :: st) I J Q := rL f199_537 rfl rfl
theorem x199_538 : Rn S 199 538 [v0, v1, v2, .int a] st I J Q = Rn S 199 539 [v0, v1, v2, .int a] (.int a :: st) I J Q := rL f199_538 rfl rfl
theorem x199_539 : Rn S 199 539 [v0, v1, v2, v3] st I J Q = Rn S 199 540 [v0, v1, v2, v3] (.int 1 :: st) I J Q := rS f199_539 rfl
theorem x199_540 : Rn S 199 540 [v0, v1, v2, v3] (.int b :: .int a :: st) I J Q = Rn S 199 541 [v0, v1, v2, v3] (.int (a + b) :: st) I J Q := rS f199_540 rfl
theorem x199_541 : Rn S 199 541 [v0, v1, v2, v3] (.int a :: .ref q :: st) I J Q = (zai S q a ∧ Rn S 199 542 [v0, v1, v2, v3] (.int (I q a.toNatClampNeg) :: st) I J Q) := rIal f199_541
theorem x199_542 : Rn S 199 542 [.ref q, v1, v2, v3] st I J Q = Rn S 199 543 [.ref q, v1, v2, v3] (.ref q :: st) I J Q := rL f199_542 rfl rfl
theorem x199_543 : Rn S 199 543 [v0, v1, v2, .int a] st I J Q = Rn S 199 544 [v0, v1, v2, .int a] (.int a :: st) I J Q := rL f199_543 rfl rfl
theorem x199_544 : Rn S 199 544 [v0, v1, v2, v3] st I J Q = Rn S 199 545 [v0, v1, v2, v3] (.int 2 :: st) I J Q := rS f199_544 rfl
theorem x199_545 : Rn S 199 545 [v0, v1, v2, v3] (.int b :: .int a :: st) I J Q = Rn S 199 546 [v0, v1, v2, v3] (.int (a + b) :: st) I J Q := rS f199_545 rfl
theorem x199_546 : Rn S 199 546 [v0, v1, v2, v3] (.int a :: .ref q :: st) I J Q = (zai S q a ∧ Rn S 199 547 [v0, v1, v2, v3] (.int (I q a.toNatClampNeg) :: st) I J Q) := rIal f199_546
theorem x199_547 : Rn S 199 547 [v0, v1, v2, v3] (.int a1 :: .int a0 :: .ref q :: st) I J Q = ((zcls S q = 5 ∧ zcs st ≤ 8) ∧ Rn S 49 0 [.ref q, .int a0, .int a1] [] I J (fun v I' J' => Rn S 199 550 [v0, v1, v2, v3] (v.toList ++ st) I' J' Q)) := rCV (As := [.int a0, .int a1]) f199_547 rfl rfl rfl rfl (Nat.le_of_ble_eq_true rfl)
theorem x199_550 : Rn S 199 550 [v0, v1, .ref q, v3] st I J Q = Rn S 199 551 [v0, v1, .ref q, v3] (.ref q :: st) I J Q := rL f199_550 rfl rfl
theorem x199_551 : Rn S 199 551 [.ref q, v1, v2, v3] st I J Q = Rn S 199 552 [.ref q, v1, v2, v3] (.ref q :: st) I J Q := rL f199_551 rfl rfl
theorem x199_552 : Rn S 199 552 [v0, v1, v2, .int a] st I J Q = Rn S 199 553 [v0, v1, v2, .int a] (.int a :: st) I J Q := rL f199_552 rfl rfl
theorem x199_553 : Rn S 199 553 [v0, v1, v2, v3] st I J Q = Rn S 199 554 [v0, v1, v2, v3] (.int 1 :: st) I J Q := rS f199_553 rfl
theorem x199_554 : Rn S 199 554 [v0, v1, v2, v3] (.int b :: .int a :: st) I J Q = Rn S 199 555 [v0, v1, v2, v3] (.int (a + b) :: st) I J Q := rS f199_554 rfl
theorem x199_555 : Rn S 199 555 [v0, v1, v2, v3] (.int a :: .ref q :: st) I J Q = (zai S q a ∧ Rn S 199 556 [v0, v1, v2, v3] (.int (I q a.toNatClampNeg) :: st) I J Q) := rIal f199_555
theorem x199_556 : Rn S 199 556 [.ref q, v1, v2, v3] st I J Q = Rn S 199 557 [.ref q, v1, v2, v3] (.ref q :: st) I J Q := rL f199_556 rfl rfl
theorem x199_557 : Rn S 199 557 [v0, v1, v2, .int a] st I J Q = Rn S 199 558 [v0, v1, v2, .int a] (.int a :: st) I J Q := rL f199_557 rfl rfl
theorem x199_558 : Rn S 199 558 [v0, v1, v2, v3] st I J Q = Rn S 199 559 [v0, v1, v2, v3] (.int 2 :: st) I J Q := rS f199_558 rfl
theorem x199_559 : Rn S 199 559 [v0, v1, v2, v3] (.int b :: .int a :: st) I J Q = Rn S 199 560 [v0, v1, v2, v3] (.int (a + b) :: st) I J Q := rS f199_559 rfl
theorem x199_560 : Rn S 199 560 [v0, v1, v2, v3] (.int a :: .ref q :: st) I J Q = (zai S q a ∧ Rn S 199 561 [v0, v1, v2, v3] (.int (I q a.toNatClampNeg) :: st) I J Q) := rIal f199_560
theorem x199_561 : Rn S 199 561 [v0, v1, v2, v3] (.int a1 :: .int a0 :: .ref q :: st) I J Q = ((zcls S q = 6 ∧ zcs st ≤ 8) ∧ Rn S 145 0 [.ref q, .int a0, .int a1] [] I J (fun v I' J' => Rn S 199 564 [v0, v1, v2, v3] (v.toList ++ st) I' J' Q)) := rCV (As := [.int a0, .int a1]) f199_561 rfl rfl rfl rfl (Nat.le_of_ble_eq_true rfl)
theorem x199_564 : Rn S 199 564 [v0, v1, v2, v3] (.int b :: .int a :: st) I J Q = if a = b then Rn S 199 1266 [v0, v1, v2, v3] st I J Q else Rn S 199 567 [v0, v1, v2, v3] st I J Q := rCeq f199_564 rfl rfl
theorem x199_567 : Rn S 199 567 [v0, v1, v2, v3] st I J Q = Rn S 199 568 [v0, v1, v2, v3] (.int 0 :: st) I J Q := rS f199_567 rfl
theorem x199_568 : Rn S 199 568 [v0, v1, v2, v3] [.int a] I J Q = ((a = 0 ∨ a = 1) ∧ Q (some (.int a)) I J) := rRZ f199_568 (Or.inl rfl)
theorem x199_569 : Rn S 199 569 [v0, .ref q, v2, v3] st I J Q = Rn S 199 570 [v0, .ref q, v2, v3] (.ref q :: st) I J Q := rL f199_569 rfl rfl
theorem x199_570 : Rn S 199 570 [.ref q, v1, v2, v3] st I J Q = Rn S 199 571 [.ref q, v1, v2, v3] (.ref q :: st) I J Q := rL f199_570 rfl rfl
theorem x199_571 : Rn S 199 571 [v0, v1, v2, .int a] st I J Q = Rn S 199 572 [v0, v1, v2, .int a] (.int a :: st) I J Q := rL f199_571 rfl rfl
theorem x199_572 : Rn S 199 572 [v0, v1, v2, v3] st I J Q = Rn S 199 573 [v0, v1, v2, v3] (.int 1 :: st) I J Q := rS f199_572 rfl
theorem x199_573 : Rn S 199 573 [v0, v1, v2, v3] (.int b :: .int a :: st) I J Q = Rn S 199 574 [v0, v1, v2, v3] (.int (a + b) :: st) I J Q := rS f199_573 rfl
theorem x199_574 : Rn S 199 574 [v0, v1, v2, v3] (.int a :: .ref q :: st) I J Q = (zai S q a ∧ Rn S 199 575 [v0, v1, v2, v3] (.int (I q a.toNatClampNeg) :: st) I J Q) := rIal f199_574
theorem x199_575 : Rn S 199 575 [.ref q, v1, v2, v3] st I J Q = Rn S 199 576 [.ref q, v1, v2, v3] (.ref q :: st) I J Q := rL f199_575 rfl rfl
theorem x199_576 : Rn S 199 576 [v0, v1, v2, .int a] st I J Q = Rn S 199 577 [v0, v1, v2, .int a] (.int a :: st) I J Q := rL f199_576 rfl rfl
theorem x199_577 : Rn S 199 577 [v0, v1, v2, v3] st I J Q = Rn S 199 578 [v0, v1, v2, v3] (.int 2 :: st) I J Q := rS f199_577 rfl
theorem x199_578 : Rn S 199 578 [v0, v1, v2, v3] (.int b :: .int a :: st) I J Q = Rn S 199 579 [v0, v1, v2, v3] (.int (a + b) :: st) I J Q := rS f199_578 rfl
theorem x199_579 : Rn S 199 579 [v0, v1, v2, v3] (.int a :: .ref q :: st) I J Q = (zai S q a ∧ Rn S 199 580 [v0, v1, v2, v3] (.int (I q a.toNatClampNeg) :: st) I J Q) := rIal f199_579
theorem x199_580 : Rn S 199 580 [v0, v1, v2, v3] (.int a1 :: .int a0 :: .ref q :: st) I J Q = ((zcls S q = 5 ∧ zcs st ≤ 8) ∧ Rn S 50 0 [.ref q, .int a0, .int a1] [] I J (fun v I' J' => Rn S 199 583 [v0, v1, v2, v3] (v.toList ++ st) I' J' Q)) := rCV (As := [.int a0, .int a1]) f199_580 rfl rfl rfl rfl (Nat.le_of_ble_eq_true rfl)
theorem x199_583 : Rn S 199 583 [v0, v1, .ref q, v3] st I J Q = Rn S 199 584 [v0, v1, .ref q, v3] (.ref q :: st) I J Q := rL f199_583 rfl rfl
theorem x199_584 : Rn S 199 584 [.ref q, v1, v2, v3] st I J Q = Rn S 199 585 [.ref q, v1, v2, v3] (.ref q :: st) I J Q := rL f199_584 rfl rfl
theorem x199_585 : Rn S 199 585 [v0, v1, v2, .int a] st I J Q = Rn S 199 586 [v0, v1, v2, .int a] (.int a :: st) I J Q := rL f199_585 rfl rfl
theorem x199_586 : Rn S 199 586 [v0, v1, v2, v3] st I J Q = Rn S 199 587 [v0, v1, v2, v3] (.int 1 :: st) I J Q := rS f199_586 rfl
theorem x199_587 : Rn S 199 587 [v0, v1, v2, v3] (.int b :: .int a :: st) I J Q = Rn S 199 588 [v0, v1, v2, v3] (.int (a + b) :: st) I J Q := rS f199_587 rfl
theorem x199_588 : Rn S 199 588 [v0, v1, v2, v3] (.int a :: .ref q :: st) I J Q = (zai S q a ∧ Rn S 199 589 [v0, v1, v2, v3] (.int (I q a.toNatClampNeg) :: st) I J Q) := rIal f199_588
theorem x199_589 : Rn S 199 589 [.ref q, v1, v2, v3] st I J Q = Rn S 199 590 [.ref q, v1, v2, v3] (.ref q :: st) I J Q := rL f199_589 rfl rfl
theorem x199_590 : Rn S 199 590 [v0, v1, v2, .int a] st I J Q = Rn S 199 591 [v0, v1, v2, .int a] (.int a :: st) I J Q := rL f199_590 rfl rfl
theorem x199_591 : Rn S 199 591 [v0, v1, v2, v3] st I J Q = Rn S 199 592 [v0, v1, v2, v3] (.int 2 :: st) I J Q := rS f199_591 rfl
theorem x199_592 : Rn S 199 592 [v0, v1, v2, v3] (.int b :: .int a :: st) I J Q = Rn S 199 593 [v0, v1, v2, v3] (.int (a + b) :: st) I J Q := rS f199_592 rfl
theorem x199_593 : Rn S 199 593 [v0, v1, v2, v3] (.int a :: .ref q :: st) I J Q = (zai S q a ∧ Rn S 199 594 [v0, v1, v2, v3] (.int (I q a.toNatClampNeg) :: st) I J Q) := rIal f199_593
theorem x199_594 : Rn S 199 594 [v0, v1, v2, v3] (.int a1 :: .int a0 :: .ref q :: st) I J Q = ((zcls S q = 6 ∧ zcs st ≤ 8) ∧ Rn S 147 0 [.ref q, .int a0, .int a1] [] I J (fun v I' J' => Rn S 199 597 [v0, v1, v2, v3] (v.toList ++ st) I' J' Q)) := rCV (As := [.int a0, .int a1]) f199_594 rfl rfl rfl rfl (Nat.le_of_ble_eq_true rfl)
theorem x199_597 : Rn S 199 597 [v0, v1, v2, v3] (.int b :: .int a :: st) I J Q = if a = b then Rn S 199 1266 [v0, v1, v2, v3] st I J Q else Rn S 199 600 [v0, v1, v2, v3] st I J Q := rCeq f199_597 rfl rfl
theorem x199_600 : Rn S 199 600 [v0, v1, v2, v3] st I J Q = Rn S 199 601 [v0, v1, v2, v3] (.int 0 :: st) I J Q := rS f199_600 rfl
theorem x199_601 : Rn S 199 601 [v0, v1, v2, v3] [.int a] I J Q = ((a = 0 ∨ a = 1) ∧ Q (some (.int a)) I J) := rRZ f199_601 (Or.inl rfl)
theorem x199_602 : Rn S 199 602 [v0, .ref q, v2, v3] st I J Q = Rn S 199 603 [v0, .ref q, v2, v3] (.ref q :: st) I J Q := rL f199_602 rfl rfl
theorem x199_603 : Rn S 199 603 [.ref q, v1, v2, v3] st I J Q = Rn S 199 604 [.ref q, v1, v2, v3] (.ref q :: st) I J Q := rL f199_603 rfl rfl
theorem x199_604 : Rn S 199 604 [v0, v1, v2, .int a] st I J Q = Rn S 199 605 [v0, v1, v2, .int a] (.int a :: st) I J Q := rL f199_604 rfl rfl
theorem x199_605 : Rn S 199 605 [v0, v1, v2, v3] st I J Q = Rn S 199 606 [v0, v1, v2, v3] (.int 1 :: st) I J Q := rS f199_605 rfl
theorem x199_606 : Rn S 199 606 [v0, v1, v2, v3] (.int b :: .int a :: st) I J Q = Rn S 199 607 [v0, v1, v2, v3] (.int (a + b) :: st) I J Q := rS f199_606 rfl
theorem x199_607 : Rn S 199 607 [v0, v1, v2, v3] (.int a :: .ref q :: st) I J Q = (zai S q a ∧ Rn S 199 608 [v0, v1, v2, v3] (.int (I q a.toNatClampNeg) :: st) I J Q) := rIal f199_607
theorem x199_608 : Rn S 199 608 [v0, v1, v2, v3] (.int a0 :: .ref q :: st) I J Q = ((zcls S q = 5 ∧ zcs st ≤ 8) ∧ Rn S 51 0 [.ref q, .int a0] [] I J (fun v I' J' => Rn S 199 611 [v0, v1, v2, v3] (v.toList ++ st) I' J' Q)) := rCV (As := [.int a0]) f199_608 rfl rfl rfl rfl (Nat.le_of_ble_eq_true rfl)
theorem x199_611 : Rn S 199 611 [v0, v1, .ref q, v3] st I J Q = Rn S 199 612 [v0, v1, .ref q, v3] (.ref q :: st) I J Q := rL f199_611 rfl rfl
theorem x199_612 : Rn S 199 612 [.ref q, v1, v2, v3] st I J Q = Rn S 199 613 [.ref q, v1, v2, v3] (.ref q :: st) I J Q := rL f199_612 rfl rfl
theorem x199_613 : Rn S 199 613 [v0, v1, v2, .int a] st I J Q = Rn S 199 614 [v0, v1, v2, .int a] (.int a :: st) I J Q := rL f199_613 rfl rfl
theorem x199_614 : Rn S 199 614 [v0, v1, v2, v3] st I J Q = Rn S 199 615 [v0, v1, v2, v3] (.int 1 :: st) I J Q := rS f199_614 rfl
theorem x199_615 : Rn S 199 615 [v0, v1, v2, v3] (.int b :: .int a :: st) I J Q = Rn S 199 616 [v0, v1, v2, v3] (.int (a + b) :: st) I J Q := rS f199_615 rfl
theorem x199_616 : Rn S 199 616 [v0, v1, v2, v3] (.int a :: .ref q :: st) I J Q = (zai S q a ∧ Rn S 199 617 [v0, v1, v2, v3] (.int (I q a.toNatClampNeg) :: st) I J Q) := rIal f199_616
theorem x199_617 : Rn S 199 617 [v0, v1, v2, v3] (.int a0 :: .ref q :: st) I J Q = ((zcls S q = 6 ∧ zcs st ≤ 8) ∧ Rn S 149 0 [.ref q, .int a0] [] I J (fun v I' J' => Rn S 199 620 [v0, v1, v2, v3] (v.toList ++ st) I' J' Q)) := rCV (As := [.int a0]) f199_617 rfl rfl rfl rfl (Nat.le_of_ble_eq_true rfl)
theorem x199_620 : Rn S 199 620 [v0, v1, v2, v3] (.int b :: .int a :: st) I J Q = if a = b then Rn S 199 1266 [v0, v1, v2, v3] st I J Q else Rn S 199 623 [v0, v1, v2, v3] st I J Q := rCeq f199_620 rfl rfl
theorem x199_623 : Rn S 199 623 [v0, v1, v2, v3] st I J Q = Rn S 199 624 [v0, v1, v2, v3] (.int 0 :: st) I J Q := rS f199_623 rfl
theorem x199_624 : Rn S 199 624 [v0, v1, v2, v3] [.int a] I J Q = ((a = 0 ∨ a = 1) ∧ Q (some (.int a)) I J) := rRZ f199_624 (Or.inl rfl)
theorem x199_625 : Rn S 199 625 [v0, .ref q, v2, v3] st I J Q = Rn S 199 626 [v0, .ref q, v2, v3] (.ref q :: st) I J Q := rL f199_625 rfl rfl
theorem x199_626 : Rn S 199 626 [v0, v1, v2, v3] (.ref q :: st) I J Q = ((zcls S q = 5 ∧ zcs st ≤ 8) ∧ Rn S 52 0 [.ref q] [] I J (fun v I' J' => Rn S 199 629 [v0, v1, v2, v3] (v.toList ++ st) I' J' Q)) := rCV (As := []) f199_626 rfl rfl rfl rfl (Nat.le_of_ble_eq_true rfl)
theorem x199_629 : Rn S 199 629 [v0, v1, .ref q, v3] st I J Q = Rn S 199 630 [v0, v1, .ref q, v3] (.ref q :: st) I J Q := rL f199_629 rfl rfl
theorem x199_630 : Rn S 199 630 [v0, v1, v2, v3] (.ref q :: st) I J Q = ((zcls S q = 6 ∧ zcs st ≤ 8) ∧ Rn S 151 0 [.ref q] [] I J (fun v I' J' => Rn S 199 633 [v0, v1, v2, v3] (v.toList ++ st) I' J' Q)) := rCV (As := []) f199_630 rfl rfl rfl rfl (Nat.le_of_ble_eq_true rfl)
theorem x199_633 : Rn S 199 633 [v0, v1, v2, v3] (.int b :: .int a :: st) I J Q = if a = b then Rn S 199 1266 [v0, v1, v2, v3] st I J Q else Rn S 199 636 [v0, v1, v2, v3] st I J Q := rCeq f199_633 rfl rfl
theorem x199_636 : Rn S 199 636 [v0, v1, v2, v3] st I J Q = Rn S 199 637 [v0, v1, v2, v3] (.int 0 :: st) I J Q := rS f199_636 rfl
theorem x199_637 : Rn S 199 637 [v0, v1, v2, v3] [.int a] I J Q = ((a = 0 ∨ a = 1) ∧ Q (some (.int a)) I J) := rRZ f199_637 (Or.inl rfl)
theorem x199_638 : Rn S 199 638 [v0, .ref q, v2, v3] st I J Q = Rn S 199 639 [v0, .ref q, v2, v3] (.ref q :: st) I J Q := rL f199_638 rfl rfl
theorem x199_639 : Rn S 199 639 [v0, v1, v2, v3] (.ref q :: st) I J Q = ((zcls S q = 5 ∧ zcs st ≤ 8) ∧ Rn S 53 0 [.ref q, .null, .null] [] I J (fun v I' J' => Rn S 199 642 [v0, v1, v2, v3] (v.toList ++ st) I' J' Q)) := rCV (As := []) f199_639 rfl rfl rfl rfl (Nat.le_of_ble_eq_true rfl)
theorem x199_642 : Rn S 199 642 [v0, v1, .ref q, v3] st I J Q = Rn S 199 643 [v0, v1, .ref q, v3] (.ref q :: st) I J Q := rL f199_642 rfl rfl
theorem x199_643 : Rn S 199 643 [v0, v1, v2, v3] (.ref q :: st) I J Q = ((zcls S q = 6 ∧ zcs st ≤ 8) ∧ Rn S 153 0 [.ref q] [] I J (fun v I' J' => Rn S 199 646 [v0, v1, v2, v3] (v.toList ++ st) I' J' Q)) := rCV (As := []) f199_643 rfl rfl rfl rfl (Nat.le_of_ble_eq_true rfl)
theorem x199_646 : Rn S 199 646 [v0, v1, v2, v3] (.int b :: .int a :: st) I J Q = if a = b then Rn S 199 1266 [v0, v1, v2, v3] st I J Q else Rn S 199 649 [v0, v1, v2, v3] st I J Q := rCeq f199_646 rfl rfl
theorem x199_649 : Rn S 199 649 [v0, v1, v2, v3] st I J Q = Rn S 199 650 [v0, v1, v2, v3] (.int 0 :: st) I J Q := rS f199_649 rfl
theorem x199_650 : Rn S 199 650 [v0, v1, v2, v3] [.int a] I J Q = ((a = 0 ∨ a = 1) ∧ Q (some (.int a)) I J) := rRZ f199_650 (Or.inl rfl)
theorem x199_651 : Rn S 199 651 [v0, .ref q, v2, v3] st I J Q = Rn S 199 652 [v0, .ref q, v2, v3] (.ref q :: st) I J Q := rL f199_651 rfl rfl
theorem x199_652 : Rn S 199 652 [.ref q, v1, v2, v3] st I J Q = Rn S 199 653 [.ref q, v1, v2, v3] (.ref q :: st) I J Q := rL f199_652 rfl rfl
theorem x199_653 : Rn S 199 653 [v0, v1, v2, .int a] st I J Q = Rn S 199 654 [v0, v1, v2, .int a] (.int a :: st) I J Q := rL f199_653 rfl rfl
theorem x199_654 : Rn S 199 654 [v0, v1, v2, v3] st I J Q = Rn S 199 655 [v0, v1, v2, v3] (.int 1 :: st) I J Q := rS f199_654 rfl
theorem x199_655 : Rn S 199 655 [v0, v1, v2, v3] (.int b :: .int a :: st) I J Q = Rn S 199 656 [v0, v1, v2, v3] (.int (a + b) :: st) I J Q := rS f199_655 rfl
theorem x199_656 : Rn S 199 656 [v0, v1, v2, v3] (.int a :: .ref q :: st) I J Q = (zai S q a ∧ Rn S 199 657 [v0, v1, v2, v3] (.int (I q a.toNatClampNeg) :: st) I J Q) := rIal f199_656
theorem x199_657 : Rn S 199 657 [v0, v1, v2, v3] (.int a0 :: .ref q :: st) I J Q = ((zcls S q = 5 ∧ zcs st ≤ 8) ∧ Rn S 54 0 [.ref q, .int a0] [] I J (fun v I' J' => Rn S 199 660 [v0, v1, v2, v3] (v.toList ++ st) I' J' Q)) := rCV (As := [.int a0]) f199_657 rfl rfl rfl rfl (Nat.le_of_ble_eq_true rfl)
theorem x199_660 : Rn S 199 660 [v0, v1, .ref q, v3] st I J Q = Rn S 199 661 [v0, v1, .ref q, v3] (.ref q :: st) I J Q := rL f199_660 rfl rfl
theorem x199_661 : Rn S 199 661 [.ref q, v1, v2, v3] st I J Q = Rn S 199 662 [.ref q, v1, v2, v3] (.ref q :: st) I J Q := rL f199_661 rfl rfl
theorem x199_662 : Rn S 199 662 [v0, v1, v2, .int a] st I J Q = Rn S 199 663 [v0, v1, v2, .int a] (.int a :: st) I J Q := rL f199_662 rfl rfl
theorem x199_663 : Rn S 199 663 [v0, v1, v2, v3] st I J Q = Rn S 199 664 [v0, v1, v2, v3] (.int 1 :: st) I J Q := rS f199_663 rfl
theorem x199_664 : Rn S 199 664 [v0, v1, v2, v3] (.int b :: .int a :: st) I J Q = Rn S 199 665 [v0, v1, v2, v3] (.int (a + b) :: st) I J Q := rS f199_664 rfl
theorem x199_665 : Rn S 199 665 [v0, v1, v2, v3] (.int a :: .ref q :: st) I J Q = (zai S q a ∧ Rn S 199 666 [v0, v1, v2, v3] (.int (I q a.toNatClampNeg) :: st) I J Q) := rIal f199_665
theorem x199_666 : Rn S 199 666 [v0, v1, v2, v3] (.int a0 :: .ref q :: st) I J Q = ((zcls S q = 6 ∧ zcs st ≤ 8) ∧ Rn S 155 0 [.ref q, .int a0] [] I J (fun v I' J' => Rn S 199 669 [v0, v1, v2, v3] (v.toList ++ st) I' J' Q)) := rCV (As := [.int a0]) f199_666 rfl rfl rfl rfl (Nat.le_of_ble_eq_true rfl)
theorem x199_669 : Rn S 199 669 [v0, v1, v2, v3] (.int b :: .int a :: st) I J Q = if a = b then Rn S 199 1266 [v0, v1, v2, v3] st I J Q else Rn S 199 672 [v0, v1, v2, v3] st I J Q := rCeq f199_669 rfl rfl
theorem x199_672 : Rn S 199 672 [v0, v1, v2, v3] st I J Q = Rn S 199 673 [v0, v1, v2, v3] (.int 0 :: st) I J Q := rS f199_672 rfl
theorem x199_673 : Rn S 199 673 [v0, v1, v2, v3] [.int a] I J Q = ((a = 0 ∨ a = 1) ∧ Q (some (.int a)) I J) := rRZ f199_673 (Or.inl rfl)
theorem x199_674 : Rn S 199 674 [v0, .ref q, v2, v3] st I J Q = Rn S 199 675 [v0, .ref q, v2, v3] (.ref q :: st) I J Q := rL f199_674 rfl rfl
theorem x199_675 : Rn S 199 675 [.ref q, v1, v2, v3] st I J Q = Rn S 199 676 [.ref q, v1, v2, v3] (.ref q :: st) I J Q := rL f199_675 rfl rfl
theorem x199_676 : Rn S 199 676 [v0, v1, v2, .int a] st I J Q = Rn S 199 677 [v0, v1, v2, .int a] (.int a :: st) I J Q := rL f199_676 rfl rfl
theorem x199_677 : Rn S 199 677 [v0, v1, v2, v3] st I J Q = Rn S 199 678 [v0, v1, v2, v3] (.int 1 :: st) I J Q := rS f199_677 rfl
theorem x199_678 : Rn S 199 678 [v0, v1, v2, v3] (.int b :: .int a :: st) I J Q = Rn S 199 679 [v0, v1, v2, v3] (.int (a + b) :: st) I J Q := rS f199_678 rfl
theorem x199_679 : Rn S 199 679 [v0, v1, v2, v3] (.int a :: .ref q :: st) I J Q = (zai S q a ∧ Rn S 199 680 [v0, v1, v2, v3] (.int (I q a.toNatClampNeg) :: st) I J Q) := rIal f199_679
theorem x199_680 : Rn S 199 680 [v0, v1, v2, v3] (.int a0 :: .ref q :: st) I J Q = ((zcls S q = 5 ∧ zcs st ≤ 8) ∧ Rn S 55 0 [.ref q, .int a0] [] I J (fun v I' J' => Rn S 199 683 [v0, v1, v2, v3] (v.toList ++ st) I' J' Q)) := rCV (As := [.int a0]) f199_680 rfl rfl rfl rfl (Nat.le_of_ble_eq_true rfl)
theorem x199_683 : Rn S 199 683 [v0, v1, .ref q, v3] st I J Q = Rn S 199 684 [v0, v1, .ref q, v3] (.ref q :: st) I J Q := rL f199_683 rfl rfl
theorem x199_684 : Rn S 199 684 [.ref q, v1, v2, v3] st I J Q = Rn S 199 685 [.ref q, v1, v2, v3] (.ref q :: st) I J Q := rL f199_684 rfl rfl
theorem x199_685 : Rn S 199 685 [v0, v1, v2, .int a] st I J Q = Rn S 199 686 [v0, v1, v2, .int a] (.int a :: st) I J Q := rL f199_685 rfl rfl
theorem x199_686 : Rn S 199 686 [v0, v1, v2, v3] st I J Q = Rn S 199 687 [v0, v1, v2, v3] (.int 1 :: st) I J Q := rS f199_686 rfl
theorem x199_687 : Rn S 199 687 [v0, v1, v2, v3] (.int b :: .int a :: st) I J Q = Rn S 199 688 [v0, v1, v2, v3] (.int (a + b) :: st) I J Q := rS f199_687 rfl
theorem x199_688 : Rn S 199 688 [v0, v1, v2, v3] (.int a :: .ref q :: st) I J Q = (zai S q a ∧ Rn S 199 689 [v0, v1, v2, v3] (.int (I q a.toNatClampNeg) :: st) I J Q) := rIal f199_688
theorem x199_689 : Rn S 199 689 [v0, v1, v2, v3] (.int a0 :: .ref q :: st) I J Q = ((zcls S q = 6 ∧ zcs st ≤ 8) ∧ Rn S 157 0 [.ref q, .int a0] [] I J (fun v I' J' => Rn S 199 692 [v0, v1, v2, v3] (v.toList ++ st) I' J' Q)) := rCV (As := [.int a0]) f199_689 rfl rfl rfl rfl (Nat.le_of_ble_eq_true rfl)
theorem x199_692 : Rn S 199 692 [v0, v1, v2, v3] (.int b :: .int a :: st) I J Q = if a = b then Rn S 199 1266 [v0, v1, v2, v3] st I J Q else Rn S 199 695 [v0, v1, v2, v3] st I J Q := rCeq f199_692 rfl rfl
theorem x199_695 : Rn S 199 695 [v0, v1, v2, v3] st I J Q = Rn S 199 696 [v0, v1, v2, v3] (.int 0 :: st) I J Q := rS f199_695 rfl
theorem x199_696 : Rn S 199 696 [v0, v1, v2, v3] [.int a] I J Q = ((a = 0 ∨ a = 1) ∧ Q (some (.int a)) I J) := rRZ f199_696 (Or.inl rfl)
theorem x199_697 : Rn S 199 697 [v0, .ref q, v2, v3] st I J Q = Rn S 199 698 [v0, .ref q, v2, v3] (.ref q :: st) I J Q := rL f199_697 rfl rfl
theorem x199_698 : Rn S 199 698 [v0, v1, v2, v3] (.ref q :: st) I J Q = ((zcls S q = 5 ∧ zcs st ≤ 8) ∧ Rn S 56 0 [.ref q, .null] [] I J (fun v I' J' => Rn S 199 701 [v0, v1, v2, v3] (v.toList ++ st) I' J' Q)) := rCV (As := []) f199_698 rfl rfl rfl rfl (Nat.le_of_ble_eq_true rfl)
theorem x199_701 : Rn S 199 701 [v0, v1, .ref q, v3] st I J Q = Rn S 199 702 [v0, v1, .ref q, v3] (.ref q :: st) I J Q := rL f199_701 rfl rfl
theorem x199_702 : Rn S 199 702 [v0, v1, v2, v3] (.ref q :: st) I J Q = ((zcls S q = 6 ∧ zcs st ≤ 8) ∧ Rn S 159 0 [.ref q] [] I J (fun v I' J' => Rn S 199 705 [v0, v1, v2, v3] (v.toList ++ st) I' J' Q)) := rCV (As := []) f199_702 rfl rfl rfl rfl (Nat.le_of_ble_eq_true rfl)
theorem x199_705 : Rn S 199 705 [v0, v1, v2, v3] (.int b :: .int a :: st) I J Q = if a = b then Rn S 199 1266 [v0, v1, v2, v3] st I J Q else Rn S 199 708 [v0, v1, v2, v3] st I J Q := rCeq f199_705 rfl rfl
theorem x199_708 : Rn S 199 708 [v0, v1, v2, v3] st I J Q = Rn S 199 709 [v0, v1, v2, v3] (.int 0 :: st) I J Q := rS f199_708 rfl
theorem x199_709 : Rn S 199 709 [v0, v1, v2, v3] [.int a] I J Q = ((a = 0 ∨ a = 1) ∧ Q (some (.int a)) I J) := rRZ f199_709 (Or.inl rfl)
theorem x199_710 : Rn S 199 710 [v0, .ref q, v2, v3] st I J Q = Rn S 199 711 [v0, .ref q, v2, v3] (.ref q :: st) I J Q := rL f199_710 rfl rfl
theorem x199_711 : Rn S 199 711 [.ref q, v1, v2, v3] st I J Q = Rn S 199 712 [.ref q, v1, v2, v3] (.ref q :: st) I J Q := rL f199_711 rfl rfl
theorem x199_712 : Rn S 199 712 [v0, v1, v2, .int a] st I J Q = Rn S 199 713 [v0, v1, v2, .int a] (.int a :: st) I J Q := rL f199_712 rfl rfl
theorem x199_713 : Rn S 199 713 [v0, v1, v2, v3] st I J Q = Rn S 199 714 [v0, v1, v2, v3] (.int 1 :: st) I J Q := rS f199_713 rfl
theorem x199_714 : Rn S 199 714 [v0, v1, v2, v3] (.int b :: .int a :: st) I J Q = Rn S 199 715 [v0, v1, v2, v3] (.int (a + b) :: st) I J Q := rS f199_714 rfl
theorem x199_715 : Rn S 199 715 [v0, v1, v2, v3] (.int a :: .ref q :: st) I J Q = (zai S q a ∧ Rn S 199 716 [v0, v1, v2, v3] (.int (I q a.toNatClampNeg) :: st) I J Q) := rIal f199_715
theorem x199_716 : Rn S 199 716 [v0, v1, v2, v3] (.int a0 :: .ref q :: st) I J Q = ((zcls S q = 5 ∧ zcs st ≤ 8) ∧ Rn S 57 0 [.ref q, .int a0] [] I J (fun v I' J' => Rn S 199 719 [v0, v1, v2, v3] (v.toList ++ st) I' J' Q)) := rCV (As := [.int a0]) f199_716 rfl rfl rfl rfl (Nat.le_of_ble_eq_true rfl)
theorem x199_719 : Rn S 199 719 [v0, v1, .ref q, v3] st I J Q = Rn S 199 720 [v0, v1, .ref q, v3] (.ref q :: st) I J Q := rL f199_719 rfl rfl
theorem x199_720 : Rn S 199 720 [.ref q, v1, v2, v3] st I J Q = Rn S 199 721 [.ref q, v1, v2, v3] (.ref q :: st) I J Q := rL f199_720 rfl rfl
theorem x199_721 : Rn S 199 721 [v0, v1, v2, .int a] st I J Q = Rn S 199 722 [v0, v1, v2, .int a] (.int a :: st) I J Q := rL f199_721 rfl rfl
theorem x199_722 : Rn S 199 722 [v0, v1, v2, v3] st I J Q = Rn S 199 723 [v0, v1, v2, v3] (.int 1 :: st) I J Q := rS f199_722 rfl
theorem x199_723 : Rn S 199 723 [v0, v1, v2, v3] (.int b :: .int a :: st) I J Q = Rn S 199 724 [v0, v1, v2, v3] (.int (a + b) :: st) I J Q := rS f199_723 rfl
theorem x199_724 : Rn S 199 724 [v0, v1, v2, v3] (.int a :: .ref q :: st) I J Q = (zai S q a ∧ Rn S 199 725 [v0, v1, v2, v3] (.int (I q a.toNatClampNeg) :: st) I J Q) := rIal f199_724
theorem x199_725 : Rn S 199 725 [v0, v1, v2, v3] (.int a0 :: .ref q :: st) I J Q = ((zcls S q = 6 ∧ zcs st ≤ 8) ∧ Rn S 162 0 [.ref q, .int a0] [] I J (fun v I' J' => Rn S 199 728 [v0, v1, v2, v3] (v.toList ++ st) I' J' Q)) := rCV (As := [.int a0]) f199_725 rfl rfl rfl rfl (Nat.le_of_ble_eq_true rfl)
theorem x199_728 : Rn S 199 728 [v0, v1, v2, v3] (.int b :: .int a :: st) I J Q = if a = b then Rn S 199 1266 [v0, v1, v2, v3] st I J Q else Rn S 199 731 [v0, v1, v2, v3] st I J Q := rCeq f199_728 rfl rfl
theorem x199_731 : Rn S 199 731 [v0, v1, v2, v3] st I J Q = Rn S 199 732 [v0, v1, v2, v3] (.int 0 :: st) I J Q := rS f199_731 rfl
theorem x199_732 : Rn S 199 732 [v0, v1, v2, v3] [.int a] I J Q = ((a = 0 ∨ a = 1) ∧ Q (some (.int a)) I J) := rRZ f199_732 (Or.inl rfl)
theorem x199_733 : Rn S 199 733 [v0, .ref q, v2, v3] st I J Q = Rn S 199 734 [v0, .ref q, v2, v3] (.ref q :: st) I J Q := rL f199_733 rfl rfl
theorem x199_734 : Rn S 199 734 [.ref q, v1, v2, v3] st I J Q = Rn S 199 735 [.ref q, v1, v2, v3] (.ref q :: st) I J Q := rL f199_734 rfl rfl
theorem x199_735 : Rn S 199 735 [v0, v1, v2, .int a] st I J Q = Rn S 199 736 [v0, v1, v2, .int a] (.int a :: st) I J Q := rL f199_735 rfl rfl
theorem x199_736 : Rn S 199 736 [v0, v1, v2, v3] st I J Q = Rn S 199 737 [v0, v1, v2, v3] (.int 1 :: st) I J Q := rS f199_736 rfl
theorem x199_737 : Rn S 199 737 [v0, v1, v2, v3] (.int b :: .int a :: st) I J Q = Rn S 199 738 [v0, v1, v2, v3] (.int (a + b) :: st) I J Q := rS f199_737 rfl
theorem x199_738 : Rn S 199 738 [v0, v1, v2, v3] (.int a :: .ref q :: st) I J Q = (zai S q a ∧ Rn S 199 739 [v0, v1, v2, v3] (.int (I q a.toNatClampNeg) :: st) I J Q) := rIal f199_738
theorem x199_739 : Rn S 199 739 [v0, v1, v2, v3] (.int a0 :: .ref q :: st) I J Q = ((zcls S q = 5 ∧ zcs st ≤ 8) ∧ Rn S 58 0 [.ref q, .int a0] [] I J (fun v I' J' => Rn S 199 742 [v0, v1, v2, v3] (v.toList ++ st) I' J' Q)) := rCV (As := [.int a0]) f199_739 rfl rfl rfl rfl (Nat.le_of_ble_eq_true rfl)
theorem x199_742 : Rn S 199 742 [v0, v1, .ref q, v3] st I J Q = Rn S 199 743 [v0, v1, .ref q, v3] (.ref q :: st) I J Q := rL f199_742 rfl rfl
theorem x199_743 : Rn S 199 743 [.ref q, v1, v2, v3] st I J Q = Rn S 199 744 [.ref q, v1, v2, v3] (.ref q :: st) I J Q := rL f199_743 rfl rfl
theorem x199_744 : Rn S 199 744 [v0, v1, v2, .int a] st I J Q = Rn S 199 745 [v0, v1, v2, .int a] (.int a :: st) I J Q := rL f199_744 rfl rfl
theorem x199_745 : Rn S 199 745 [v0, v1, v2, v3] st I J Q = Rn S 199 746 [v0, v1, v2, v3] (.int 1 :: st) I J Q := rS f199_745 rfl
theorem x199_746 : Rn S 199 746 [v0, v1, v2, v3] (.int b :: .int a :: st) I J Q = Rn S 199 747 [v0, v1, v2, v3] (.int (a + b) :: st) I J Q := rS f199_746 rfl
theorem x199_747 : Rn S 199 747 [v0, v1, v2, v3] (.int a :: .ref q :: st) I J Q = (zai S q a ∧ Rn S 199 748 [v0, v1, v2, v3] (.int (I q a.toNatClampNeg) :: st) I J Q) := rIal f199_747
theorem x199_748 : Rn S 199 748 [v0, v1, v2, v3] (.int a0 :: .ref q :: st) I J Q = ((zcls S q = 6 ∧ zcs st ≤ 8) ∧ Rn S 165 0 [.ref q, .int a0] [] I J (fun v I' J' => Rn S 199 751 [v0, v1, v2, v3] (v.toList ++ st) I' J' Q)) := rCV (As := [.int a0]) f199_748 rfl rfl rfl rfl (Nat.le_of_ble_eq_true rfl)
theorem x199_751 : Rn S 199 751 [v0, v1, v2, v3] (.int b :: .int a :: st) I J Q = if a = b then Rn S 199 1266 [v0, v1, v2, v3] st I J Q else Rn S 199 754 [v0, v1, v2, v3] st I J Q := rCeq f199_751 rfl rfl
theorem x199_754 : Rn S 199 754 [v0, v1, v2, v3] st I J Q = Rn S 199 755 [v0, v1, v2, v3] (.int 0 :: st) I J Q := rS f199_754 rfl
theorem x199_755 : Rn S 199 755 [v0, v1, v2, v3] [.int a] I J Q = ((a = 0 ∨ a = 1) ∧ Q (some (.int a)) I J) := rRZ f199_755 (Or.inl rfl)
theorem x199_756 : Rn S 199 756 [v0, .ref q, v2, v3] st I J Q = Rn S 199 757 [v0, .ref q, v2, v3] (.ref q :: st) I J Q := rL f199_756 rfl rfl
theorem x199_757 : Rn S 199 757 [.ref q, v1, v2, v3] st I J Q = Rn S 199 758 [.ref q, v1, v2, v3] (.ref q :: st) I J Q := rL f199_757 rfl rfl
theorem x199_758 : Rn S 199 758 [v0, v1, v2, .int a] st I J Q = Rn S 199 759 [v0, v1, v2, .int a] (.int a :: st) I J Q := rL f199_758 rfl rfl
theorem x199_759 : Rn S 199 759 [v0, v1, v2, v3] st I J Q = Rn S 199 760 [v0, v1, v2, v3] (.int 1 :: st) I J Q := rS f199_759 rfl
theorem x199_760 : Rn S 199 760 [v0, v1, v2, v3] (.int b :: .int a :: st) I J Q = Rn S 199 761 [v0, v1, v2, v3] (.int (a + b) :: st) I J Q := rS f199_760 rfl
theorem x199_761 : Rn S 199 761 [v0, v1, v2, v3] (.int a :: .ref q :: st) I J Q = (zai S q a ∧ Rn S 199 762 [v0, v1, v2, v3] (.int (I q a.toNatClampNeg) :: st) I J Q) := rIal f199_761
theorem x199_762 : Rn S 199 762 [.ref q, v1, v2, v3] st I J Q = Rn S 199 763 [.ref q, v1, v2, v3] (.ref q :: st) I J Q := rL f199_762 rfl rfl
theorem x199_763 : Rn S 199 763 [v0, v1, v2, .int a] st I J Q = Rn S 199 764 [v0, v1, v2, .int a] (.int a :: st) I J Q := rL f199_763 rfl rfl
theorem x199_764 : Rn S 199 764 [v0, v1, v2, v3] st I J Q = Rn S 199 765 [v0, v1, v2, v3] (.int 2 :: st) I J Q := rS f199_764 rfl
theorem x199_765 : Rn S 199 765 [v0, v1, v2, v3] (.int b :: .int a :: st) I J Q = Rn S 199 766 [v0, v1, v2, v3] (.int (a + b) :: st) I J Q := rS f199_765 rfl
theorem x199_766 : Rn S 199 766 [v0, v1, v2, v3] (.int a :: .ref q :: st) I J Q = (zai S q a ∧ Rn S 199 767 [v0, v1, v2, v3] (.int (I q a.toNatClampNeg) :: st) I J Q) := rIal f199_766
theorem x199_767 : Rn S 199 767 [.ref q, v1, v2, v3] st I J Q = Rn S 199 768 [.ref q, v1, v2, v3] (.ref q :: st) I J Q := rL f199_767 rfl rfl
theorem x199_768 : Rn S 199 768 [v0, v1, v2, .int a] st I J Q = Rn S 199 769 [v0, v1, v2, .int a] (.int a :: st) I J Q := rL f199_768 rfl rfl
theorem x199_769 : Rn S 199 769 [v0, v1, v2, v3] st I J Q = Rn S 199 770 [v0, v1, v2, v3] (.int 3 :: st) I J Q := rS f199_769 rfl
theorem x199_770 : Rn S 199 770 [v0, v1, v2, v3] (.int b :: .int a :: st) I J Q = Rn S 199 771 [v0, v1, v2, v3] (.int (a + b) :: st) I J Q := rS f199_770 rfl
theorem x199_771 : Rn S 199 771 [v0, v1, v2, v3] (.int a :: .ref q :: st) I J Q = (zai S q a ∧ Rn S 199 772 [v0, v1, v2, v3] (.int (I q a.toNatClampNeg) :: st) I J Q) := rIal f199_771
theorem x199_772 : Rn S 199 772 [v0, v1, v2, v3] (.int a2 :: .int a1 :: .int a0 :: .ref q :: st) I J Q = ((zcls S q = 5 ∧ zcs st ≤ 8) ∧ Rn S 59 0 [.ref q, .int a0, .int a1, .int a2] [] I J (fun v I' J' => Rn S 199 775 [v0, v1, v2, v3] (v.toList ++ st) I' J' Q)) := rCV (As := [.int a0, .int a1, .int a2]) f199_772 rfl rfl rfl rfl (Nat.le_of_ble_eq_true rfl)
theorem x199_775 : Rn S 199 775 [v0, v1, .ref q, v3] st I J Q = Rn S 199 776 [v0, v1, .ref q, v3] (.ref q :: st) I J Q := rL f199_775 rfl rfl
theorem x199_776 : Rn S 199 776 [.ref q, v1, v2, v3] st I J Q = Rn S 199 777 [.ref q, v1, v2, v3] (.ref q :: st) I J Q := rL f199_776 rfl rfl
theorem x199_777 : Rn S 199 777 [v0, v1, v2, .int a] st I J Q = Rn S 199 778 [v0, v1, v2, .int a] (.int a :: st) I J Q := rL f199_777 rfl rfl
theorem x199_778 : Rn S 199 778 [v0, v1, v2, v3] st I J Q = Rn S 199 779 [v0, v1, v2, v3] (.int 1 :: st) I J Q := rS f199_778 rfl
theorem x199_779 : Rn S 199 779 [v0, v1, v2, v3] (.int b :: .int a :: st) I J Q = Rn S 199 780 [v0, v1, v2, v3] (.int (a + b) :: st) I J Q := rS f199_779 rfl
theorem x199_780 : Rn S 199 780 [v0, v1, v2, v3] (.int a :: .ref q :: st) I J Q = (zai S q a ∧ Rn S 199 781 [v0, v1, v2, v3] (.int (I q a.toNatClampNeg) :: st) I J Q) := rIal f199_780
theorem x199_781 : Rn S 199 781 [.ref q, v1, v2, v3] st I J Q = Rn S 199 782 [.ref q, v1, v2, v3] (.ref q :: st) I J Q := rL f199_781 rfl rfl
theorem x199_782 : Rn S 199 782 [v0, v1, v2, .int a] st I J Q = Rn S 199 783 [v0, v1, v2, .int a] (.int a :: st) I J Q := rL f199_782 rfl rfl
theorem x199_783 : Rn S 199 783 [v0, v1, v2, v3] st I J Q = Rn S 199 784 [v0, v1, v2, v3] (.int 2 :: st) I J Q := rS f199_783 rfl
theorem x199_784 : Rn S 199 784 [v0, v1, v2, v3] (.int b :: .int a :: st) I J Q = Rn S 199 785 [v0, v1, v2, v3] (.int (a + b) :: st) I J Q := rS f199_784 rfl
theorem x199_785 : Rn S 199 785 [v0, v1, v2, v3] (.int a :: .ref q :: st) I J Q = (zai S q a ∧ Rn S 199 786 [v0, v1, v2, v3] (.int (I q a.toNatClampNeg) :: st) I J Q) := rIal f199_785
theorem x199_786 : Rn S 199 786 [.ref q, v1, v2, v3] st I J Q = Rn S 199 787 [.ref q, v1, v2, v3] (.ref q :: st) I J Q := rL f199_786 rfl rfl
theorem x199_787 : Rn S 199 787 [v0, v1, v2, .int a] st I J Q = Rn S 199 788 [v0, v1, v2, .int a] (.int a :: st) I J Q := rL f199_787 rfl rfl
theorem x199_788 : Rn S 199 788 [v0, v1, v2, v3] st I J Q = Rn S 199 789 [v0, v1, v2, v3] (.int 3 :: st) I J Q := rS f199_788 rfl
theorem x199_789 : Rn S 199 789 [v0, v1, v2, v3] (.int b :: .int a :: st) I J Q = Rn S 199 790 [v0, v1, v2, v3] (.int (a + b) :: st) I J Q := rS f199_789 rfl
theorem x199_790 : Rn S 199 790 [v0, v1, v2, v3] (.int a :: .ref q :: st) I J Q = (zai S q a ∧ Rn S 199 791 [v0, v1, v2, v3] (.int (I q a.toNatClampNeg) :: st) I J Q) := rIal f199_790
theorem x199_791 : Rn S 199 791 [v0, v1, v2, v3] (.int a2 :: .int a1 :: .int a0 :: .ref q :: st) I J Q = ((zcls S q = 6 ∧ zcs st ≤ 8) ∧ Rn S 166 0 [.ref q, .int a0, .int a1, .int a2] [] I J (fun v I' J' => Rn S 199 794 [v0, v1, v2, v3] (v.toList ++ st) I' J' Q)) := rCV (As := [.int a0, .int a1, .int a2]) f199_791 rfl rfl rfl rfl (Nat.le_of_ble_eq_true rfl)
theorem x199_794 : Rn S 199 794 [v0, v1, v2, v3] (.int b :: .int a :: st) I J Q = if a = b then Rn S 199 1266 [v0, v1, v2, v3] st I J Q else Rn S 199 797 [v0, v1, v2, v3] st I J Q := rCeq f199_794 rfl rfl
theorem x199_797 : Rn S 199 797 [v0, v1, v2, v3] st I J Q = Rn S 199 798 [v0, v1, v2, v3] (.int 0 :: st) I J Q := rS f199_797 rfl
theorem x199_798 : Rn S 199 798 [v0, v1, v2, v3] [.int a] I J Q = ((a = 0 ∨ a = 1) ∧ Q (some (.int a)) I J) := rRZ f199_798 (Or.inl rfl)
theorem x199_799 : Rn S 199 799 [v0, .ref q, v2, v3] st I J Q = Rn S 199 800 [v0, .ref q, v2, v3] (.ref q :: st) I J Q := rL f199_799 rfl rfl
theorem x199_800 : Rn S 199 800 [v0, v1, v2, v3] (.ref q :: st) I J Q = ((zcls S q = 5 ∧ zcs st ≤ 8) ∧ Rn S 60 0 [.ref q, .null] [] I J (fun v I' J' => Rn S 199 803 [v0, v1, v2, v3] (v.toList ++ st) I' J' Q)) := rCV (As := []) f199_800 rfl rfl rfl rfl (Nat.le_of_ble_eq_true rfl)
theorem x199_803 : Rn S 199 803 [v0, v1, .ref q, v3] st I J Q = Rn S 199 804 [v0, v1, .ref q, v3] (.ref q :: st) I J Q := rL f199_803 rfl rfl
theorem x199_804 : Rn S 199 804 [v0, v1, v2, v3] (.ref q :: st) I J Q = ((zcls S q = 6 ∧ zcs st ≤ 8) ∧ Rn S 167 0 [.ref q, .null] [] I J (fun v I' J' => Rn S 199 807 [v0, v1, v2, v3] (v.toList ++ st) I' J' Q)) := rCV (As := []) f199_804 rfl rfl rfl rfl (Nat.le_of_ble_eq_true rfl)
theorem x199_807 : Rn S 199 807 [v0, v1, v2, v3] (.int b :: .int a :: st) I J Q = if a = b then Rn S 199 1266 [v0, v1, v2, v3] st I J Q else Rn S 199 810 [v0, v1, v2, v3] st I J Q := rCeq f199_807 rfl rfl
theorem x199_810 : Rn S 199 810 [v0, v1, v2, v3] st I J Q = Rn S 199 811 [v0, v1, v2, v3] (.int 0 :: st) I J Q := rS f199_810 rfl
theorem x199_811 : Rn S 199 811 [v0, v1, v2, v3] [.int a] I J Q = ((a = 0 ∨ a = 1) ∧ Q (some (.int a)) I J) := rRZ f199_811 (Or.inl rfl)
theorem x199_812 : Rn S 199 812 [v0, .ref q, v2, v3] st I J Q = Rn S 199 813 [v0, .ref q, v2, v3] (.ref q :: st) I J Q := rL f199_812 rfl rfl
theorem x199_813 : Rn S 199 813 [v0, v1, v2, v3] (.ref q :: st) I J Q = ((zcls S q = 5 ∧ zcs st ≤ 8) ∧ Rn S 61 0 [.ref q, .null, .null] [] I J (fun v I' J' => Rn S 199 816 [v0, v1, v2, v3] (v.toList ++ st) I' J' Q)) := rCV (As := []) f199_813 rfl rfl rfl rfl (Nat.le_of_ble_eq_true rfl)
theorem x199_816 : Rn S 199 816 [v0, v1, .ref q, v3] st I J Q = Rn S 199 817 [v0, v1, .ref q, v3] (.ref q :: st) I J Q := rL f199_816 rfl rfl
theorem x199_817 : Rn S 199 817 [v0, v1, v2, v3] (.ref q :: st) I J Q = ((zcls S q = 6 ∧ zcs st ≤ 8) ∧ Rn S 170 0 [.ref q] [] I J (fun v I' J' => Rn S 199 820 [v0, v1, v2, v3] (v.toList ++ st) I' J' Q)) := rCV (As := []) f199_817 rfl rfl rfl rfl (Nat.le_of_ble_eq_true rfl)
theorem x199_820 : Rn S 199 820 [v0, v1, v2, v3] (.int b :: .int a :: st) I J Q = if a = b then Rn S 199 1266 [v0, v1, v2, v3] st I J Q else Rn S 199 823 [v0, v1, v2, v3] st I J Q := rCeq f199_820 rfl rfl
theorem x199_823 : Rn S 199 823 [v0, v1, v2, v3] st I J Q = Rn S 199 824 [v0, v1, v2, v3] (.int 0 :: st) I J Q := rS f199_823 rfl
theorem x199_824 : Rn S 199 824 [v0, v1, v2, v3] [.int a] I J Q = ((a = 0 ∨ a = 1) ∧ Q (some (.int a)) I J) := rRZ f199_824 (Or.inl rfl)
theorem x199_825 : Rn S 199 825 [v0, .ref q, v2, v3] st I J Q = Rn S 199 826 [v0, .ref q, v2, v3] (.ref q :: st) I J Q := rL f199_825 rfl rfl
theorem x199_826 : Rn S 199 826 [.ref q, v1, v2, v3] st I J Q = Rn S 199 827 [.ref q, v1, v2, v3] (.ref q :: st) I J Q := rL f199_826 rfl rfl
theorem x199_827 : Rn S 199 827 [v0, v1, v2, .int a] st I J Q = Rn S 199 828 [v0, v1, v2, .int a] (.int a :: st) I J Q := rL f199_827 rfl rfl
theorem x199_828 : Rn S 199 828 [v0, v1, v2, v3] st I J Q = Rn S 199 829 [v0, v1, v2, v3] (.int 1 :: st) I J Q := rS f199_828 rfl
theorem x199_829 : Rn S 199 829 [v0, v1, v2, v3] (.int b :: .int a :: st) I J Q = Rn S 199 830 [v0, v1, v2, v3] (.int (a + b) :: st) I J Q := rS f199_829 rfl
theorem x199_830 : Rn S 199 830 [v0, v1, v2, v3] (.int a :: .ref q :: st) I J Q = (zai S q a ∧ Rn S 199 831 [v0, v1, v2, v3] (.int (I q a.toNatClampNeg) :: st) I J Q) := rIal f199_830
theorem x199_831 : Rn S 199 831 [v0, v1, v2, v3] (.int a0 :: .ref q :: st) I J Q = ((zcls S q = 5 ∧ zcs st ≤ 8) ∧ Rn S 62 0 [.ref q, .int a0] [] I J (fun v I' J' => Rn S 199 834 [v0, v1, v2, v3] (v.toList ++ st) I' J' Q)) := rCV (As := [.int a0]) f199_831 rfl rfl rfl rfl (Nat.le_of_ble_eq_true rfl)
theorem x199_834 : Rn S 199 834 [v0, v1, .ref q, v3] st I J Q = Rn S 199 835 [v0, v1, .ref q, v3] (.ref q :: st) I J Q := rL f199_834 rfl rfl
theorem x199_835 : Rn S 199 835 [.ref q, v1, v2, v3] st I J Q = Rn S 199 836 [.ref q, v1, v2, v3] (.ref q :: st) I J Q := rL f199_835 rfl rfl
theorem x199_836 : Rn S 199 836 [v0, v1, v2, .int a] st I J Q = Rn S 199 837 [v0, v1, v2, .int a] (.int a :: st) I J Q := rL f199_836 rfl rfl
theorem x199_837 : Rn S 199 837 [v0, v1, v2, v3] st I J Q = Rn S 199 838 [v0, v1, v2, v3] (.int 1 :: st) I J Q := rS f199_837 rfl
theorem x199_838 : Rn S 199 838 [v0, v1, v2, v3] (.int b :: .int a :: st) I J Q = Rn S 199 839 [v0, v1, v2, v3] (.int (a + b) :: st) I J Q := rS f199_838 rfl
theorem x199_839 : Rn S 199 839 [v0, v1, v2, v3] (.int a :: .ref q :: st) I J Q = (zai S q a ∧ Rn S 199 840 [v0, v1, v2, v3] (.int (I q a.toNatClampNeg) :: st) I J Q) := rIal f199_839
theorem x199_840 : Rn S 199 840 [v0, v1, v2, v3] (.int a0 :: .ref q :: st) I J Q = ((zcls S q = 6 ∧ zcs st ≤ 8) ∧ Rn S 172 0 [.ref q, .int a0] [] I J (fun v I' J' => Rn S 199 843 [v0, v1, v2, v3] (v.toList ++ st) I' J' Q)) := rCV (As := [.int a0]) f199_840 rfl rfl rfl rfl (Nat.le_of_ble_eq_true rfl)
theorem x199_843 : Rn S 199 843 [v0, v1, v2, v3] (.int b :: .int a :: st) I J Q = if a = b then Rn S 199 1266 [v0, v1, v2, v3] st I J Q else Rn S 199 846 [v0, v1, v2, v3] st I J Q := rCeq f199_843 rfl rfl
theorem x199_846 : Rn S 199 846 [v0, v1, v2, v3] st I J Q = Rn S 199 847 [v0, v1, v2, v3] (.int 0 :: st) I J Q := rS f199_846 rfl
theorem x199_847 : Rn S 199 847 [v0, v1, v2, v3] [.int a] I J Q = ((a = 0 ∨ a = 1) ∧ Q (some (.int a)) I J) := rRZ f199_847 (Or.inl rfl)
theorem x199_848 : Rn S 199 848 [v0, .ref q, v2, v3] st I J Q = Rn S 199 849 [v0, .ref q, v2, v3] (.ref q :: st) I J Q := rL f199_848 rfl rfl
theorem x199_849 : Rn S 199 849 [.ref q, v1, v2, v3] st I J Q = Rn S 199 850 [.ref q, v1, v2, v3] (.ref q :: st) I J Q := rL f199_849 rfl rfl
theorem x199_850 : Rn S 199 850 [v0, v1, v2, .int a] st I J Q = Rn S 199 851 [v0, v1, v2, .int a] (.int a :: st) I J Q := rL f199_850 rfl rfl
theorem x199_851 : Rn S 199 851 [v0, v1, v2, v3] st I J Q = Rn S 199 852 [v0, v1, v2, v3] (.int 1 :: st) I J Q := rS f199_851 rfl
theorem x199_852 : Rn S 199 852 [v0, v1, v2, v3] (.int b :: .int a :: st) I J Q = Rn S 199 853 [v0, v1, v2, v3] (.int (a + b) :: st) I J Q := rS f199_852 rfl
theorem x199_853 : Rn S 199 853 [v0, v1, v2, v3] (.int a :: .ref q :: st) I J Q = (zai S q a ∧ Rn S 199 854 [v0, v1, v2, v3] (.int (I q a.toNatClampNeg) :: st) I J Q) := rIal f199_853
theorem x199_854 : Rn S 199 854 [v0, v1, v2, v3] (.int a0 :: .ref q :: st) I J Q = ((zcls S q = 5 ∧ zcs st ≤ 8) ∧ Rn S 63 0 [.ref q, .int a0, .null, .null] [] I J (fun v I' J' => Rn S 199 857 [v0, v1, v2, v3] (v.toList ++ st) I' J' Q)) := rCV (As := [.int a0]) f199_854 rfl rfl rfl rfl (Nat.le_of_ble_eq_true rfl)
theorem x199_857 : Rn S 199 857 [v0, v1, .ref q, v3] st I J Q = Rn S 199 858 [v0, v1, .ref q, v3] (.ref q :: st) I J Q := rL f199_857 rfl rfl
theorem x199_858 : Rn S 199 858 [.ref q, v1, v2, v3] st I J Q = Rn S 199 859 [.ref q, v1, v2, v3] (.ref q :: st) I J Q := rL f199_858 rfl rfl
theorem x199_859 : Rn S 199 859 [v0, v1, v2, .int a] st I J Q = Rn S 199 860 [v0, v1, v2, .int a] (.int a :: st) I J Q := rL f199_859 rfl rfl
theorem x199_860 : Rn S 199 860 [v0, v1, v2, v3] st I J Q = Rn S 199 861 [v0, v1, v2, v3] (.int 1 :: st) I J Q := rS f199_860 rfl
theorem x199_861 : Rn S 199 861 [v0, v1, v2, v3] (.int b :: .int a :: st) I J Q = Rn S 199 862 [v0, v1, v2, v3] (.int (a + b) :: st) I J Q := rS f199_861 rfl
theorem x199_862 : Rn S 199 862 [v0, v1, v2, v3] (.int a :: .ref q :: st) I J Q = (zai S q a ∧ Rn S 199 863 [v0, v1, v2, v3] (.int (I q a.toNatClampNeg) :: st) I J Q) := rIal f199_862
theorem x199_863 : Rn S 199 863 [v0, v1, v2, v3] (.int a0 :: .ref q :: st) I J Q = ((zcls S q = 6 ∧ zcs st ≤ 8) ∧ Rn S 174 0 [.ref q, .int a0] [] I J (fun v I' J' => Rn S 199 866 [v0, v1, v2, v3] (v.toList ++ st) I' J' Q)) := rCV (As := [.int a0]) f199_863 rfl rfl rfl rfl (Nat.le_of_ble_eq_true rfl)
theorem x199_866 : Rn S 199 866 [v0, v1, v2, v3] (.int b :: .int a :: st) I J Q = if a = b then Rn S 199 1266 [v0, v1, v2, v3] st I J Q else Rn S 199 869 [v0, v1, v2, v3] st I J Q := rCeq f199_866 rfl rfl
theorem x199_869 : Rn S 199 869 [v0, v1, v2, v3] st I J Q = Rn S 199 870 [v0, v1, v2, v3] (.int 0 :: st) I J Q := rS f199_869 rfl
theorem x199_870 : Rn S 199 870 [v0, v1, v2, v3] [.int a] I J Q = ((a = 0 ∨ a = 1) ∧ Q (some (.int a)) I J) := rRZ f199_870 (Or.inl rfl)
theorem x199_871 : Rn S 199 871 [v0, .ref q, v2, v3] st I J Q = Rn S 199 872 [v0, .ref q, v2, v3] (.ref q :: st) I J Q := rL f199_871 rfl rfl
theorem x199_872 : Rn S 199 872 [.ref q, v1, v2, v3] st I J Q = Rn S 199 873 [.ref q, v1, v2, v3] (.ref q :: st) I J Q := rL f199_872 rfl rfl
theorem x199_873 : Rn S 199 873 [v0, v1, v2, .int a] st I J Q = Rn S 199 874 [v0, v1, v2, .int a] (.int a :: st) I J Q := rL f199_873 rfl rfl
theorem x199_874 : Rn S 199 874 [v0, v1, v2, v3] st I J Q = Rn S 199 875 [v0, v1, v2, v3] (.int 1 :: st) I J Q := rS f199_874 rfl
theorem x199_875 : Rn S 199 875 [v0, v1, v2, v3] (.int b :: .int a :: st) I J Q = Rn S 199 876 [v0, v1, v2, v3] (.int (a + b) :: st) I J Q := rS f199_875 rfl
theorem x199_876 : Rn S 199 876 [v0, v1, v2, v3] (.int a :: .ref q :: st) I J Q = (zai S q a ∧ Rn S 199 877 [v0, v1, v2, v3] (.int (I q a.toNatClampNeg) :: st) I J Q) := rIal f199_876
theorem x199_877 : Rn S 199 877 [v0, v1, v2, v3] (.int a0 :: .ref q :: st) I J Q = ((zcls S q = 5 ∧ zcs st ≤ 8) ∧ Rn S 64 0 [.ref q, .int a0, .null, .null, .null, .null, .null] [] I J (fun v I' J' => Rn S 199 880 [v0, v1, v2, v3] (v.toList ++ st) I' J' Q)) := rCV (As := [.int a0]) f199_877 rfl rfl rfl rfl (Nat.le_of_ble_eq_true rfl)
theorem x199_880 : Rn S 199 880 [v0, v1, .ref q, v3] st I J Q = Rn S 199 881 [v0, v1, .ref q, v3] (.ref q :: st) I J Q := rL f199_880 rfl rfl
theorem x199_881 : Rn S 199 881 [.ref q, v1, v2, v3] st I J Q = Rn S 199 882 [.ref q, v1, v2, v3] (.ref q :: st) I J Q := rL f199_881 rfl rfl
theorem x199_882 : Rn S 199 882 [v0, v1, v2, .int a] st I J Q = Rn S 199 883 [v0, v1, v2, .int a] (.int a :: st) I J Q := rL f199_882 rfl rfl
theorem x199_883 : Rn S 199 883 [v0, v1, v2, v3] st I J Q = Rn S 199 884 [v0, v1, v2, v3] (.int 1 :: st) I J Q := rS f199_883 rfl
theorem x199_884 : Rn S 199 884 [v0, v1, v2, v3] (.int b :: .int a :: st) I J Q = Rn S 199 885 [v0, v1, v2, v3] (.int (a + b) :: st) I J Q := rS f199_884 rfl
theorem x199_885 : Rn S 199 885 [v0, v1, v2, v3] (.int a :: .ref q :: st) I J Q = (zai S q a ∧ Rn S 199 886 [v0, v1, v2, v3] (.int (I q a.toNatClampNeg) :: st) I J Q) := rIal f199_885
theorem x199_886 : Rn S 199 886 [v0, v1, v2, v3] (.int a0 :: .ref q :: st) I J Q = ((zcls S q = 6 ∧ zcs st ≤ 8) ∧ Rn S 177 0 [.ref q, .int a0] [] I J (fun v I' J' => Rn S 199 889 [v0, v1, v2, v3] (v.toList ++ st) I' J' Q)) := rCV (As := [.int a0]) f199_886 rfl rfl rfl rfl (Nat.le_of_ble_eq_true rfl)
theorem x199_889 : Rn S 199 889 [v0, v1, v2, v3] (.int b :: .int a :: st) I J Q = if a = b then Rn S 199 1266 [v0, v1, v2, v3] st I J Q else Rn S 199 892 [v0, v1, v2, v3] st I J Q := rCeq f199_889 rfl rfl
theorem x199_892 : Rn S 199 892 [v0, v1, v2, v3] st I J Q = Rn S 199 893 [v0, v1, v2, v3] (.int 0 :: st) I J Q := rS f199_892 rfl
theorem x199_893 : Rn S 199 893 [v0, v1, v2, v3] [.int a] I J Q = ((a = 0 ∨ a = 1) ∧ Q (some (.int a)) I J) := rRZ f199_893 (Or.inl rfl)
theorem x199_894 : Rn S 199 894 [v0, .ref q, v2, v3] st I J Q = Rn S 199 895 [v0, .ref q, v2, v3] (.ref q :: st) I J Q := rL f199_894 rfl rfl
theorem x199_895 : Rn S 199 895 [.ref q, v1, v2, v3] st I J Q = Rn S 199 896 [.ref q, v1, v2, v3] (.ref q :: st) I J Q := rL f199_895 rfl rfl
theorem x199_896 : Rn S 199 896 [v0, v1, v2, .int a] st I J Q = Rn S 199 897 [v0, v1, v2, .int a] (.int a :: st) I J Q := rL f199_896 rfl rfl
theorem x199_897 : Rn S 199 897 [v0, v1, v2, v3] st I J Q = Rn S 199 898 [v0, v1, v2, v3] (.int 1 :: st) I J Q := rS f199_897 rfl
theorem x199_898 : Rn S 199 898 [v0, v1, v2, v3] (.int b :: .int a :: st) I J Q = Rn S 199 899 [v0, v1, v2, v3] (.int (a + b) :: st) I J Q := rS f199_898 rfl
theorem x199_899 : Rn S 199 899 [v0, v1, v2, v3] (.int a :: .ref q :: st) I J Q = (zai S q a ∧ Rn S 199 900 [v0, v1, v2, v3] (.int (I q a.toNatClampNeg) :: st) I J Q) := rIal f199_899
theorem x199_900 : Rn S 199 900 [.ref q, v1, v2, v3] st I J Q = Rn S 199 901 [.ref q, v1, v2, v3] (.ref q :: st) I J Q := rL f199_900 rfl rfl
theorem x199_901 : Rn S 199 901 [v0, v1, v2, .int a] st I J Q = Rn S 199 902 [v0, v1, v2, .int a] (.int a :: st) I J Q := rL f199_901 rfl rfl
theorem x199_902 : Rn S 199 902 [v0, v1, v2, v3] st I J Q = Rn S 199 903 [v0, v1, v2, v3] (.int 2 :: st) I J Q := rS f199_902 rfl
theorem x199_903 : Rn S 199 903 [v0, v1, v2, v3] (.int b :: .int a :: st) I J Q = Rn S 199 904 [v0, v1, v2, v3] (.int (a + b) :: st) I J Q := rS f199_903 rfl
theorem x199_904 : Rn S 199 904 [v0, v1, v2, v3] (.int a :: .ref q :: st) I J Q = (zai S q a ∧ Rn S 199 905 [v0, v1, v2, v3] (.int (I q a.toNatClampNeg) :: st) I J Q) := rIal f199_904
theorem x199_905 : Rn S 199 905 [.ref q, v1, v2, v3] st I J Q = Rn S 199 906 [.ref q, v1, v2, v3] (.ref q :: st) I J Q := rL f199_905 rfl rfl
theorem x199_906 : Rn S 199 906 [v0, v1, v2, .int a] st I J Q = Rn S 199 907 [v0, v1, v2, .int a] (.int a :: st) I J Q := rL f199_906 rfl rfl
theorem x199_907 : Rn S 199 907 [v0, v1, v2, v3] st I J Q = Rn S 199 908 [v0, v1, v2, v3] (.int 3 :: st) I J Q := rS f199_907 rfl
theorem x199_908 : Rn S 199 908 [v0, v1, v2, v3] (.int b :: .int a :: st) I J Q = Rn S 199 909 [v0, v1, v2, v3] (.int (a + b) :: st) I J Q := rS f199_908 rfl
theorem x199_909 : Rn S 199 909 [v0, v1, v2, v3] (.int a :: .ref q :: st) I J Q = (zai S q a ∧ Rn S 199 910 [v0, v1, v2, v3] (.int (I q a.toNatClampNeg) :: st) I J Q) := rIal f199_909
theorem x199_910 : Rn S 199 910 [v0, v1, v2, v3] (.int a2 :: .int a1 :: .int a0 :: .ref q :: st) I J Q = ((zcls S q = 5 ∧ zcs st ≤ 8) ∧ Rn S 65 0 [.ref q, .int a0, .int a1, .int a2] [] I J (fun v I' J' => Rn S 199 913 [v0, v1, v2, v3] (v.toList ++ st) I' J' Q)) := rCV (As := [.int a0, .int a1, .int a2]) f199_910 rfl rfl rfl rfl (Nat.le_of_ble_eq_true rfl)
theorem x199_913 : Rn S 199 913 [v0, v1, .ref q, v3] st I J Q = Rn S 199 914 [v0, v1, .ref q, v3] (.ref q :: st) I J Q := rL f199_913 rfl rfl
theorem x199_914 : Rn S 199 914 [.ref q, v1, v2, v3] st I J Q = Rn S 199 915 [.ref q, v1, v2, v3] (.ref q :: st) I J Q := rL f199_914 rfl rfl
theorem x199_915 : Rn S 199 915 [v0, v1, v2, .int a] st I J Q = Rn S 199 916 [v0, v1, v2, .int a] (.int a :: st) I J Q := rL f199_915 rfl rfl
theorem x199_916 : Rn S 199 916 [v0, v1, v2, v3] st I J Q = Rn S 199 917 [v0, v1, v2, v3] (.int 1 :: st) I J Q := rS f199_916 rfl
theorem x199_917 : Rn S 199 917 [v0, v1, v2, v3] (.int b :: .int a :: st) I J Q = Rn S 199 918 [v0, v1, v2, v3] (.int (a + b) :: st) I J Q := rS f199_917 rfl
theorem x199_918 : Rn S 199 918 [v0, v1, v2, v3] (.int a :: .ref q :: st) I J Q = (zai S q a ∧ Rn S 199 919 [v0, v1, v2, v3] (.int (I q a.toNatClampNeg) :: st) I J Q) := rIal f199_918
theorem x199_919 : Rn S 199 919 [.ref q, v1, v2, v3] st I J Q = Rn S 199 920 [.ref q, v1, v2, v3] (.ref q :: st) I J Q := rL f199_919 rfl rfl
theorem x199_920 : Rn S 199 920 [v0, v1, v2, .int a] st I J Q = Rn S 199 921 [v0, v1, v2, .int a] (.int a :: st) I J Q := rL f199_920 rfl rfl
theorem x199_921 : Rn S 199 921 [v0, v1, v2, v3] st I J Q = Rn S 199 922 [v0, v1, v2, v3] (.int 2 :: st) I J Q := rS f199_921 rfl
theorem x199_922 : Rn S 199 922 [v0, v1, v2, v3] (.int b :: .int a :: st) I J Q = Rn S 199 923 [v0, v1, v2, v3] (.int (a + b) :: st) I J Q := rS f199_922 rfl
theorem x199_923 : Rn S 199 923 [v0, v1, v2, v3] (.int a :: .ref q :: st) I J Q = (zai S q a ∧ Rn S 199 924 [v0, v1, v2, v3] (.int (I q a.toNatClampNeg) :: st) I J Q) := rIal f199_923
theorem x199_924 : Rn S 199 924 [.ref q, v1, v2, v3] st I J Q = Rn S 199 925 [.ref q, v1, v2, v3] (.ref q :: st) I J Q := rL f199_924 rfl rfl
theorem x199_925 : Rn S 199 925 [v0, v1, v2, .int a] st I J Q = Rn S 199 926 [v0, v1, v2, .int a] (.int a :: st) I J Q := rL f199_925 rfl rfl
theorem x199_926 : Rn S 199 926 [v0, v1, v2, v3] st I J Q = Rn S 199 927 [v0, v1, v2, v3] (.int 3 :: st) I J Q := rS f199_926 rfl
theorem x199_927 : Rn S 199 927 [v0, v1, v2, v3] (.int b :: .int a :: st) I J Q = Rn S 199 928 [v0, v1, v2, v3] (.int (a + b) :: st) I J Q := rS f199_927 rfl
theorem x199_928 : Rn S 199 928 [v0, v1, v2, v3] (.int a :: .ref q :: st) I J Q = (zai S q a ∧ Rn S 199 929 [v0, v1, v2, v3] (.int (I q a.toNatClampNeg) :: st) I J Q) := rIal f199_928
theorem x199_929 : Rn S 199 929 [v0, v1, v2, v3] (.int a2 :: .int a1 :: .int a0 :: .ref q :: st) I J Q = ((zcls S q = 6 ∧ zcs st ≤ 8) ∧ Rn S 179 0 [.ref q, .int a0, .int a1, .int a2] [] I J (fun v I' J' => Rn S 199 932 [v0, v1, v2, v3] (v.toList ++ st) I' J' Q)) := rCV (As := [.int a0, .int a1, .int a2]) f199_929 rfl rfl rfl rfl (Nat.le_of_ble_eq_true rfl)
theorem x199_932 : Rn S 199 932 [v0, v1, v2, v3] (.long w :: .long u :: st) I J Q = Rn S 199 933 [v0, v1, v2, v3] (.int (lg_cmp u w) :: st) I J Q := rS f199_932 rfl
theorem x199_933 : Rn S 199 933 [v0, v1, v2, v3] (.int a :: st) I J Q = if a = 0 then Rn S 199 1266 [v0, v1, v2, v3] st I J Q else Rn S 199 936 [v0, v1, v2, v3] st I J Q := rIeq f199_933 rfl rfl
theorem x199_936 : Rn S 199 936 [v0, v1, v2, v3] st I J Q = Rn S 199 937 [v0, v1, v2, v3] (.int 0 :: st) I J Q := rS f199_936 rfl
theorem x199_937 : Rn S 199 937 [v0, v1, v2, v3] [.int a] I J Q = ((a = 0 ∨ a = 1) ∧ Q (some (.int a)) I J) := rRZ f199_937 (Or.inl rfl)
theorem x199_938 : Rn S 199 938 [v0, .ref q, v2, v3] st I J Q = Rn S 199 939 [v0, .ref q, v2, v3] (.ref q :: st) I J Q := rL f199_938 rfl rfl
theorem x199_939 : Rn S 199 939 [.ref q, v1, v2, v3] st I J Q = Rn S 199 940 [.ref q, v1, v2, v3] (.ref q :: st) I J Q := rL f199_939 rfl rfl
theorem x199_940 : Rn S 199 940 [v0, v1, v2, .int a] st I J Q = Rn S 199 941 [v0, v1, v2, .int a] (.int a :: st) I J Q := rL f199_940 rfl rfl
theorem x199_941 : Rn S 199 941 [v0, v1, v2, v3] st I J Q = Rn S 199 942 [v0, v1, v2, v3] (.int 1 :: st) I J Q := rS f199_941 rfl
theorem x199_942 : Rn S 199 942 [v0, v1, v2, v3] (.int b :: .int a :: st) I J Q = Rn S 199 943 [v0, v1, v2, v3] (.int (a + b) :: st) I J Q := rS f199_942 rfl
theorem x199_943 : Rn S 199 943 [v0, v1, v2, v3] (.int a :: .ref q :: st) I J Q = (zai S q a ∧ Rn S 199 944 [v0, v1, v2, v3] (.int (I q a.toNatClampNeg) :: st) I J Q) := rIal f199_943
theorem x199_944 : Rn S 199 944 [.ref q, v1, v2, v3] st I J Q = Rn S 199 945 [.ref q, v1, v2, v3] (.ref q :: st) I J Q := rL f199_944 rfl rfl
theorem x199_945 : Rn S 199 945 [v0, v1, v2, .int a] st I J Q = Rn S 199 946 [v0, v1, v2, .int a] (.int a :: st) I J Q := rL f199_945 rfl rfl
theorem x199_946 : Rn S 199 946 [v0, v1, v2, v3] st I J Q = Rn S 199 947 [v0, v1, v2, v3] (.int 2 :: st) I J Q := rS f199_946 rfl
theorem x199_947 : Rn S 199 947 [v0, v1, v2, v3] (.int b :: .int a :: st) I J Q = Rn S 199 948 [v0, v1, v2, v3] (.int (a + b) :: st) I J Q := rS f199_947 rfl
theorem x199_948 : Rn S 199 948 [v0, v1, v2, v3] (.int a :: .ref q :: st) I J Q = (zai S q a ∧ Rn S 199 949 [v0, v1, v2, v3] (.int (I q a.toNatClampNeg) :: st) I J Q) := rIal f199_948
theorem x199_949 : Rn S 199 949 [.ref q, v1, v2, v3] st I J Q = Rn S 199 950 [.ref q, v1, v2, v3] (.ref q :: st) I J Q := rL f199_949 rfl rfl
theorem x199_950 : Rn S 199 950 [v0, v1, v2, .int a] st I J Q = Rn S 199 951 [v0, v1, v2, .int a] (.int a :: st) I J Q := rL f199_950 rfl rfl
theorem x199_951 : Rn S 199 951 [v0, v1, v2, v3] st I J Q = Rn S 199 952 [v0, v1, v2, v3] (.int 3 :: st) I J Q := rS f199_951 rfl
theorem x199_952 : Rn S 199 952 [v0, v1, v2, v3] (.int b :: .int a :: st) I J Q = Rn S 199 953 [v0, v1, v2, v3] (.int (a + b) :: st) I J Q := rS f199_952 rfl
theorem x199_953 : Rn S 199 953 [v0, v1, v2, v3] (.int a :: .ref q :: st) I J Q = (zai S q a ∧ Rn S 199 954 [v0, v1, v2, v3] (.int (I q a.toNatClampNeg) :: st) I J Q) := rIal f199_953
theorem x199_954 : Rn S 199 954 [v0, v1, v2, v3] (.int a2 :: .int a1 :: .int a0 :: .ref q :: st) I J Q = ((zcls S q = 5 ∧ zcs st ≤ 8) ∧ Rn S 66 0 [.ref q, .int a0, .int a1, .int a2] [] I J (fun v I' J' => Rn S 199 957 [v0, v1, v2, v3] (v.toList ++ st) I' J' Q)) := rCV (As := [.int a0, .int a1, .int a2]) f199_954 rfl rfl rfl rfl (Nat.le_of_ble_eq_true rfl)
theorem x199_957 : Rn S 199 957 [v0, v1, .ref q, v3] st I J Q = Rn S 199 958 [v0, v1, .ref q, v3] (.ref q :: st) I J Q := rL f199_957 rfl rfl
theorem x199_958 : Rn S 199 958 [.ref q, v1, v2, v3] st I J Q = Rn S 199 959 [.ref q, v1, v2, v3] (.ref q :: st) I J Q := rL f199_958 rfl rfl
theorem x199_959 : Rn S 199 959 [v0, v1, v2, .int a] st I J Q = Rn S 199 960 [v0, v1, v2, .int a] (.int a :: st) I J Q := rL f199_959 rfl rfl
theorem x199_960 : Rn S 199 960 [v0, v1, v2, v3] st I J Q = Rn S 199 961 [v0, v1, v2, v3] (.int 1 :: st) I J Q := rS f199_960 rfl
theorem x199_961 : Rn S 199 961 [v0, v1, v2, v3] (.int b :: .int a :: st) I J Q = Rn S 199 962 [v0, v1, v2, v3] (.int (a + b) :: st) I J Q := rS f199_961 rfl
theorem x199_962 : Rn S 199 962 [v0, v1, v2, v3] (.int a :: .ref q :: st) I J Q = (zai S q a ∧ Rn S 199 963 [v0, v1, v2, v3] (.int (I q a.toNatClampNeg) :: st) I J Q) := rIal f199_962
theorem x199_963 : Rn S 199 963 [.ref q, v1, v2, v3] st I J Q = Rn S 199 964 [.ref q, v1, v2, v3] (.ref q :: st) I J Q := rL f199_963 rfl rfl
theorem x199_964 : Rn S 199 964 [v0, v1, v2, .int a] st I J Q = Rn S 199 965 [v0, v1, v2, .int a] (.int a :: st) I J Q := rL f199_964 rfl rfl
theorem x199_965 : Rn S 199 965 [v0, v1, v2, v3] st I J Q = Rn S 199 966 [v0, v1, v2, v3] (.int 2 :: st) I J Q := rS f199_965 rfl
theorem x199_966 : Rn S 199 966 [v0, v1, v2, v3] (.int b :: .int a :: st) I J Q = Rn S 199 967 [v0, v1, v2, v3] (.int (a + b) :: st) I J Q := rS f199_966 rfl
theorem x199_967 : Rn S 199 967 [v0, v1, v2, v3] (.int a :: .ref q :: st) I J Q = (zai S q a ∧ Rn S 199 968 [v0, v1, v2, v3] (.int (I q a.toNatClampNeg) :: st) I J Q) := rIal f199_967
theorem x199_968 : Rn S 199 968 [.ref q, v1, v2, v3] st I J Q = Rn S 199 969 [.ref q, v1, v2, v3] (.ref q :: st) I J Q := rL f199_968 rfl rfl
theorem x199_969 : Rn S 199 969 [v0, v1, v2, .int a] st I J Q = Rn S 199 970 [v0, v1, v2, .int a] (.int a :: st) I J Q := rL f199_969 rfl rfl
theorem x199_970 : Rn S 199 970 [v0, v1, v2, v3] st I J Q = Rn S 199 971 [v0, v1, v2, v3] (.int 3 :: st) I J Q := rS f199_970 rfl
theorem x199_971 : Rn S 199 971 [v0, v1, v2, v3] (.int b :: .int a :: st) I J Q = Rn S 199 972 [v0, v1, v2, v3] (.int (a + b) :: st) I J Q := rS f199_971 rfl
theorem x199_972 : Rn S 199 972 [v0, v1, v2, v3] (.int a :: .ref q :: st) I J Q = (zai S q a ∧ Rn S 199 973 [v0, v1, v2, v3] (.int (I q a.toNatClampNeg) :: st) I J Q) := rIal f199_972
theorem x199_973 : Rn S 199 973 [v0, v1, v2, v3] (.int a2 :: .int a1 :: .int a0 :: .ref q :: st) I J Q = ((zcls S q = 6 ∧ zcs st ≤ 8) ∧ Rn S 182 0 [.ref q, .int a0, .int a1, .int a2] [] I J (fun v I' J' => Rn S 199 976 [v0, v1, v2, v3] (v.toList ++ st) I' J' Q)) := rCV (As := [.int a0, .int a1, .int a2]) f199_973 rfl rfl rfl rfl (Nat.le_of_ble_eq_true rfl)
theorem x199_976 : Rn S 199 976 [v0, v1, v2, v3] (.int b :: .int a :: st) I J Q = if a = b then Rn S 199 1266 [v0, v1, v2, v3] st I J Q else Rn S 199 979 [v0, v1, v2, v3] st I J Q := rCeq f199_976 rfl rfl
theorem x199_979 : Rn S 199 979 [v0, v1, v2, v3] st I J Q = Rn S 199 980 [v0, v1, v2, v3] (.int 0 :: st) I J Q := rS f199_979 rfl
theorem x199_980 : Rn S 199 980 [v0, v1, v2, v3] [.int a] I J Q = ((a = 0 ∨ a = 1) ∧ Q (some (.int a)) I J) := rRZ f199_980 (Or.inl rfl)
theorem x199_981 : Rn S 199 981 [v0, .ref q, v2, v3] st I J Q = Rn S 199 982 [v0, .ref q, v2, v3] (.ref q :: st) I J Q := rL f199_981 rfl rfl
theorem x199_982 : Rn S 199 982 [.ref q, v1, v2, v3] st I J Q = Rn S 199 983 [.ref q, v1, v2, v3] (.ref q :: st) I J Q := rL f199_982 rfl rfl
theorem x199_983 : Rn S 199 983 [v0, v1, v2, .int a] st I J Q = Rn S 199 984 [v0, v1, v2, .int a] (.int a :: st) I J Q := rL f199_983 rfl rfl
theorem x199_984 : Rn S 199 984 [v0, v1, v2, v3] st I J Q = Rn S 199 985 [v0, v1, v2, v3] (.int 1 :: st) I J Q := rS f199_984 rfl
theorem x199_985 : Rn S 199 985 [v0, v1, v2, v3] (.int b :: .int a :: st) I J Q = Rn S 199 986 [v0, v1, v2, v3] (.int (a + b) :: st) I J Q := rS f199_985 rfl
theorem x199_986 : Rn S 199 986 [v0, v1, v2, v3] (.int a :: .ref q :: st) I J Q = (zai S q a ∧ Rn S 199 987 [v0, v1, v2, v3] (.int (I q a.toNatClampNeg) :: st) I J Q) := rIal f199_986
theorem x199_987 : Rn S 199 987 [.ref q, v1, v2, v3] st I J Q = Rn S 199 988 [.ref q, v1, v2, v3] (.ref q :: st) I J Q := rL f199_987 rfl rfl
theorem x199_988 : Rn S 199 988 [v0, v1, v2, .int a] st I J Q = Rn S 199 989 [v0, v1, v2, .int a] (.int a :: st) I J Q := rL f199_988 rfl rfl
theorem x199_989 : Rn S 199 989 [v0, v1, v2, v3] st I J Q = Rn S 199 990 [v0, v1, v2, v3] (.int 2 :: st) I J Q := rS f199_989 rfl
theorem x199_990 : Rn S 199 990 [v0, v1, v2, v3] (.int b :: .int a :: st) I J Q = Rn S 199 991 [v0, v1, v2, v3] (.int (a + b) :: st) I J Q := rS f199_990 rfl
theorem x199_991 : Rn S 199 991 [v0, v1, v2, v3] (.int a :: .ref q :: st) I J Q = (zai S q a ∧ Rn S 199 992 [v0, v1, v2, v3] (.int (I q a.toNatClampNeg) :: st) I J Q) := rIal f199_991
theorem x199_992 : Rn S 199 992 [.ref q, v1, v2, v3] st I J Q = Rn S 199 993 [.ref q, v1, v2, v3] (.ref q :: st) I J Q := rL f199_992 rfl rfl
theorem x199_993 : Rn S 199 993 [v0, v1, v2, .int a] st I J Q = Rn S 199 994 [v0, v1, v2, .int a] (.int a :: st) I J Q := rL f199_993 rfl rfl
theorem x199_994 : Rn S 199 994 [v0, v1, v2, v3] st I J Q = Rn S 199 995 [v0, v1, v2, v3] (.int 3 :: st) I J Q := rS f199_994 rfl
theorem x199_995 : Rn S 199 995 [v0, v1, v2, v3] (.int b :: .int a :: st) I J Q = Rn S 199 996 [v0, v1, v2, v3] (.int (a + b) :: st) I J Q := rS f199_995 rfl
theorem x199_996 : Rn S 199 996 [v0, v1, v2, v3] (.int a :: .ref q :: st) I J Q = (zai S q a ∧ Rn S 199 997 [v0, v1, v2, v3] (.int (I q a.toNatClampNeg) :: st) I J Q) := rIal f199_996
theorem x199_997 : Rn S 199 997 [v0, v1, v2, v3] (.int a2 :: .int a1 :: .int a0 :: .ref q :: st) I J Q = ((zcls S q = 5 ∧ zcs st ≤ 8) ∧ Rn S 67 0 [.ref q, .int a0, .int a1, .int a2] [] I J (fun v I' J' => Rn S 199 1000 [v0, v1, v2, v3] (v.toList ++ st) I' J' Q)) := rCV (As := [.int a0, .int a1, .int a2]) f199_997 rfl rfl rfl rfl (Nat.le_of_ble_eq_true rfl)
theorem x199_1000 : Rn S 199 1000 [v0, v1, .ref q, v3] st I J Q = Rn S 199 1001 [v0, v1, .ref q, v3] (.ref q :: st) I J Q := rL f199_1000 rfl rfl
theorem x199_1001 : Rn S 199 1001 [.ref q, v1, v2, v3] st I J Q = Rn S 199 1002 [.ref q, v1, v2, v3] (.ref q :: st) I J Q := rL f199_1001 rfl rfl
theorem x199_1002 : Rn S 199 1002 [v0, v1, v2, .int a] st I J Q = Rn S 199 1003 [v0, v1, v2, .int a] (.int a :: st) I J Q := rL f199_1002 rfl rfl
theorem x199_1003 : Rn S 199 1003 [v0, v1, v2, v3] st I J Q = Rn S 199 1004 [v0, v1, v2, v3] (.int 1 :: st) I J Q := rS f199_1003 rfl
theorem x199_1004 : Rn S 199 1004 [v0, v1, v2, v3] (.int b :: .int a :: st) I J Q = Rn S 199 1005 [v0, v1, v2, v3] (.int (a + b) :: st) I J Q := rS f199_1004 rfl
theorem x199_1005 : Rn S 199 1005 [v0, v1, v2, v3] (.int a :: .ref q :: st) I J Q = (zai S q a ∧ Rn S 199 1006 [v0, v1, v2, v3] (.int (I q a.toNatClampNeg) :: st) I J Q) := rIal f199_1005
theorem x199_1006 : Rn S 199 1006 [.ref q, v1, v2, v3] st I J Q = Rn S 199 1007 [.ref q, v1, v2, v3] (.ref q :: st) I J Q := rL f199_1006 rfl rfl
theorem x199_1007 : Rn S 199 1007 [v0, v1, v2, .int a] st I J Q = Rn S 199 1008 [v0, v1, v2, .int a] (.int a :: st) I J Q := rL f199_1007 rfl rfl
theorem x199_1008 : Rn S 199 1008 [v0, v1, v2, v3] st I J Q = Rn S 199 1009 [v0, v1, v2, v3] (.int 2 :: st) I J Q := rS f199_1008 rfl
theorem x199_1009 : Rn S 199 1009 [v0, v1, v2, v3] (.int b :: .int a :: st) I J Q = Rn S 199 1010 [v0, v1, v2, v3] (.int (a + b) :: st) I J Q := rS f199_1009 rfl
theorem x199_1010 : Rn S 199 1010 [v0, v1, v2, v3] (.int a :: .ref q :: st) I J Q = (zai S q a ∧ Rn S 199 1011 [v0, v1, v2, v3] (.int (I q a.toNatClampNeg) :: st) I J Q) := rIal f199_1010
theorem x199_1011 : Rn S 199 1011 [.ref q, v1, v2, v3] st I J Q = Rn S 199 1012 [.ref q, v1, v2, v3] (.ref q :: st) I J Q := rL f199_1011 rfl rfl
theorem x199_1012 : Rn S 199 1012 [v0, v1, v2, .int a] st I J Q = Rn S 199 1013 [v0, v1, v2, .int a] (.int a :: st) I J Q := rL f199_1012 rfl rfl
theorem x199_1013 : Rn S 199 1013 [v0, v1, v2, v3] st I J Q = Rn S 199 1014 [v0, v1, v2, v3] (.int 3 :: st) I J Q := rS f199_1013 rfl
theorem x199_1014 : Rn S 199 1014 [v0, v1, v2, v3] (.int b :: .int a :: st) I J Q = Rn S 199 1015 [v0, v1, v2, v3] (.int (a + b) :: st) I J Q := rS f199_1014 rfl
theorem x199_1015 : Rn S 199 1015 [v0, v1, v2, v3] (.int a :: .ref q :: st) I J Q = (zai S q a ∧ Rn S 199 1016 [v0, v1, v2, v3] (.int (I q a.toNatClampNeg) :: st) I J Q) := rIal f199_1015
theorem x199_1016 : Rn S 199 1016 [v0, v1, v2, v3] (.int a2 :: .int a1 :: .int a0 :: .ref q :: st) I J Q = ((zcls S q = 6 ∧ zcs st ≤ 8) ∧ Rn S 106 0 [.ref q, .int a0, .int a1, .int a2, .null] [] I J (fun v I' J' => Rn S 199 1019 [v0, v1, v2, v3] (v.toList ++ st) I' J' Q)) := rCV (As := [.int a0, .int a1, .int a2]) f199_1016 rfl rfl rfl rfl (Nat.le_of_ble_eq_true rfl)
theorem x199_1019 : Rn S 199 1019 [v0, v1, v2, v3] (.int b :: .int a :: st) I J Q = if a = b then Rn S 199 1266 [v0, v1, v2, v3] st I J Q else Rn S 199 1022 [v0, v1, v2, v3] st I J Q := rCeq f199_1019 rfl rfl
theorem x199_1022 : Rn S 199 1022 [v0, v1, v2, v3] st I J Q = Rn S 199 1023 [v0, v1, v2, v3] (.int 0 :: st) I J Q := rS f199_1022 rfl
theorem x199_1023 : Rn S 199 1023 [v0, v1, v2, v3] [.int a] I J Q = ((a = 0 ∨ a = 1) ∧ Q (some (.int a)) I J) := rRZ f199_1023 (Or.inl rfl)
theorem x199_1024 : Rn S 199 1024 [v0, .ref q, v2, v3] st I J Q = Rn S 199 1025 [v0, .ref q, v2, v3] (.ref q :: st) I J Q := rL f199_1024 rfl rfl
theorem x199_1025 : Rn S 199 1025 [.ref q, v1, v2, v3] st I J Q = Rn S 199 1026 [.ref q, v1, v2, v3] (.ref q :: st) I J Q := rL f199_1025 rfl rfl
theorem x199_1026 : Rn S 199 1026 [v0, v1, v2, .int a] st I J Q = Rn S 199 1027 [v0, v1, v2, .int a] (.int a :: st) I J Q := rL f199_1026 rfl rfl
theorem x199_1027 : Rn S 199 1027 [v0, v1, v2, v3] st I J Q = Rn S 199 1028 [v0, v1, v2, v3] (.int 1 :: st) I J Q := rS f199_1027 rfl
theorem x199_1028 : Rn S 199 1028 [v0, v1, v2, v3] (.int b :: .int a :: st) I J Q = Rn S 199 1029 [v0, v1, v2, v3] (.int (a + b) :: st) I J Q := rS f199_1028 rfl
theorem x199_1029 : Rn S 199 1029 [v0, v1, v2, v3] (.int a :: .ref q :: st) I J Q = (zai S q a ∧ Rn S 199 1030 [v0, v1, v2, v3] (.int (I q a.toNatClampNeg) :: st) I J Q) := rIal f199_1029
theorem x199_1030 : Rn S 199 1030 [v0, v1, v2, v3] (.int a0 :: .ref q :: st) I J Q = ((zcls S q = 5 ∧ zcs st ≤ 8) ∧ Rn S 68 0 [.ref q, .int a0] [] I J (fun v I' J' => Rn S 199 1033 [v0, v1, v2, v3] (v.toList ++ st) I' J' Q)) := rCV (As := [.int a0]) f199_1030 rfl rfl rfl rfl (Nat.le_of_ble_eq_true rfl)
theorem x199_1033 : Rn S 199 1033 [v0, v1, .ref q, v3] st I J Q = Rn S 199 1034 [v0, v1, .ref q, v3] (.ref q :: st) I J Q := rL f199_1033 rfl rfl
theorem x199_1034 : Rn S 199 1034 [.ref q, v1, v2, v3] st I J Q = Rn S 199 1035 [.ref q, v1, v2, v3] (.ref q :: st) I J Q := rL f199_1034 rfl rfl
theorem x199_1035 : Rn S 199 1035 [v0, v1, v2, .int a] st I J Q = Rn S 199 1036 [v0, v1, v2, .int a] (.int a :: st) I J Q := rL f199_1035 rfl rfl
theorem x199_1036 : Rn S 199 1036 [v0, v1, v2, v3] st I J Q = Rn S 199 1037 [v0, v1, v2, v3] (.int 1 :: st) I J Q := rS f199_1036 rfl
theorem x199_1037 : Rn S 199 1037 [v0, v1, v2, v3] (.int b :: .int a :: st) I J Q = Rn S 199 1038 [v0, v1, v2, v3] (.int (a + b) :: st) I J Q := rS f199_1037 rfl
theorem x199_1038 : Rn S 199 1038 [v0, v1, v2, v3] (.int a :: .ref q :: st) I J Q = (zai S q a ∧ Rn S 199 1039 [v0, v1, v2, v3] (.int (I q a.toNatClampNeg) :: st) I J Q) := rIal f199_1038
theorem x199_1039 : Rn S 199 1039 [v0, v1, v2, v3] (.int a0 :: .ref q :: st) I J Q = ((zcls S q = 6 ∧ zcs st ≤ 8) ∧ Rn S 107 0 [.ref q, .int a0] [] I J (fun v I' J' => Rn S 199 1042 [v0, v1, v2, v3] (v.toList ++ st) I' J' Q)) := rCV (As := [.int a0]) f199_1039 rfl rfl rfl rfl (Nat.le_of_ble_eq_true rfl)
theorem x199_1042 : Rn S 199 1042 [v0, v1, v2, v3] (.int b :: .int a :: st) I J Q = if a = b then Rn S 199 1266 [v0, v1, v2, v3] st I J Q else Rn S 199 1045 [v0, v1, v2, v3] st I J Q := rCeq f199_1042 rfl rfl
theorem x199_1045 : Rn S 199 1045 [v0, v1, v2, v3] st I J Q = Rn S 199 1046 [v0, v1, v2, v3] (.int 0 :: st) I J Q := rS f199_1045 rfl
theorem x199_1046 : Rn S 199 1046 [v0, v1, v2, v3] [.int a] I J Q = ((a = 0 ∨ a = 1) ∧ Q (some (.int a)) I J) := rRZ f199_1046 (Or.inl rfl)
theorem x199_1047 : Rn S 199 1047 [v0, .ref q, v2, v3] st I J Q = Rn S 199 1048 [v0, .ref q, v2, v3] (.ref q :: st) I J Q := rL f199_1047 rfl rfl
theorem x199_1048 : Rn S 199 1048 [.ref q, v1, v2, v3] st I J Q = Rn S 199 1049 [.ref q, v1, v2, v3] (.ref q :: st) I J Q := rL f199_1048 rfl rfl
theorem x199_1049 : Rn S 199 1049 [v0, v1, v2, .int a] st I J Q = Rn S 199 1050 [v0, v1, v2, .int a] (.int a :: st) I J Q := rL f199_1049 rfl rfl
theorem x199_1050 : Rn S 199 1050 [v0, v1, v2, v3] st I J Q = Rn S 199 1051 [v0, v1, v2, v3] (.int 1 :: st) I J Q := rS f199_1050 rfl
theorem x199_1051 : Rn S 199 1051 [v0, v1, v2, v3] (.int b :: .int a :: st) I J Q = Rn S 199 1052 [v0, v1, v2, v3] (.int (a + b) :: st) I J Q := rS f199_1051 rfl
theorem x199_1052 : Rn S 199 1052 [v0, v1, v2, v3] (.int a :: .ref q :: st) I J Q = (zai S q a ∧ Rn S 199 1053 [v0, v1, v2, v3] (.int (I q a.toNatClampNeg) :: st) I J Q) := rIal f199_1052
theorem x199_1053 : Rn S 199 1053 [.ref q, v1, v2, v3] st I J Q = Rn S 199 1054 [.ref q, v1, v2, v3] (.ref q :: st) I J Q := rL f199_1053 rfl rfl
theorem x199_1054 : Rn S 199 1054 [v0, v1, v2, .int a] st I J Q = Rn S 199 1055 [v0, v1, v2, .int a] (.int a :: st) I J Q := rL f199_1054 rfl rfl
theorem x199_1055 : Rn S 199 1055 [v0, v1, v2, v3] st I J Q = Rn S 199 1056 [v0, v1, v2, v3] (.int 2 :: st) I J Q := rS f199_1055 rfl
theorem x199_1056 : Rn S 199 1056 [v0, v1, v2, v3] (.int b :: .int a :: st) I J Q = Rn S 199 1057 [v0, v1, v2, v3] (.int (a + b) :: st) I J Q := rS f199_1056 rfl
theorem x199_1057 : Rn S 199 1057 [v0, v1, v2, v3] (.int a :: .ref q :: st) I J Q = (zai S q a ∧ Rn S 199 1058 [v0, v1, v2, v3] (.int (I q a.toNatClampNeg) :: st) I J Q) := rIal f199_1057
theorem x199_1058 : Rn S 199 1058 [.ref q, v1, v2, v3] st I J Q = Rn S 199 1059 [.ref q, v1, v2, v3] (.ref q :: st) I J Q := rL f199_1058 rfl rfl
theorem x199_1059 : Rn S 199 1059 [v0, v1, v2, .int a] st I J Q = Rn S 199 1060 [v0, v1, v2, .int a] (.int a :: st) I J Q := rL f199_1059 rfl rfl
theorem x199_1060 : Rn S 199 1060 [v0, v1, v2, v3] st I J Q = Rn S 199 1061 [v0, v1, v2, v3] (.int 3 :: st) I J Q := rS f199_1060 rfl
theorem x199_1061 : Rn S 199 1061 [v0, v1, v2, v3] (.int b :: .int a :: st) I J Q = Rn S 199 1062 [v0, v1, v2, v3] (.int (a + b) :: st) I J Q := rS f199_1061 rfl
theorem x199_1062 : Rn S 199 1062 [v0, v1, v2, v3] (.int a :: .ref q :: st) I J Q = (zai S q a ∧ Rn S 199 1063 [v0, v1, v2, v3] (.int (I q a.toNatClampNeg) :: st) I J Q) := rIal f199_1062
theorem x199_1063 : Rn S 199 1063 [.ref q, v1, v2, v3] st I J Q = Rn S 199 1064 [.ref q, v1, v2, v3] (.ref q :: st) I J Q := rL f199_1063 rfl rfl
theorem x199_1064 : Rn S 199 1064 [v0, v1, v2, .int a] st I J Q = Rn S 199 1065 [v0, v1, v2, .int a] (.int a :: st) I J Q := rL f199_1064 rfl rfl
theorem x199_1065 : Rn S 199 1065 [v0, v1, v2, v3] st I J Q = Rn S 199 1066 [v0, v1, v2, v3] (.int 4 :: st) I J Q := rS f199_1065 rfl
theorem x199_1066 : Rn S 199 1066 [v0, v1, v2, v3] (.int b :: .int a :: st) I J Q = Rn S 199 1067 [v0, v1, v2, v3] (.int (a + b) :: st) I J Q := rS f199_1066 rfl
theorem x199_1067 : Rn S 199 1067 [v0, v1, v2, v3] (.int a :: .ref q :: st) I J Q = (zai S q a ∧ Rn S 199 1068 [v0, v1, v2, v3] (.int (I q a.toNatClampNeg) :: st) I J Q) := rIal f199_1067
theorem x199_1068 : Rn S 199 1068 [v0, v1, v2, v3] (.int a3 :: .int a2 :: .int a1 :: .int a0 :: .ref q :: st) I J Q = ((zcls S q = 5 ∧ zcs st ≤ 8) ∧ Rn S 69 0 [.ref q, .int a0, .int a1, .int a2, .int a3, .null] [] I J (fun v I' J' => Rn S 199 1071 [v0, v1, v2, v3] (v.toList ++ st) I' J' Q)) := rCV (As := [.int a0, .int a1, .int a2, .int a3]) f199_1068 rfl rfl rfl rfl (Nat.le_of_ble_eq_true rfl)
theorem x199_1071 : Rn S 199 1071 [v0, v1, .ref q, v3] st I J Q = Rn S 199 1072 [v0, v1, .ref q, v3] (.ref q :: st) I J Q := rL f199_1071 rfl rfl
theorem x199_1072 : Rn S 199 1072 [.ref q, v1, v2, v3] st I J Q = Rn S 199 1073 [.ref q, v1, v2, v3] (.ref q :: st) I J Q := rL f199_1072 rfl rfl
theorem x199_1073 : Rn S 199 1073 [v0, v1, v2, .int a] st I J Q = Rn S 199 1074 [v0, v1, v2, .int a] (.int a :: st) I J Q := rL f199_1073 rfl rfl
theorem x199_1074 : Rn S 199 1074 [v0, v1, v2, v3] st I J Q = Rn S 199 1075 [v0, v1, v2, v3] (.int 1 :: st) I J Q := rS f199_1074 rfl
theorem x199_1075 : Rn S 199 1075 [v0, v1, v2, v3] (.int b :: .int a :: st) I J Q = Rn S 199 1076 [v0, v1, v2, v3] (.int (a + b) :: st) I J Q := rS f199_1075 rfl
theorem x199_1076 : Rn S 199 1076 [v0, v1, v2, v3] (.int a :: .ref q :: st) I J Q = (zai S q a ∧ Rn S 199 1077 [v0, v1, v2, v3] (.int (I q a.toNatClampNeg) :: st) I J Q) := rIal f199_1076
theorem x199_1077 : Rn S 199 1077 [.ref q, v1, v2, v3] st I J Q = Rn S 199 1078 [.ref q, v1, v2, v3] (.ref q :: st) I J Q := rL f199_1077 rfl rfl
theorem x199_1078 : Rn S 199 1078 [v0, v1, v2, .int a] st I J Q = Rn S 199 1079 [v0, v1, v2, .int a] (.int a :: st) I J Q := rL f199_1078 rfl rfl
theorem x199_1079 : Rn S 199 1079 [v0, v1, v2, v3] st I J Q = Rn S 199 1080 [v0, v1, v2, v3] (.int 2 :: st) I J Q := rS f199_1079 rfl
theorem x199_1080 : Rn S 199 1080 [v0, v1, v2, v3] (.int b :: .int a :: st) I J Q = Rn S 199 1081 [v0, v1, v2, v3] (.int (a + b) :: st) I J Q := rS f199_1080 rfl
theorem x199_1081 : Rn S 199 1081 [v0, v1, v2, v3] (.int a :: .ref q :: st) I J Q = (zai S q a ∧ Rn S 199 1082 [v0, v1, v2, v3] (.int (I q a.toNatClampNeg) :: st) I J Q) := rIal f199_1081
theorem x199_1082 : Rn S 199 1082 [.ref q, v1, v2, v3] st I J Q = Rn S 199 1083 [.ref q, v1, v2, v3] (.ref q :: st) I J Q := rL f199_1082 rfl rfl
theorem x199_1083 : Rn S 199 1083 [v0, v1, v2, .int a] st I J Q = Rn S 199 1084 [v0, v1, v2, .int a] (.int a :: st) I J Q := rL f199_1083 rfl rfl
theorem x199_1084 : Rn S 199 1084 [v0, v1, v2, v3] st I J Q = Rn S 199 1085 [v0, v1, v2, v3] (.int 3 :: st) I J Q := rS f199_1084 rfl
theorem x199_1085 : Rn S 199 1085 [v0, v1, v2, v3] (.int b :: .int a :: st) I J Q = Rn S 199 1086 [v0, v1, v2, v3] (.int (a + b) :: st) I J Q := rS f199_1085 rfl
theorem x199_1086 : Rn S 199 1086 [v0, v1, v2, v3] (.int a :: .ref q :: st) I J Q = (zai S q a ∧ Rn S 199 1087 [v0, v1, v2, v3] (.int (I q a.toNatClampNeg) :: st) I J Q) := rIal f199_1086
theorem x199_1087 : Rn S 199 1087 [.ref q, v1, v2, v3] st I J Q = Rn S 199 1088 [.ref q, v1, v2, v3] (.ref q :: st) I J Q := rL f199_1087 rfl rfl
theorem x199_1088 : Rn S 199 1088 [v0, v1, v2, .int a] st I J Q = Rn S 199 1089 [v0, v1, v2, .int a] (.int a :: st) I J Q := rL f199_1088 rfl rfl
theorem x199_1089 : Rn S 199 1089 [v0, v1, v2, v3] st I J Q = Rn S 199 1090 [v0, v1, v2, v3] (.int 4 :: st) I J Q := rS f199_1089 rfl
theorem x199_1090 : Rn S 199 1090 [v0, v1, v2, v3] (.int b :: .int a :: st) I J Q = Rn S 199 1091 [v0, v1, v2, v3] (.int (a + b) :: st) I J Q := rS f199_1090 rfl
theorem x199_1091 : Rn S 199 1091 [v0, v1, v2, v3] (.int a :: .ref q :: st) I J Q = (zai S q a ∧ Rn S 199 1092 [v0, v1, v2, v3] (.int (I q a.toNatClampNeg) :: st) I J Q) := rIal f199_1091
theorem x199_1092 : Rn S 199 1092 [v0, v1, v2, v3] (.int a3 :: .int a2 :: .int a1 :: .int a0 :: .ref q :: st) I J Q = ((zcls S q = 6 ∧ zcs st ≤ 8) ∧ Rn S 110 0 [.ref q, .int a0, .int a1, .int a2, .int a3, .null] [] I J (fun v I' J' => Rn S 199 1095 [v0, v1, v2, v3] (v.toList ++ st) I' J' Q)) := rCV (As := [.int a0, .int a1, .int a2, .int a3]) f199_1092 rfl rfl rfl rfl (Nat.le_of_ble_eq_true rfl)
theorem x199_1095 : Rn S 199 1095 [v0, v1, v2, v3] (.int b :: .int a :: st) I J Q = if a = b then Rn S 199 1266 [v0, v1, v2, v3] st I J Q else Rn S 199 1098 [v0, v1, v2, v3] st I J Q := rCeq f199_1095 rfl rfl
theorem x199_1098 : Rn S 199 1098 [v0, v1, v2, v3] st I J Q = Rn S 199 1099 [v0, v1, v2, v3] (.int 0 :: st) I J Q := rS f199_1098 rfl
theorem x199_1099 : Rn S 199 1099 [v0, v1, v2, v3] [.int a] I J Q = ((a = 0 ∨ a = 1) ∧ Q (some (.int a)) I J) := rRZ f199_1099 (Or.inl rfl)
theorem x199_1100 : Rn S 199 1100 [v0, .ref q, v2, v3] st I J Q = Rn S 199 1101 [v0, .ref q, v2, v3] (.ref q :: st) I J Q := rL f199_1100 rfl rfl
theorem x199_1101 : Rn S 199 1101 [.ref q, v1, v2, v3] st I J Q = Rn S 199 1102 [.ref q, v1, v2, v3] (.ref q :: st) I J Q := rL f199_1101 rfl rfl
theorem x199_1102 : Rn S 199 1102 [v0, v1, v2, .int a] st I J Q = Rn S 199 1103 [v0, v1, v2, .int a] (.int a :: st) I J Q := rL f199_1102 rfl rfl
theorem x199_1103 : Rn S 199 1103 [v0, v1, v2, v3] st I J Q = Rn S 199 1104 [v0, v1, v2, v3] (.int 1 :: st) I J Q := rS f199_1103 rfl
theorem x199_1104 : Rn S 199 1104 [v0, v1, v2, v3] (.int b :: .int a :: st) I J Q = Rn S 199 1105 [v0, v1, v2, v3] (.int (a + b) :: st) I J Q := rS f199_1104 rfl
theorem x199_1105 : Rn S 199 1105 [v0, v1, v2, v3] (.int a :: .ref q :: st) I J Q = (zai S q a ∧ Rn S 199 1106 [v0, v1, v2, v3] (.int (I q a.toNatClampNeg) :: st) I J Q) := rIal f199_1105
theorem x199_1106 : Rn S 199 1106 [.ref q, v1, v2, v3] st I J Q = Rn S 199 1107 [.ref q, v1, v2, v3] (.ref q :: st) I J Q := rL f199_1106 rfl rfl
theorem x199_1107 : Rn S 199 1107 [v0, v1, v2, .int a] st I J Q = Rn S 199 1108 [v0, v1, v2, .int a] (.int a :: st) I J Q := rL f199_1107 rfl rfl
theorem x199_1108 : Rn S 199 1108 [v0, v1, v2, v3] st I J Q = Rn S 199 1109 [v0, v1, v2, v3] (.int 2 :: st) I J Q := rS f199_1108 rfl
theorem x199_1109 : Rn S 199 1109 [v0, v1, v2, v3] (.int b :: .int a :: st) I J Q = Rn S 199 1110 [v0, v1, v2, v3] (.int (a + b) :: st) I J Q := rS f199_1109 rfl
theorem x199_1110 : Rn S 199 1110 [v0, v1, v2, v3] (.int a :: .ref q :: st) I J Q = (zai S q a ∧ Rn S 199 1111 [v0, v1, v2, v3] (.int (I q a.toNatClampNeg) :: st) I J Q) := rIal f199_1110
theorem x199_1111 : Rn S 199 1111 [.ref q, v1, v2, v3] st I J Q = Rn S 199 1112 [.ref q, v1, v2, v3] (.ref q :: st) I J Q := rL f199_1111 rfl rfl
theorem x199_1112 : Rn S 199 1112 [v0, v1, v2, .int a] st I J Q = Rn S 199 1113 [v0, v1, v2, .int a] (.int a :: st) I J Q := rL f199_1112 rfl rfl
theorem x199_1113 : Rn S 199 1113 [v0, v1, v2, v3] st I J Q = Rn S 199 1114 [v0, v1, v2, v3] (.int 3 :: st) I J Q := rS f199_1113 rfl
theorem x199_1114 : Rn S 199 1114 [v0, v1, v2, v3] (.int b :: .int a :: st) I J Q = Rn S 199 1115 [v0, v1, v2, v3] (.int (a + b) :: st) I J Q := rS f199_1114 rfl
theorem x199_1115 : Rn S 199 1115 [v0, v1, v2, v3] (.int a :: .ref q :: st) I J Q = (zai S q a ∧ Rn S 199 1116 [v0, v1, v2, v3] (.int (I q a.toNatClampNeg) :: st) I J Q) := rIal f199_1115
theorem x199_1116 : Rn S 199 1116 [v0, v1, v2, v3] (.int a2 :: .int a1 :: .int a0 :: .ref q :: st) I J Q = ((zcls S q = 5 ∧ zcs st ≤ 8) ∧ Rn S 70 0 [.ref q, .int a0, .int a1, .int a2, .null] [] I J (fun v I' J' => Rn S 199 1119 [v0, v1, v2, v3] (v.toList ++ st) I' J' Q)) := rCV (As := [.int a0, .int a1, .int a2]) f199_1116 rfl rfl rfl rfl (Nat.le_of_ble_eq_true rfl)
theorem x199_1119 : Rn S 199 1119 [v0, v1, .ref q, v3] st I J Q = Rn S 199 1120 [v0, v1, .ref q, v3] (.ref q :: st) I J Q := rL f199_1119 rfl rfl
theorem x199_1120 : Rn S 199 1120 [.ref q, v1, v2, v3] st I J Q = Rn S 199 1121 [.ref q, v1, v2, v3] (.ref q :: st) I J Q := rL f199_1120 rfl rfl
theorem x199_1121 : Rn S 199 1121 [v0, v1, v2, .int a] st I J Q = Rn S 199 1122 [v0, v1, v2, .int a] (.int a :: st) I J Q := rL f199_1121 rfl rfl
theorem x199_1122 : Rn S 199 1122 [v0, v1, v2, v3] st I J Q = Rn S 199 1123 [v0, v1, v2, v3] (.int 1 :: st) I J Q := rS f199_1122 rfl
theorem x199_1123 : Rn S 199 1123 [v0, v1, v2, v3] (.int b :: .int a :: st) I J Q = Rn S 199 1124 [v0, v1, v2, v3] (.int (a + b) :: st) I J Q := rS f199_1123 rfl
theorem x199_1124 : Rn S 199 1124 [v0, v1, v2, v3] (.int a :: .ref q :: st) I J Q = (zai S q a ∧ Rn S 199 1125 [v0, v1, v2, v3] (.int (I q a.toNatClampNeg) :: st) I J Q) := rIal f199_1124
theorem x199_1125 : Rn S 199 1125 [.ref q, v1, v2, v3] st I J Q = Rn S 199 1126 [.ref q, v1, v2, v3] (.ref q :: st) I J Q := rL f199_1125 rfl rfl
theorem x199_1126 : Rn S 199 1126 [v0, v1, v2, .int a] st I J Q = Rn S 199 1127 [v0, v1, v2, .int a] (.int a :: st) I J Q := rL f199_1126 rfl rfl
theorem x199_1127 : Rn S 199 1127 [v0, v1, v2, v3] st I J Q = Rn S 199 1128 [v0, v1, v2, v3] (.int 2 :: st) I J Q := rS f199_1127 rfl
theorem x199_1128 : Rn S 199 1128 [v0, v1, v2, v3] (.int b :: .int a :: st) I J Q = Rn S 199 1129 [v0, v1, v2, v3] (.int (a + b) :: st) I J Q := rS f199_1128 rfl
theorem x199_1129 : Rn S 199 1129 [v0, v1, v2, v3] (.int a :: .ref q :: st) I J Q = (zai S q a ∧ Rn S 199 1130 [v0, v1, v2, v3] (.int (I q a.toNatClampNeg) :: st) I J Q) := rIal f199_1129
theorem x199_1130 : Rn S 199 1130 [.ref q, v1, v2, v3] st I J Q = Rn S 199 1131 [.ref q, v1, v2, v3] (.ref q :: st) I J Q := rL f199_1130 rfl rfl
theorem x199_1131 : Rn S 199 1131 [v0, v1, v2, .int a] st I J Q = Rn S 199 1132 [v0, v1, v2, .int a] (.int a :: st) I J Q := rL f199_1131 rfl rfl
theorem x199_1132 : Rn S 199 1132 [v0, v1, v2, v3] st I J Q = Rn S 199 1133 [v0, v1, v2, v3] (.int 3 :: st) I J Q := rS f199_1132 rfl
theorem x199_1133 : Rn S 199 1133 [v0, v1, v2, v3] (.int b :: .int a :: st) I J Q = Rn S 199 1134 [v0, v1, v2, v3] (.int (a + b) :: st) I J Q := rS f199_1133 rfl
theorem x199_1134 : Rn S 199 1134 [v0, v1, v2, v3] (.int a :: .ref q :: st) I J Q = (zai S q a ∧ Rn S 199 1135 [v0, v1, v2, v3] (.int (I q a.toNatClampNeg) :: st) I J Q) := rIal f199_1134
theorem x199_1135 : Rn S 199 1135 [v0, v1, v2, v3] (.int a2 :: .int a1 :: .int a0 :: .ref q :: st) I J Q = ((zcls S q = 6 ∧ zcs st ≤ 8) ∧ Rn S 111 0 [.ref q, .int a0, .int a1, .int a2] [] I J (fun v I' J' => Rn S 199 1138 [v0, v1, v2, v3] (v.toList ++ st) I' J' Q)) := rCV (As := [.int a0, .int a1, .int a2]) f199_1135 rfl rfl rfl rfl (Nat.le_of_ble_eq_true rfl)
theorem x199_1138 : Rn S 199 1138 [v0, v1, v2, v3] (.int b :: .int a :: st) I J Q = if a = b then Rn S 199 1266 [v0, v1, v2, v3] st I J Q else Rn S 199 1141 [v0, v1, v2, v3] st I J Q := rCeq f199_1138 rfl rfl
theorem x199_1141 : Rn S 199 1141 [v0, v1, v2, v3] st I J Q = Rn S 199 1142 [v0, v1, v2, v3] (.int 0 :: st) I J Q := rS f199_1141 rfl
theorem x199_1142 : Rn S 199 1142 [v0, v1, v2, v3] [.int a] I J Q = ((a = 0 ∨ a = 1) ∧ Q (some (.int a)) I J) := rRZ f199_1142 (Or.inl rfl)
theorem x199_1143 : Rn S 199 1143 [v0, .ref q, v2, v3] st I J Q = Rn S 199 1144 [v0, .ref q, v2, v3] (.ref q :: st) I J Q := rL f199_1143 rfl rfl
theorem x199_1144 : Rn S 199 1144 [.ref q, v1, v2, v3] st I J Q = Rn S 199 1145 [.ref q, v1, v2, v3] (.ref q :: st) I J Q := rL f199_1144 rfl rfl
theorem x199_1145 : Rn S 199 1145 [v0, v1, v2, .int a] st I J Q = Rn S 199 1146 [v0, v1, v2, .int a] (.int a :: st) I J Q := rL f199_1145 rfl rfl
theorem x199_1146 : Rn S 199 1146 [v0, v1, v2, v3] st I J Q = Rn S 199 1147 [v0, v1, v2, v3] (.int 1 :: st) I J Q := rS f199_1146 rfl
theorem x199_1147 : Rn S 199 1147 [v0, v1, v2, v3] (.int b :: .int a :: st) I J Q = Rn S 199 1148 [v0, v1, v2, v3] (.int (a + b) :: st) I J Q := rS f199_1147 rfl
theorem x199_1148 : Rn S 199 1148 [v0, v1, v2, v3] (.int a :: .ref q :: st) I J Q = (zai S q a ∧ Rn S 199 1149 [v0, v1, v2, v3] (.int (I q a.toNatClampNeg) :: st) I J Q) := rIal f199_1148
theorem x199_1149 : Rn S 199 1149 [.ref q, v1, v2, v3] st I J Q = Rn S 199 1150 [.ref q, v1, v2, v3] (.ref q :: st) I J Q := rL f199_1149 rfl rfl
theorem x199_1150 : Rn S 199 1150 [v0, v1, v2, .int a] st I J Q = Rn S 199 1151 [v0, v1, v2, .int a] (.int a :: st) I J Q := rL f199_1150 rfl rfl
theorem x199_1151 : Rn S 199 1151 [v0, v1, v2, v3] st I J Q = Rn S 199 1152 [v0, v1, v2, v3] (.int 2 :: st) I J Q := rS f199_1151 rfl
theorem x199_1152 : Rn S 199 1152 [v0, v1, v2, v3] (.int b :: .int a :: st) I J Q = Rn S 199 1153 [v0, v1, v2, v3] (.int (a + b) :: st) I J Q := rS f199_1152 rfl
theorem x199_1153 : Rn S 199 1153 [v0, v1, v2, v3] (.int a :: .ref q :: st) I J Q = (zai S q a ∧ Rn S 199 1154 [v0, v1, v2, v3] (.int (I q a.toNatClampNeg) :: st) I J Q) := rIal f199_1153
theorem x199_1154 : Rn S 199 1154 [.ref q, v1, v2, v3] st I J Q = Rn S 199 1155 [.ref q, v1, v2, v3] (.ref q :: st) I J Q := rL f199_1154 rfl rfl
theorem x199_1155 : Rn S 199 1155 [v0, v1, v2, .int a] st I J Q = Rn S 199 1156 [v0, v1, v2, .int a] (.int a :: st) I J Q := rL f199_1155 rfl rfl
theorem x199_1156 : Rn S 199 1156 [v0, v1, v2, v3] st I J Q = Rn S 199 1157 [v0, v1, v2, v3] (.int 3 :: st) I J Q := rS f199_1156 rfl
theorem x199_1157 : Rn S 199 1157 [v0, v1, v2, v3] (.int b :: .int a :: st) I J Q = Rn S 199 1158 [v0, v1, v2, v3] (.int (a + b) :: st) I J Q := rS f199_1157 rfl
theorem x199_1158 : Rn S 199 1158 [v0, v1, v2, v3] (.int a :: .ref q :: st) I J Q = (zai S q a ∧ Rn S 199 1159 [v0, v1, v2, v3] (.int (I q a.toNatClampNeg) :: st) I J Q) := rIal f199_1158
theorem x199_1159 : Rn S 199 1159 [.ref q, v1, v2, v3] st I J Q = Rn S 199 1160 [.ref q, v1, v2, v3] (.ref q :: st) I J Q := rL f199_1159 rfl rfl
theorem x199_1160 : Rn S 199 1160 [v0, v1, v2, .int a] st I J Q = Rn S 199 1161 [v0, v1, v2, .int a] (.int a :: st) I J Q := rL f199_1160 rfl rfl
theorem x199_1161 : Rn S 199 1161 [v0, v1, v2, v3] st I J Q = Rn S 199 1162 [v0, v1, v2, v3] (.int 4 :: st) I J Q := rS f199_1161 rfl
theorem x199_1162 : Rn S 199 1162 [v0, v1, v2, v3] (.int b :: .int a :: st) I J Q = Rn S 199 1163 [v0, v1, v2, v3] (.int (a + b) :: st) I J Q := rS f199_1162 rfl
theorem x199_1163 : Rn S 199 1163 [v0, v1, v2, v3] (.int a :: .ref q :: st) I J Q = (zai S q a ∧ Rn S 199 1164 [v0, v1, v2, v3] (.int (I q a.toNatClampNeg) :: st) I J Q) := rIal f199_1163
theorem x199_1164 : Rn S 199 1164 [.ref q, v1, v2, v3] st I J Q = Rn S 199 1165 [.ref q, v1, v2, v3] (.ref q :: st) I J Q := rL f199_1164 rfl rfl
theorem x199_1165 : Rn S 199 1165 [v0, v1, v2, .int a] st I J Q = Rn S 199 1166 [v0, v1, v2, .int a] (.int a :: st) I J Q := rL f199_1165 rfl rfl
theorem x199_1166 : Rn S 199 1166 [v0, v1, v2, v3] st I J Q = Rn S 199 1167 [v0, v1, v2, v3] (.int 5 :: st) I J Q := rS f199_1166 rfl
theorem x199_1167 : Rn S 199 1167 [v0, v1, v2, v3] (.int b :: .int a :: st) I J Q = Rn S 199 1168 [v0, v1, v2, v3] (.int (a + b) :: st) I J Q := rS f199_1167 rfl
theorem x199_1168 : Rn S 199 1168 [v0, v1, v2, v3] (.int a :: .ref q :: st) I J Q = (zai S q a ∧ Rn S 199 1169 [v0, v1, v2, v3] (.int (I q a.toNatClampNeg) :: st) I J Q) := rIal f199_1168
theorem x199_1169 : Rn S 199 1169 [v0, v1, v2, v3] (.int a4 :: .int a3 :: .int a2 :: .int a1 :: .int a0 :: .ref q :: st) I J Q = ((zcls S q = 5 ∧ zcs st ≤ 8) ∧ Rn S 71 0 [.ref q, .int a0, .int a1, .int a2, .int a3, .int a4, .null, .null] [] I J (fun v I' J' => Rn S 199 1172 [v0, v1, v2, v3] (v.toList ++ st) I' J' Q)) := rCV (As := [.int a0, .int a1, .int a2, .int a3, .int a4]) f199_1169 rfl rfl rfl rfl (Nat.le_of_ble_eq_true rfl)
theorem x199_1172 : Rn S 199 1172 [v0, v1, .ref q, v3] st I J Q = Rn S 199 1173 [v0, v1, .ref q, v3] (.ref q :: st) I J Q := rL f199_1172 rfl rfl
theorem x199_1173 : Rn S 199 1173 [.ref q, v1, v2, v3] st I J Q = Rn S 199 1174 [.ref q, v1, v2, v3] (.ref q :: st) I J Q := rL f199_1173 rfl rfl
theorem x199_1174 : Rn S 199 1174 [v0, v1, v2, .int a] st I J Q = Rn S 199 1175 [v0, v1, v2, .int a] (.int a :: st) I J Q := rL f199_1174 rfl rfl
theorem x199_1175 : Rn S 199 1175 [v0, v1, v2, v3] st I J Q = Rn S 199 1176 [v0, v1, v2, v3] (.int 1 :: st) I J Q := rS f199_1175 rfl
theorem x199_1176 : Rn S 199 1176 [v0, v1, v2, v3] (.int b :: .int a :: st) I J Q = Rn S 199 1177 [v0, v1, v2, v3] (.int (a + b) :: st) I J Q := rS f199_1176 rfl
theorem x199_1177 : Rn S 199 1177 [v0, v1, v2, v3] (.int a :: .ref q :: st) I J Q = (zai S q a ∧ Rn S 199 1178 [v0, v1, v2, v3] (.int (I q a.toNatClampNeg) :: st) I J Q) := rIal f199_1177
theorem x199_1178 : Rn S 199 1178 [.ref q, v1, v2, v3] st I J Q = Rn S 199 1179 [.ref q, v1, v2, v3] (.ref q :: st) I J Q := rL f199_1178 rfl rfl
theorem x199_1179 : Rn S 199 1179 [v0, v1, v2, .int a] st I J Q = Rn S 199 1180 [v0, v1, v2, .int a] (.int a :: st) I J Q := rL f199_1179 rfl rfl
theorem x199_1180 : Rn S 199 1180 [v0, v1, v2, v3] st I J Q = Rn S 199 1181 [v0, v1, v2, v3] (.int 2 :: st) I J Q := rS f199_1180 rfl
theorem x199_1181 : Rn S 199 1181 [v0, v1, v2, v3] (.int b :: .int a :: st) I J Q = Rn S 199 1182 [v0, v1, v2, v3] (.int (a + b) :: st) I J Q := rS f199_1181 rfl
theorem x199_1182 : Rn S 199 1182 [v0, v1, v2, v3] (.int a :: .ref q :: st) I J Q = (zai S q a ∧ Rn S 199 1183 [v0, v1, v2, v3] (.int (I q a.toNatClampNeg) :: st) I J Q) := rIal f199_1182
theorem x199_1183 : Rn S 199 1183 [.ref q, v1, v2, v3] st I J Q = Rn S 199 1184 [.ref q, v1, v2, v3] (.ref q :: st) I J Q := rL f199_1183 rfl rfl
theorem x199_1184 : Rn S 199 1184 [v0, v1, v2, .int a] st I J Q = Rn S 199 1185 [v0, v1, v2, .int a] (.int a :: st) I J Q := rL f199_1184 rfl rfl
theorem x199_1185 : Rn S 199 1185 [v0, v1, v2, v3] st I J Q = Rn S 199 1186 [v0, v1, v2, v3] (.int 3 :: st) I J Q := rS f199_1185 rfl
theorem x199_1186 : Rn S 199 1186 [v0, v1, v2, v3] (.int b :: .int a :: st) I J Q = Rn S 199 1187 [v0, v1, v2, v3] (.int (a + b) :: st) I J Q := rS f199_1186 rfl
theorem x199_1187 : Rn S 199 1187 [v0, v1, v2, v3] (.int a :: .ref q :: st) I J Q = (zai S q a ∧ Rn S 199 1188 [v0, v1, v2, v3] (.int (I q a.toNatClampNeg) :: st) I J Q) := rIal f199_1187
theorem x199_1188 : Rn S 199 1188 [.ref q, v1, v2, v3] st I J Q = Rn S 199 1189 [.ref q, v1, v2, v3] (.ref q :: st) I J Q := rL f199_1188 rfl rfl
theorem x199_1189 : Rn S 199 1189 [v0, v1, v2, .int a] st I J Q = Rn S 199 1190 [v0, v1, v2, .int a] (.int a :: st) I J Q := rL f199_1189 rfl rfl
theorem x199_1190 : Rn S 199 1190 [v0, v1, v2, v3] st I J Q = Rn S 199 1191 [v0, v1, v2, v3] (.int 4 :: st) I J Q := rS f199_1190 rfl
theorem x199_1191 : Rn S 199 1191 [v0, v1, v2, v3] (.int b :: .int a :: st) I J Q = Rn S 199 1192 [v0, v1, v2, v3] (.int (a + b) :: st) I J Q := rS f199_1191 rfl
theorem x199_1192 : Rn S 199 1192 [v0, v1, v2, v3] (.int a :: .ref q :: st) I J Q = (zai S q a ∧ Rn S 199 1193 [v0, v1, v2, v3] (.int (I q a.toNatClampNeg) :: st) I J Q) := rIal f199_1192
theorem x199_1193 : Rn S 199 1193 [.ref q, v1, v2, v3] st I J Q = Rn S 199 1194 [.ref q, v1, v2, v3] (.ref q :: st) I J Q := rL f199_1193 rfl rfl
theorem x199_1194 : Rn S 199 1194 [v0, v1, v2, .int a] st I J Q = Rn S 199 1195 [v0, v1, v2, .int a] (.int a :: st) I J Q := rL f199_1194 rfl rfl
theorem x199_1195 : Rn S 199 1195 [v0, v1, v2, v3] st I J Q = Rn S 199 1196 [v0, v1, v2, v3] (.int 5 :: st) I J Q := rS f199_1195 rfl
theorem x199_1196 : Rn S 199 1196 [v0, v1, v2, v3] (.int b :: .int a :: st) I J Q = Rn S 199 1197 [v0, v1, v2, v3] (.int (a + b) :: st) I J Q := rS f199_1196 rfl
theorem x199_1197 : Rn S 199 1197 [v0, v1, v2, v3] (.int a :: .ref q :: st) I J Q = (zai S q a ∧ Rn S 199 1198 [v0, v1, v2, v3] (.int (I q a.toNatClampNeg) :: st) I J Q) := rIal f199_1197
theorem x199_1198 : Rn S 199 1198 [v0, v1, v2, v3] (.int a4 :: .int a3 :: .int a2 :: .int a1 :: .int a0 :: .ref q :: st) I J Q = ((zcls S q = 6 ∧ zcs st ≤ 8) ∧ Rn S 112 0 [.ref q, .int a0, .int a1, .int a2, .int a3, .int a4, .null] [] I J (fun v I' J' => Rn S 199 1201 [v0, v1, v2, v3] (v.toList ++ st) I' J' Q)) := rCV (As := [.int a0, .int a1, .int a2, .int a3, .int a4]) f199_1198 rfl rfl rfl rfl (Nat.le_of_ble_eq_true rfl)
theorem x199_1201 : Rn S 199 1201 [v0, v1, v2, v3] (.int b :: .int a :: st) I J Q = if a = b then Rn S 199 1266 [v0, v1, v2, v3] st I J Q else Rn S 199 1204 [v0, v1, v2, v3] st I J Q := rCeq f199_1201 rfl rfl
theorem x199_1204 : Rn S 199 1204 [v0, v1, v2, v3] st I J Q = Rn S 199 1205 [v0, v1, v2, v3] (.int 0 :: st) I J Q := rS f199_1204 rfl
theorem x199_1205 : Rn S 199 1205 [v0, v1, v2, v3] [.int a] I J Q = ((a = 0 ∨ a = 1) ∧ Q (some (.int a)) I J) := rRZ f199_1205 (Or.inl rfl)
theorem x199_1206 : Rn S 199 1206 [v0, .ref q, v2, v3] st I J Q = Rn S 199 1207 [v0, .ref q, v2, v3] (.ref q :: st) I J Q := rL f199_1206 rfl rfl
theorem x199_1207 : Rn S 199 1207 [.ref q, v1, v2, v3] st I J Q = Rn S 199 1208 [.ref q, v1, v2, v3] (.ref q :: st) I J Q := rL f199_1207 rfl rfl
theorem x199_1208 : Rn S 199 1208 [v0, v1, v2, .int a] st I J Q = Rn S 199 1209 [v0, v1, v2, .int a] (.int a :: st) I J Q := rL f199_1208 rfl rfl
theorem x199_1209 : Rn S 199 1209 [v0, v1, v2, v3] st I J Q = Rn S 199 1210 [v0, v1, v2, v3] (.int 1 :: st) I J Q := rS f199_1209 rfl
theorem x199_1210 : Rn S 199 1210 [v0, v1, v2, v3] (.int b :: .int a :: st) I J Q = Rn S 199 1211 [v0, v1, v2, v3] (.int (a + b) :: st) I J Q := rS f199_1210 rfl
theorem x199_1211 : Rn S 199 1211 [v0, v1, v2, v3] (.int a :: .ref q :: st) I J Q = (zai S q a ∧ Rn S 199 1212 [v0, v1, v2, v3] (.int (I q a.toNatClampNeg) :: st) I J Q) := rIal f199_1211
theorem x199_1212 : Rn S 199 1212 [v0, v1, v2, v3] (.int a0 :: .ref q :: st) I J Q = ((zcls S q = 5 ∧ zcs st ≤ 8) ∧ Rn S 72 0 [.ref q, .int a0, .null, .null, .null] [] I J (fun v I' J' => Rn S 199 1215 [v0, v1, v2, v3] (v.toList ++ st) I' J' Q)) := rCV (As := [.int a0]) f199_1212 rfl rfl rfl rfl (Nat.le_of_ble_eq_true rfl)
theorem x199_1215 : Rn S 199 1215 [v0, v1, .ref q, v3] st I J Q = Rn S 199 1216 [v0, v1, .ref q, v3] (.ref q :: st) I J Q := rL f199_1215 rfl rfl
theorem x199_1216 : Rn S 199 1216 [.ref q, v1, v2, v3] st I J Q = Rn S 199 1217 [.ref q, v1, v2, v3] (.ref q :: st) I J Q := rL f199_1216 rfl rfl
theorem x199_1217 : Rn S 199 1217 [v0, v1, v2, .int a] st I J Q = Rn S 199 1218 [v0, v1, v2, .int a] (.int a :: st) I J Q := rL f199_1217 rfl rfl
theorem x199_1218 : Rn S 199 1218 [v0, v1, v2, v3] st I J Q = Rn S 199 1219 [v0, v1, v2, v3] (.int 1 :: st) I J Q := rS f199_1218 rfl
theorem x199_1219 : Rn S 199 1219 [v0, v1, v2, v3] (.int b :: .int a :: st) I J Q = Rn S 199 1220 [v0, v1, v2, v3] (.int (a + b) :: st) I J Q := rS f199_1219 rfl
theorem x199_1220 : Rn S 199 1220 [v0, v1, v2, v3] (.int a :: .ref q :: st) I J Q = (zai S q a ∧ Rn S 199 1221 [v0, v1, v2, v3] (.int (I q a.toNatClampNeg) :: st) I J Q) := rIal f199_1220
theorem x199_1221 : Rn S 199 1221 [v0, v1, v2, v3] (.int a0 :: .ref q :: st) I J Q = ((zcls S q = 6 ∧ zcs st ≤ 8) ∧ Rn S 183 0 [.ref q, .int a0, .null, .null] [] I J (fun v I' J' => Rn S 199 1224 [v0, v1, v2, v3] (v.toList ++ st) I' J' Q)) := rCV (As := [.int a0]) f199_1221 rfl rfl rfl rfl (Nat.le_of_ble_eq_true rfl)
theorem x199_1224 : Rn S 199 1224 [v0, v1, v2, v3] (.int b :: .int a :: st) I J Q = if a = b then Rn S 199 1266 [v0, v1, v2, v3] st I J Q else Rn S 199 1227 [v0, v1, v2, v3] st I J Q := rCeq f199_1224 rfl rfl
theorem x199_1227 : Rn S 199 1227 [v0, v1, v2, v3] st I J Q = Rn S 199 1228 [v0, v1, v2, v3] (.int 0 :: st) I J Q := rS f199_1227 rfl
theorem x199_1228 : Rn S 199 1228 [v0, v1, v2, v3] [.int a] I J Q = ((a = 0 ∨ a = 1) ∧ Q (some (.int a)) I J) := rRZ f199_1228 (Or.inl rfl)
theorem x199_1229 : Rn S 199 1229 [v0, .ref q, v2, v3] st I J Q = Rn S 199 1230 [v0, .ref q, v2, v3] (.ref q :: st) I J Q := rL f199_1229 rfl rfl
theorem x199_1230 : Rn S 199 1230 [.ref q, v1, v2, v3] st I J Q = Rn S 199 1231 [.ref q, v1, v2, v3] (.ref q :: st) I J Q := rL f199_1230 rfl rfl
theorem x199_1231 : Rn S 199 1231 [v0, v1, v2, .int a] st I J Q = Rn S 199 1232 [v0, v1, v2, .int a] (.int a :: st) I J Q := rL f199_1231 rfl rfl
theorem x199_1232 : Rn S 199 1232 [v0, v1, v2, v3] st I J Q = Rn S 199 1233 [v0, v1, v2, v3] (.int 1 :: st) I J Q := rS f199_1232 rfl
theorem x199_1233 : Rn S 199 1233 [v0, v1, v2, v3] (.int b :: .int a :: st) I J Q = Rn S 199 1234 [v0, v1, v2, v3] (.int (a + b) :: st) I J Q := rS f199_1233 rfl
theorem x199_1234 : Rn S 199 1234 [v0, v1, v2, v3] (.int a :: .ref q :: st) I J Q = (zai S q a ∧ Rn S 199 1235 [v0, v1, v2, v3] (.int (I q a.toNatClampNeg) :: st) I J Q) := rIal f199_1234
theorem x199_1235 : Rn S 199 1235 [v0, v1, v2, v3] (.int a0 :: .ref q :: st) I J Q = ((zcls S q = 5 ∧ zcs st ≤ 8) ∧ Rn S 73 0 [.ref q, .int a0] [] I J (fun v I' J' => Rn S 199 1238 [v0, v1, v2, v3] (v.toList ++ st) I' J' Q)) := rCV (As := [.int a0]) f199_1235 rfl rfl rfl rfl (Nat.le_of_ble_eq_true rfl)
theorem x199_1238 : Rn S 199 1238 [v0, v1, .ref q, v3] st I J Q = Rn S 199 1239 [v0, v1, .ref q, v3] (.ref q :: st) I J Q := rL f199_1238 rfl rfl
theorem x199_1239 : Rn S 199 1239 [.ref q, v1, v2, v3] st I J Q = Rn S 199 1240 [.ref q, v1, v2, v3] (.ref q :: st) I J Q := rL f199_1239 rfl rfl
theorem x199_1240 : Rn S 199 1240 [v0, v1, v2, .int a] st I J Q = Rn S 199 1241 [v0, v1, v2, .int a] (.int a :: st) I J Q := rL f199_1240 rfl rfl
theorem x199_1241 : Rn S 199 1241 [v0, v1, v2, v3] st I J Q = Rn S 199 1242 [v0, v1, v2, v3] (.int 1 :: st) I J Q := rS f199_1241 rfl
theorem x199_1242 : Rn S 199 1242 [v0, v1, v2, v3] (.int b :: .int a :: st) I J Q = Rn S 199 1243 [v0, v1, v2, v3] (.int (a + b) :: st) I J Q := rS f199_1242 rfl
theorem x199_1243 : Rn S 199 1243 [v0, v1, v2, v3] (.int a :: .ref q :: st) I J Q = (zai S q a ∧ Rn S 199 1244 [v0, v1, v2, v3] (.int (I q a.toNatClampNeg) :: st) I J Q) := rIal f199_1243
theorem x199_1244 : Rn S 199 1244 [v0, v1, v2, v3] (.int a0 :: .ref q :: st) I J Q = ((zcls S q = 6 ∧ zcs st ≤ 8) ∧ Rn S 184 0 [.ref q, .int a0] [] I J (fun v I' J' => Rn S 199 1247 [v0, v1, v2, v3] (v.toList ++ st) I' J' Q)) := rCV (As := [.int a0]) f199_1244 rfl rfl rfl rfl (Nat.le_of_ble_eq_true rfl)
theorem x199_1247 : Rn S 199 1247 [v0, v1, v2, v3] (.int b :: .int a :: st) I J Q = if a = b then Rn S 199 1266 [v0, v1, v2, v3] st I J Q else Rn S 199 1250 [v0, v1, v2, v3] st I J Q := rCeq f199_1247 rfl rfl
theorem x199_1250 : Rn S 199 1250 [v0, v1, v2, v3] st I J Q = Rn S 199 1251 [v0, v1, v2, v3] (.int 0 :: st) I J Q := rS f199_1250 rfl
theorem x199_1251 : Rn S 199 1251 [v0, v1, v2, v3] [.int a] I J Q = ((a = 0 ∨ a = 1) ∧ Q (some (.int a)) I J) := rRZ f199_1251 (Or.inl rfl)
theorem x199_1252 : Rn S 199 1252 [v0, .ref q, v2, v3] st I J Q = Rn S 199 1253 [v0, .ref q, v2, v3] (.ref q :: st) I J Q := rL f199_1252 rfl rfl
theorem x199_1253 : Rn S 199 1253 [v0, v1, v2, v3] (.ref q :: st) I J Q = ((zcls S q = 5 ∧ zcs st ≤ 8) ∧ Rn S 74 0 [.ref q, .null, .null, .null] [] I J (fun v I' J' => Rn S 199 1256 [v0, v1, v2, v3] (v.toList ++ st) I' J' Q)) := rCV (As := []) f199_1253 rfl rfl rfl rfl (Nat.le_of_ble_eq_true rfl)
theorem x199_1256 : Rn S 199 1256 [v0, v1, .ref q, v3] st I J Q = Rn S 199 1257 [v0, v1, .ref q, v3] (.ref q :: st) I J Q := rL f199_1256 rfl rfl
theorem x199_1257 : Rn S 199 1257 [v0, v1, v2, v3] (.ref q :: st) I J Q = ((zcls S q = 6 ∧ zcs st ≤ 8) ∧ Rn S 187 0 [.ref q, .null, .null, .null] [] I J (fun v I' J' => Rn S 199 1260 [v0, v1, v2, v3] (v.toList ++ st) I' J' Q)) := rCV (As := []) f199_1257 rfl rfl rfl rfl (Nat.le_of_ble_eq_true rfl)
theorem x199_1260 : Rn S 199 1260 [v0, v1, v2, v3] (.long w :: .long u :: st) I J Q = Rn S 199 1261 [v0, v1, v2, v3] (.int (lg_cmp u w) :: st) I J Q := rS f199_1260 rfl
theorem x199_1261 : Rn S 199 1261 [v0, v1, v2, v3] (.int a :: st) I J Q = if a = 0 then Rn S 199 1266 [v0, v1, v2, v3] st I J Q else Rn S 199 1264 [v0, v1, v2, v3] st I J Q := rIeq f199_1261 rfl rfl
theorem x199_1264 : Rn S 199 1264 [v0, v1, v2, v3] st I J Q = Rn S 199 1265 [v0, v1, v2, v3] (.int 0 :: st) I J Q := rS f199_1264 rfl
theorem x199_1265 : Rn S 199 1265 [v0, v1, v2, v3] [.int a] I J Q = ((a = 0 ∨ a = 1) ∧ Q (some (.int a)) I J) := rRZ f199_1265 (Or.inl rfl)
theorem x199_1266 : Rn S 199 1266 [v0, v1, v2, .int a] st I J Q = Rn S 199 1269 [v0, v1, zkl v2, .int (a + 6)] st I J Q := rL f199_1266 rfl rfl
theorem x199_1269 : Rn S 199 1269 [v0, v1, v2, v3] st I J Q = Rn S 199 18 [v0, v1, v2, v3] st I J Q := rB f199_1269 rfl rfl rfl
theorem x199_1272 : Rn S 199 1272 [v0, v1, v2, v3] st I J Q = Rn S 199 1273 [v0, v1, v2, v3] (.int 1 :: st) I J Q := rS f199_1272 rfl
theorem x199_1273 : Rn S 199 1273 [v0, v1, v2, v3] [.int a] I J Q = ((a = 0 ∨ a = 1) ∧ Q (some (.int a)) I J) := rRZ f199_1273 (Or.inl rfl)
end
