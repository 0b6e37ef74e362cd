section
variable {S : zSg} {I : zI} {J : zJ} {Q : zQ} {st : List Value} {v0 v1 v2 v3 v4 v5 v6 v7 v8 v9 v10 v11 v12 v13 v14 v15 : Value} {a b c a0 a1 a2 a3 a4 a5 : Int32} {u w u0 u1 u2 : Int64} {q r q0 q1 q2 xl : Nat}
/-! L.law: 191 -/
theorem B191 : zB 191 = cL_law := rfl
theorem f191_0 : zft 191 0 = some (.new 7, 3) := fet B191 (by decide +kernel) (Or.inr rfl)
theorem f191_3 : zft 191 3 = some (.dup, 1) := fet B191 (by decide +kernel) (Or.inr rfl)
theorem f191_4 : zft 191 4 = some (.invokespecial 9, 3) := fet B191 (by decide +kernel) (Or.inr rfl)
theorem f191_7 : zft 191 7 = some (.astore_n 1, 1) := fet B191 (by decide +kernel) (Or.inr rfl)
theorem f191_8 : zft 191 8 = some (.new 10, 3) := fet B191 (by decide +kernel) (Or.inr rfl)
theorem f191_11 : zft 191 11 = some (.dup, 1) := fet B191 (by decide +kernel) (Or.inr rfl)
theorem f191_12 : zft 191 12 = some (.invokespecial 12, 3) := fet B191 (by decide +kernel) (Or.inr rfl)
theorem f191_15 : zft 191 15 = some (.astore_n 2, 1) := fet B191 (by decide +kernel) (Or.inr rfl)
theorem f191_16 : zft 191 16 = some (.iconst 0, 1) := fet B191 (by decide +kernel) (Or.inr rfl)
theorem f191_17 : zft 191 17 = some (.istore_n 3, 1) := fet B191 (by decide +kernel) (Or.inr rfl)
theorem f191_18 : zft 191 18 = some (.iload_n 3, 1) := fet B191 (by decide +kernel) (Or.inr rfl)
theorem f191_19 : zft 191 19 = some (.aload_n 0, 1) := fet B191 (by decide +kernel) (Or.inr rfl)
theorem f191_20 : zft 191 20 = some (.arraylength, 1) := fet B191 (by decide +kernel) (Or.inr rfl)
theorem f191_21 : zft 191 21 = some (.bipush 6, 2) := fet B191 (by decide +kernel) (Or.inr rfl)
theorem f191_23 : zft 191 23 = some (.isub, 1) := fet B191 (by decide +kernel) (Or.inr rfl)
theorem f191_24 : zft 191 24 = some (.if_icmp .gt 1248, 3) := fet B191 (by decide +kernel) (Or.inr rfl)
theorem f191_27 : zft 191 27 = some (.aload_n 0, 1) := fet B191 (by decide +kernel) (Or.inr rfl)
theorem f191_28 : zft 191 28 = some (.iload_n 3, 1) := fet B191 (by decide +kernel) (Or.inr rfl)
theorem f191_29 : zft 191 29 = some (.iaload, 1) := fet B191 (by decide +kernel) (Or.inr rfl)
theorem f191_30 : zft 191 30 = some (.bipush 63, 2) := fet B191 (by decide +kernel) (Or.inr rfl)
theorem f191_32 : zft 191 32 = some (.iand, 1) := fet B191 (by decide +kernel) (Or.inr rfl)
theorem f191_33 : zft 191 33 = some (.tableswitch 1233 0 37 #[167, 200, 223, 246, 269, 302, 335, 368, 391, 434, 447, 470, 503, 536, 569, 592, 605, 618, 641, 664, 677, 700, 723, 766, 779, 792, 815, 838, 861, 905, 948, 991, 1014, 1067, 1110, 1173, 1196, 1219], 167) := fet B191 (by decide +kernel) (Or.inl rfl)
theorem f191_200 : zft 191 200 = some (.aload_n 1, 1) := fet B191 (by decide +kernel) (Or.inr rfl)
theorem f191_201 : zft 191 201 = some (.aload_n 0, 1) := fet B191 (by decide +kernel) (Or.inr rfl)
theorem f191_202 : zft 191 202 = some (.iload_n 3, 1) := fet B191 (by decide +kernel) (Or.inr rfl)
theorem f191_203 : zft 191 203 = some (.iconst 1, 1) := fet B191 (by decide +kernel) (Or.inr rfl)
theorem f191_204 : zft 191 204 = some (.iadd, 1) := fet B191 (by decide +kernel) (Or.inr rfl)
theorem f191_205 : zft 191 205 = some (.iaload, 1) := fet B191 (by decide +kernel) (Or.inr rfl)
theorem f191_206 : zft 191 206 = some (.aload_n 0, 1) := fet B191 (by decide +kernel) (Or.inr rfl)
theorem f191_207 : zft 191 207 = some (.iload_n 3, 1) := fet B191 (by decide +kernel) (Or.inr rfl)
theorem f191_208 : zft 191 208 = some (.iconst 2, 1) := fet B191 (by decide +kernel) (Or.inr rfl)
theorem f191_209 : zft 191 209 = some (.iadd, 1) := fet B191 (by decide +kernel) (Or.inr rfl)
theorem f191_210 : zft 191 210 = some (.iaload, 1) := fet B191 (by decide +kernel) (Or.inr rfl)
theorem f191_211 : zft 191 211 = some (.invokevirtual 13, 3) := fet B191 (by decide +kernel) (Or.inr rfl)
theorem f191_214 : zft 191 214 = some (.aload_n 2, 1) := fet B191 (by decide +kernel) (Or.inr rfl)
theorem f191_215 : zft 191 215 = some (.aload_n 0, 1) := fet B191 (by decide +kernel) (Or.inr rfl)
theorem f191_216 : zft 191 216 = some (.iload_n 3, 1) := fet B191 (by decide +kernel) (Or.inr rfl)
theorem f191_217 : zft 191 217 = some (.iconst 1, 1) := fet B191 (by decide +kernel) (Or.inr rfl)
theorem f191_218 : zft 191 218 = some (.iadd, 1) := fet B191 (by decide +kernel) (Or.inr rfl)
theorem f191_219 : zft 191 219 = some (.iaload, 1) := fet B191 (by decide +kernel) (Or.inr rfl)
theorem f191_220 : zft 191 220 = some (.aload_n 0, 1) := fet B191 (by decide +kernel) (Or.inr rfl)
theorem f191_221 : zft 191 221 = some (.iload_n 3, 1) := fet B191 (by decide +kernel) (Or.inr rfl)
theorem f191_222 : zft 191 222 = some (.iconst 2, 1) := fet B191 (by decide +kernel) (Or.inr rfl)
theorem f191_223 : zft 191 223 = some (.iadd, 1) := fet B191 (by decide +kernel) (Or.inr rfl)
theorem f191_224 : zft 191 224 = some (.iaload, 1) := fet B191 (by decide +kernel) (Or.inr rfl)
theorem f191_225 : zft 191 225 = some (.invokevirtual 17, 3) := fet B191 (by decide +kernel) (Or.inr rfl)
theorem f191_228 : zft 191 228 = some (.if_icmp .eq 1038, 3) := fet B191 (by decide +kernel) (Or.inr rfl)
theorem f191_231 : zft 191 231 = some (.iconst 0, 1) := fet B191 (by decide +kernel) (Or.inr rfl)
theorem f191_232 : zft 191 232 = some (.ireturn, 1) := fet B191 (by decide +kernel) (Or.inr rfl)
theorem f191_233 : zft 191 233 = some (.aload_n 1, 1) := fet B191 (by decide +kernel) (Or.inr rfl)
theorem f191_234 : zft 191 234 = some (.aload_n 0, 1) := fet B191 (by decide +kernel) (Or.inr rfl)
theorem f191_235 : zft 191 235 = some (.iload_n 3, 1) := fet B191 (by decide +kernel) (Or.inr rfl)
theorem f191_236 : zft 191 236 = some (.iconst 1, 1) := fet B191 (by decide +kernel) (Or.inr rfl)
theorem f191_237 : zft 191 237 = some (.iadd, 1) := fet B191 (by decide +kernel) (Or.inr rfl)
theorem f191_238 : zft 191 238 = some (.iaload, 1) := fet B191 (by decide +kernel) (Or.inr rfl)
theorem f191_239 : zft 191 239 = some (.invokevirtual 18, 3) := fet B191 (by decide +kernel) (Or.inr rfl)
theorem f191_242 : zft 191 242 = some (.aload_n 2, 1) := fet B191 (by decide +kernel) (Or.inr rfl)
theorem f191_243 : zft 191 243 = some (.aload_n 0, 1) := fet B191 (by decide +kernel) (Or.inr rfl)
theorem f191_244 : zft 191 244 = some (.iload_n 3, 1) := fet B191 (by decide +kernel) (Or.inr rfl)
theorem f191_245 : zft 191 245 = some (.iconst 1, 1) := fet B191 (by decide +kernel) (Or.inr rfl)
theorem f191_246 : zft 191 246 = some (.iadd, 1) := fet B191 (by decide +kernel) (Or.inr rfl)
theorem f191_247 : zft 191 247 = some (.iaload, 1) := fet B191 (by decide +kernel) (Or.inr rfl)
theorem f191_248 : zft 191 248 = some (.invokevirtual 22, 3) := fet B191 (by decide +kernel) (Or.inr rfl)
theorem f191_251 : zft 191 251 = some (.if_icmp .eq 1015, 3) := fet B191 (by decide +kernel) (Or.inr rfl)
theorem f191_254 : zft 191 254 = some (.iconst 0, 1) := fet B191 (by decide +kernel) (Or.inr rfl)
theorem f191_255 : zft 191 255 = some (.ireturn, 1) := fet B191 (by decide +kernel) (Or.inr rfl)
theorem f191_256 : zft 191 256 = some (.aload_n 1, 1) := fet B191 (by decide +kernel) (Or.inr rfl)
theorem f191_257 : zft 191 257 = some (.aload_n 0, 1) := fet B191 (by decide +kernel) (Or.inr rfl)
theorem f191_258 : zft 191 258 = some (.iload_n 3, 1) := fet B191 (by decide +kernel) (Or.inr rfl)
theorem f191_259 : zft 191 259 = some (.iconst 1, 1) := fet B191 (by decide +kernel) (Or.inr rfl)
theorem f191_260 : zft 191 260 = some (.iadd, 1) := fet B191 (by decide +kernel) (Or.inr rfl)
theorem f191_261 : zft 191 261 = some (.iaload, 1) := fet B191 (by decide +kernel) (Or.inr rfl)
theorem f191_262 : zft 191 262 = some (.invokevirtual 23, 3) := fet B191 (by decide +kernel) (Or.inr rfl)
theorem f191_265 : zft 191 265 = some (.aload_n 2, 1) := fet B191 (by decide +kernel) (Or.inr rfl)
theorem f191_266 : zft 191 266 = some (.aload_n 0, 1) := fet B191 (by decide +kernel) (Or.inr rfl)
theorem f191_267 : zft 191 267 = some (.iload_n 3, 1) := fet B191 (by decide +kernel) (Or.inr rfl)
theorem f191_268 : zft 191 268 = some (.iconst 1, 1) := fet B191 (by decide +kernel) (Or.inr rfl)
theorem f191_269 : zft 191 269 = some (.iadd, 1) := fet B191 (by decide +kernel) (Or.inr rfl)
theorem f191_270 : zft 191 270 = some (.iaload, 1) := fet B191 (by decide +kernel) (Or.inr rfl)
theorem f191_271 : zft 191 271 = some (.invokevirtual 26, 3) := fet B191 (by decide +kernel) (Or.inr rfl)
theorem f191_274 : zft 191 274 = some (.if_icmp .eq 992, 3) := fet B191 (by decide +kernel) (Or.inr rfl)
theorem f191_277 : zft 191 277 = some (.iconst 0, 1) := fet B191 (by decide +kernel) (Or.inr rfl)
theorem f191_278 : zft 191 278 = some (.ireturn, 1) := fet B191 (by decide +kernel) (Or.inr rfl)
theorem f191_279 : zft 191 279 = some (.aload_n 1, 1) := fet B191 (by decide +kernel) (Or.inr rfl)
theorem f191_280 : zft 191 280 = some (.aload_n 0, 1) := fet B191 (by decide +kernel) (Or.inr rfl)
theorem f191_281 : zft 191 281 = some (.iload_n 3, 1) := fet B191 (by decide +kernel) (Or.inr rfl)
theorem f191_282 : zft 191 282 = some (.iconst 1, 1) := fet B191 (by decide +kernel) (Or.inr rfl)
theorem f191_283 : zft 191 283 = some (.iadd, 1) := fet B191 (by decide +kernel) (Or.inr rfl)
theorem f191_284 : zft 191 284 = some (.iaload, 1) := fet B191 (by decide +kernel) (Or.inr rfl)
theorem f191_285 : zft 191 285 = some (.invokevirtual 27, 3) := fet B191 (by decide +kernel) (Or.inr rfl)
theorem f191_288 : zft 191 288 = some (.aload_n 2, 1) := fet B191 (by decide +kernel) (Or.inr rfl)
theorem f191_289 : zft 191 289 = some (.aload_n 0, 1) := fet B191 (by decide +kernel) (Or.inr rfl)
theorem f191_290 : zft 191 290 = some (.iload_n 3, 1) := fet B191 (by decide +kernel) (Or.inr rfl)
theorem f191_291 : zft 191 291 = some (.iconst 1, 1) := fet B191 (by decide +kernel) (Or.inr rfl)
theorem f191_292 : zft 191 292 = some (.iadd, 1) := fet B191 (by decide +kernel) (Or.inr rfl)
theorem f191_293 : zft 191 293 = some (.iaload, 1) := fet B191 (by decide +kernel) (Or.inr rfl)
theorem f191_294 : zft 191 294 = some (.invokevirtual 30, 3) := fet B191 (by decide +kernel) (Or.inr rfl)
theorem f191_297 : zft 191 297 = some (.if_icmp .eq 969, 3) := fet B191 (by decide +kernel) (Or.inr rfl)
theorem f191_300 : zft 191 300 = some (.iconst 0, 1) := fet B191 (by decide +kernel) (Or.inr rfl)
theorem f191_301 : zft 191 301 = some (.ireturn, 1) := fet B191 (by decide +kernel) (Or.inr rfl)
theorem f191_302 : zft 191 302 = some (.aload_n 1, 1) := fet B191 (by decide +kernel) (Or.inr rfl)
theorem f191_303 : zft 191 303 = some (.aload_n 0, 1) := fet B191 (by decide +kernel) (Or.inr rfl)
theorem f191_304 : zft 191 304 = some (.iload_n 3, 1) := fet B191 (by decide +kernel) (Or.inr rfl)
theorem f191_305 : zft 191 305 = some (.iconst 1, 1) := fet B191 (by decide +kernel) (Or.inr rfl)
theorem f191_306 : zft 191 306 = some (.iadd, 1) := fet B191 (by decide +kernel) (Or.inr rfl)
theorem f191_307 : zft 191 307 = some (.iaload, 1) := fet B191 (by decide +kernel) (Or.inr rfl)
theorem f191_308 : zft 191 308 = some (.aload_n 0, 1) := fet B191 (by decide +kernel) (Or.inr rfl)
theorem f191_309 : zft 191 309 = some (.iload_n 3, 1) := fet B191 (by decide +kernel) (Or.inr rfl)
theorem f191_310 : zft 191 310 = some (.iconst 2, 1) := fet B191 (by decide +kernel) (Or.inr rfl)
theorem f191_311 : zft 191 311 = some (.iadd, 1) := fet B191 (by decide +kernel) (Or.inr rfl)
theorem f191_312 : zft 191 312 = some (.iaload, 1) := fet B191 (by decide +kernel) (Or.inr rfl)
theorem f191_313 : zft 191 313 = some (.invokevirtual 31, 3) := fet B191 (by decide +kernel) (Or.inr rfl)
theorem f191_316 : zft 191 316 = some (.aload_n 2, 1) := fet B191 (by decide +kernel) (Or.inr rfl)
theorem f191_317 : zft 191 317 = some (.aload_n 0, 1) := fet B191 (by decide +kernel) (Or.inr rfl)
theorem f191_318 : zft 191 318 = some (.iload_n 3, 1) := fet B191 (by decide +kernel) (Or.inr rfl)
theorem f191_319 : zft 191 319 = some (.iconst 1, 1) := fet B191 (by decide +kernel) (Or.inr rfl)
theorem f191_320 : zft 191 320 = some (.iadd, 1) := fet B191 (by decide +kernel) (Or.inr rfl)
theorem f191_321 : zft 191 321 = some (.iaload, 1) := fet B191 (by decide +kernel) (Or.inr rfl)
theorem f191_322 : zft 191 322 = some (.aload_n 0, 1) := fet B191 (by decide +kernel) (Or.inr rfl)
theorem f191_323 : zft 191 323 = some (.iload_n 3, 1) := fet B191 (by decide +kernel) (Or.inr rfl)
theorem f191_324 : zft 191 324 = some (.iconst 2, 1) := fet B191 (by decide +kernel) (Or.inr rfl)
theorem f191_325 : zft 191 325 = some (.iadd, 1) := fet B191 (by decide +kernel) (Or.inr rfl)
theorem f191_326 : zft 191 326 = some (.iaload, 1) := fet B191 (by decide +kernel) (Or.inr rfl)
theorem f191_327 : zft 191 327 = some (.invokevirtual 34, 3) := fet B191 (by decide +kernel) (Or.inr rfl)
theorem f191_330 : zft 191 330 = some (.if_icmp .eq 936, 3) := fet B191 (by decide +kernel) (Or.inr rfl)
theorem f191_333 : zft 191 333 = some (.iconst 0, 1) := fet B191 (by decide +kernel) (Or.inr rfl)
theorem f191_334 : zft 191 334 = some (.ireturn, 1) := fet B191 (by decide +kernel) (Or.inr rfl)
theorem f191_335 : zft 191 335 = some (.aload_n 1, 1) := fet B191 (by decide +kernel) (Or.inr rfl)
theorem f191_336 : zft 191 336 = some (.aload_n 0, 1) := fet B191 (by decide +kernel) (Or.inr rfl)
theorem f191_337 : zft 191 337 = some (.iload_n 3, 1) := fet B191 (by decide +kernel) (Or.inr rfl)
theorem f191_338 : zft 191 338 = some (.iconst 1, 1) := fet B191 (by decide +kernel) (Or.inr rfl)
theorem f191_339 : zft 191 339 = some (.iadd, 1) := fet B191 (by decide +kernel) (Or.inr rfl)
theorem f191_340 : zft 191 340 = some (.iaload, 1) := fet B191 (by decide +kernel) (Or.inr rfl)
theorem f191_341 : zft 191 341 = some (.aload_n 0, 1) := fet B191 (by decide +kernel) (Or.inr rfl)
theorem f191_342 : zft 191 342 = some (.iload_n 3, 1) := fet B191 (by decide +kernel) (Or.inr rfl)
theorem f191_343 : zft 191 343 = some (.iconst 2, 1) := fet B191 (by decide +kernel) (Or.inr rfl)
theorem f191_344 : zft 191 344 = some (.iadd, 1) := fet B191 (by decide +kernel) (Or.inr rfl)
theorem f191_345 : zft 191 345 = some (.iaload, 1) := fet B191 (by decide +kernel) (Or.inr rfl)
theorem f191_346 : zft 191 346 = some (.invokevirtual 35, 3) := fet B191 (by decide +kernel) (Or.inr rfl)
theorem f191_349 : zft 191 349 = some (.aload_n 2, 1) := fet B191 (by decide +kernel) (Or.inr rfl)
theorem f191_350 : zft 191 350 = some (.aload_n 0, 1) := fet B191 (by decide +kernel) (Or.inr rfl)
theorem f191_351 : zft 191 351 = some (.iload_n 3, 1) := fet B191 (by decide +kernel) (Or.inr rfl)
theorem f191_352 : zft 191 352 = some (.iconst 1, 1) := fet B191 (by decide +kernel) (Or.inr rfl)
theorem f191_353 : zft 191 353 = some (.iadd, 1) := fet B191 (by decide +kernel) (Or.inr rfl)
theorem f191_354 : zft 191 354 = some (.iaload, 1) := fet B191 (by decide +kernel) (Or.inr rfl)
theorem f191_355 : zft 191 355 = some (.aload_n 0, 1) := fet B191 (by decide +kernel) (Or.inr rfl)
theorem f191_356 : zft 191 356 = some (.iload_n 3, 1) := fet B191 (by decide +kernel) (Or.inr rfl)
theorem f191_357 : zft 191 357 = some (.iconst 2, 1) := fet B191 (by decide +kernel) (Or.inr rfl)
theorem f191_358 : zft 191 358 = some (.iadd, 1) := fet B191 (by decide +kernel) (Or.inr rfl)
theorem f191_359 : zft 191 359 = some (.iaload, 1) := fet B191 (by decide +kernel) (Or.inr rfl)
theorem f191_360 : zft 191 360 = some (.invokevirtual 38, 3) := fet B191 (by decide +kernel) (Or.inr rfl)
theorem f191_363 : zft 191 363 = some (.if_icmp .eq 903, 3) := fet B191 (by decide +kernel) (Or.inr rfl)
theorem f191_366 : zft 191 366 = some (.iconst 0, 1) := fet B191 (by decide +kernel) (Or.inr rfl)
theorem f191_367 : zft 191 367 = some (.ireturn, 1) := fet B191 (by decide +kernel) (Or.inr rfl)
theorem f191_368 : zft 191 368 = some (.aload_n 1, 1) := fet B191 (by decide +kernel) (Or.inr rfl)
theorem f191_369 : zft 191 369 = some (.aload_n 0, 1) := fet B191 (by decide +kernel) (Or.inr rfl)
theorem f191_370 : zft 191 370 = some (.iload_n 3, 1) := fet B191 (by decide +kernel) (Or.inr rfl)
theorem f191_371 : zft 191 371 = some (.iconst 1, 1) := fet B191 (by decide +kernel) (Or.inr rfl)
theorem f191_372 : zft 191 372 = some (.iadd, 1) := fet B191 (by decide +kernel) (Or.inr rfl)
theorem f191_373 : zft 191 373 = some (.iaload, 1) := fet B191 (by decide +kernel) (Or.inr rfl)
theorem f191_374 : zft 191 374 = some (.aload_n 0, 1) := fet B191 (by decide +kernel) (Or.inr rfl)
theorem f191_375 : zft 191 375 = some (.iload_n 3, 1) := fet B191 (by decide +kernel) (Or.inr rfl)
theorem f191_376 : zft 191 376 = some (.iconst 2, 1) := fet B191 (by decide +kernel) (Or.inr rfl)
theorem f191_377 : zft 191 377 = some (.iadd, 1) := fet B191 (by decide +kernel) (Or.inr rfl)
theorem f191_378 : zft 191 378 = some (.iaload, 1) := fet B191 (by decide +kernel) (Or.inr rfl)
theorem f191_379 : zft 191 379 = some (.invokevirtual 39, 3) := fet B191 (by decide +kernel) (Or.inr rfl)
theorem f191_382 : zft 191 382 = some (.aload_n 2, 1) := fet B191 (by decide +kernel) (Or.inr rfl)
theorem f191_383 : zft 191 383 = some (.aload_n 0, 1) := fet B191 (by decide +kernel) (Or.inr rfl)
theorem f191_384 : zft 191 384 = some (.iload_n 3, 1) := fet B191 (by decide +kernel) (Or.inr rfl)
theorem f191_385 : zft 191 385 = some (.iconst 1, 1) := fet B191 (by decide +kernel) (Or.inr rfl)
theorem f191_386 : zft 191 386 = some (.iadd, 1) := fet B191 (by decide +kernel) (Or.inr rfl)
theorem f191_387 : zft 191 387 = some (.iaload, 1) := fet B191 (by decide +kernel) (Or.inr rfl)
theorem f191_388 : zft 191 388 = some (.aload_n 0, 1) := fet B191 (by decide +kernel) (Or.inr rfl)
theorem f191_389 : zft 191 389 = some (.iload_n 3, 1) := fet B191 (by decide +kernel) (Or.inr rfl)
theorem f191_390 : zft 191 390 = some (.iconst 2, 1) := fet B191 (by decide +kernel) (Or.inr rfl)
theorem f191_391 : zft 191 391 = some (.iadd, 1) := fet B191 (by decide +kernel) (Or.inr rfl)
theorem f191_392 : zft 191 392 = some (.iaload, 1) := fet B191 (by decide +kernel) (Or.inr rfl)
theorem f191_393 : zft 191 393 = some (.invokevirtual 42, 3) := fet B191 (by decide +kernel) (Or.inr rfl)
theorem f191_396 : zft 191 396 = some (.if_icmp .eq 870, 3) := fet B191 (by decide +kernel) (Or.inr rfl)
theorem f191_399 : zft 191 399 = some (.iconst 0, 1) := fet B191 (by decide +kernel) (Or.inr rfl)
theorem f191_400 : zft 191 400 = some (.ireturn, 1) := fet B191 (by decide +kernel) (Or.inr rfl)
theorem f191_401 : zft 191 401 = some (.aload_n 1, 1) := fet B191 (by decide +kernel) (Or.inr rfl)
theorem f191_402 : zft 191 402 = some (.aload_n 0, 1) := fet B191 (by decide +kernel) (Or.inr rfl)
theorem f191_403 : zft 191 403 = some (.iload_n 3, 1) := fet B191 (by decide +kernel) (Or.inr rfl)
theorem f191_404 : zft 191 404 = some (.iconst 1, 1) := fet B191 (by decide +kernel) (Or.inr rfl)
theorem f191_405 : zft 191 405 = some (.iadd, 1) := fet B191 (by decide +kernel) (Or.inr rfl)
theorem f191_406 : zft 191 406 = some (.iaload, 1) := fet B191 (by decide +kernel) (Or.inr rfl)
theorem f191_407 : zft 191 407 = some (.invokevirtual 43, 3) := fet B191 (by decide +kernel) (Or.inr rfl)
theorem f191_410 : zft 191 410 = some (.aload_n 2, 1) := fet B191 (by decide +kernel) (Or.inr rfl)
theorem f191_411 : zft 191 411 = some (.aload_n 0, 1) := fet B191 (by decide +kernel) (Or.inr rfl)
theorem f191_412 : zft 191 412 = some (.iload_n 3, 1) := fet B191 (by decide +kernel) (Or.inr rfl)
theorem f191_413 : zft 191 413 = some (.iconst 1, 1) := fet B191 (by decide +kernel) (Or.inr rfl)
theorem f191_414 : zft 191 414 = some (.iadd, 1) := fet B191 (by decide +kernel) (Or.inr rfl)
theorem f191_415 : zft 191 415 = some (.iaload, 1) := fet B191 (by decide +kernel) (Or.inr rfl)
theorem f191_416 : zft 191 416 = some (.invokevirtual 46, 3) := fet B191 (by decide +kernel) (Or.inr rfl)
theorem f191_419 : zft 191 419 = some (.if_icmp .eq 847, 3) := fet B191 (by decide +kernel) (Or.inr rfl)
theorem f191_422 : zft 191 422 = some (.iconst 0, 1) := fet B191 (by decide +kernel) (Or.inr rfl)
theorem f191_423 : zft 191 423 = some (.ireturn, 1) := fet B191 (by decide +kernel) (Or.inr rfl)
theorem f191_424 : zft 191 424 = some (.aload_n 1, 1) := fet B191 (by decide +kernel) (Or.inr rfl)
theorem f191_425 : zft 191 425 = some (.aload_n 0, 1) := fet B191 (by decide +kernel) (Or.inr rfl)
theorem f191_426 : zft 191 426 = some (.iload_n 3, 1) := fet B191 (by decide +kernel) (Or.inr rfl)
theorem f191_427 : zft 191 427 = some (.iconst 1, 1) := fet B191 (by decide +kernel) (Or.inr rfl)
theorem f191_428 : zft 191 428 = some (.iadd, 1) := fet B191 (by decide +kernel) (Or.inr rfl)
theorem f191_429 : zft 191 429 = some (.iaload, 1) := fet B191 (by decide +kernel) (Or.inr rfl)
theorem f191_430 : zft 191 430 = some (.aload_n 0, 1) := fet B191 (by decide +kernel) (Or.inr rfl)
theorem f191_431 : zft 191 431 = some (.iload_n 3, 1) := fet B191 (by decide +kernel) (Or.inr rfl)
theorem f191_432 : zft 191 432 = some (.iconst 2, 1) := fet B191 (by decide +kernel) (Or.inr rfl)
theorem f191_433 : zft 191 433 = some (.iadd, 1) := fet B191 (by decide +kernel) (Or.inr rfl)
theorem f191_434 : zft 191 434 = some (.iaload, 1) := fet B191 (by decide +kernel) (Or.inr rfl)
theorem f191_435 : zft 191 435 = some (.aload_n 0, 1) := fet B191 (by decide +kernel) (Or.inr rfl)
theorem f191_436 : zft 191 436 = some (.iload_n 3, 1) := fet B191 (by decide +kernel) (Or.inr rfl)
theorem f191_437 : zft 191 437 = some (.iconst 3, 1) := fet B191 (by decide +kernel) (Or.inr rfl)
theorem f191_438 : zft 191 438 = some (.iadd, 1) := fet B191 (by decide +kernel) (Or.inr rfl)
theorem f191_439 : zft 191 439 = some (.iaload, 1) := fet B191 (by decide +kernel) (Or.inr rfl)
theorem f191_440 : zft 191 440 = some (.invokevirtual 47, 3) := fet B191 (by decide +kernel) (Or.inr rfl)
theorem f191_443 : zft 191 443 = some (.aload_n 2, 1) := fet B191 (by decide +kernel) (Or.inr rfl)
theorem f191_444 : zft 191 444 = some (.aload_n 0, 1) := fet B191 (by decide +kernel) (Or.inr rfl)
theorem f191_445 : zft 191 445 = some (.iload_n 3, 1) := fet B191 (by decide +kernel) (Or.inr rfl)
theorem f191_446 : zft 191 446 = some (.iconst 1, 1) := fet B191 (by decide +kernel) (Or.inr rfl)
theorem f191_447 : zft 191 447 = some (.iadd, 1) := fet B191 (by decide +kernel) (Or.inr rfl)
theorem f191_448 : zft 191 448 = some (.iaload, 1) := fet B191 (by decide +kernel) (Or.inr rfl)
theorem f191_449 : zft 191 449 = some (.aload_n 0, 1) := fet B191 (by decide +kernel) (Or.inr rfl)
theorem f191_450 : zft 191 450 = some (.iload_n 3, 1) := fet B191 (by decide +kernel) (Or.inr rfl)
theorem f191_451 : zft 191 451 = some (.iconst 2, 1) := fet B191 (by decide +kernel) (Or.inr rfl)
theorem f191_452 : zft 191 452 = some (.iadd, 1) := fet B191 (by decide +kernel) (Or.inr rfl)
theorem f191_453 : zft 191 453 = some (.iaload, 1) := fet B191 (by decide +kernel) (Or.inr rfl)
theorem f191_454 : zft 191 454 = some (.aload_n 0, 1) := fet B191 (by decide +kernel) (Or.inr rfl)
theorem f191_455 : zft 191 455 = some (.iload_n 3, 1) := fet B191 (by decide +kernel) (Or.inr rfl)
theorem f191_456 : zft 191 456 = some (.iconst 3, 1) := fet B191 (by decide +kernel) (Or.inr rfl)
theorem f191_457 : zft 191 457 = some (.iadd, 1) := fet B191 (by decide +kernel) (Or.inr rfl)
theorem f191_458 : zft 191 458 = some (.iaload, 1) := fet B191 (by decide +kernel) (Or.inr rfl)
theorem f191_459 : zft 191 459 = some (.invokevirtual 51, 3) := fet B191 (by decide +kernel) (Or.inr rfl)
theorem f191_462 : zft 191 462 = some (.if_icmp .eq 804, 3) := fet B191 (by decide +kernel) (Or.inr rfl)
theorem f191_465 : zft 191 465 = some (.iconst 0, 1) := fet B191 (by decide +kernel) (Or.inr rfl)
theorem f191_466 : zft 191 466 = some (.ireturn, 1) := fet B191 (by decide +kernel) (Or.inr rfl)
theorem f191_467 : zft 191 467 = some (.aload_n 1, 1) := fet B191 (by decide +kernel) (Or.inr rfl)
theorem f191_468 : zft 191 468 = some (.invokevirtual 52, 3) := fet B191 (by decide +kernel) (Or.inr rfl)
theorem f191_471 : zft 191 471 = some (.aload_n 2, 1) := fet B191 (by decide +kernel) (Or.inr rfl)
theorem f191_472 : zft 191 472 = some (.invokevirtual 56, 3) := fet B191 (by decide +kernel) (Or.inr rfl)
theorem f191_475 : zft 191 475 = some (.if_icmp .eq 791, 3) := fet B191 (by decide +kernel) (Or.inr rfl)
theorem f191_478 : zft 191 478 = some (.iconst 0, 1) := fet B191 (by decide +kernel) (Or.inr rfl)
theorem f191_479 : zft 191 479 = some (.ireturn, 1) := fet B191 (by decide +kernel) (Or.inr rfl)
theorem f191_480 : zft 191 480 = some (.aload_n 1, 1) := fet B191 (by decide +kernel) (Or.inr rfl)
theorem f191_481 : zft 191 481 = some (.aload_n 0, 1) := fet B191 (by decide +kernel) (Or.inr rfl)
theorem f191_482 : zft 191 482 = some (.iload_n 3, 1) := fet B191 (by decide +kernel) (Or.inr rfl)
theorem f191_483 : zft 191 483 = some (.iconst 1, 1) := fet B191 (by decide +kernel) (Or.inr rfl)
theorem f191_484 : zft 191 484 = some (.iadd, 1) := fet B191 (by decide +kernel) (Or.inr rfl)
theorem f191_485 : zft 191 485 = some (.iaload, 1) := fet B191 (by decide +kernel) (Or.inr rfl)
theorem f191_486 : zft 191 486 = some (.invokevirtual 57, 3) := fet B191 (by decide +kernel) (Or.inr rfl)
theorem f191_489 : zft 191 489 = some (.aload_n 2, 1) := fet B191 (by decide +kernel) (Or.inr rfl)
theorem f191_490 : zft 191 490 = some (.aload_n 0, 1) := fet B191 (by decide +kernel) (Or.inr rfl)
theorem f191_491 : zft 191 491 = some (.iload_n 3, 1) := fet B191 (by decide +kernel) (Or.inr rfl)
theorem f191_492 : zft 191 492 = some (.iconst 1, 1) := fet B191 (by decide +kernel) (Or.inr rfl)
theorem f191_493 : zft 191 493 = some (.iadd, 1) := fet B191 (by decide +kernel) (Or.inr rfl)
theorem f191_494 : zft 191 494 = some (.iaload, 1) := fet B191 (by decide +kernel) (Or.inr rfl)
theorem f191_495 : zft 191 495 = some (.invokevirtual 60, 3) := fet B191 (by decide +kernel) (Or.inr rfl)
theorem f191_498 : zft 191 498 = some (.if_icmp .eq 768, 3) := fet B191 (by decide +kernel) (Or.inr rfl)
theorem f191_501 : zft 191 501 = some (.iconst 0, 1) := fet B191 (by decide +kernel) (Or.inr rfl)
theorem f191_502 : zft 191 502 = some (.ireturn, 1) := fet B191 (by decide +kernel) (Or.inr rfl)
theorem f191_503 : zft 191 503 = some (.aload_n 1, 1) := fet B191 (by decide +kernel) (Or.inr rfl)
theorem f191_504 : zft 191 504 = some (.aload_n 0, 1) := fet B191 (by decide +kernel) (Or.inr rfl)
theorem f191_505 : zft 191 505 = some (.iload_n 3, 1) := fet B191 (by decide +kernel) (Or.inr rfl)
theorem f191_506 : zft 191 506 = some (.iconst 1, 1) := fet B191 (by decide +kernel) (Or.inr rfl)
theorem f191_507 : zft 191 507 = some (.iadd, 1) := fet B191 (by decide +kernel) (Or.inr rfl)
theorem f191_508 : zft 191 508 = some (.iaload, 1) := fet B191 (by decide +kernel) (Or.inr rfl)
theorem f191_509 : zft 191 509 = some (.aload_n 0, 1) := fet B191 (by decide +kernel) (Or.inr rfl)
theorem f191_510 : zft 191 510 = some (.iload_n 3, 1) := fet B191 (by decide +kernel) (Or.inr rfl)
theorem f191_511 : zft 191 511 = some (.iconst 2, 1) := fet B191 (by decide +kernel) (Or.inr rfl)
theorem f191_512 : zft 191 512 = some (.iadd, 1) := fet B191 (by decide +kernel) (Or.inr rfl)
theorem f191_513 : zft 191 513 = some (.iaload, 1) := fet B191 (by decide +kernel) (Or.inr rfl)
theorem f191_514 : zft 191 514 = some (.invokevirtual 61, 3) := fet B191 (by decide +kernel) (Or.inr rfl)
theorem f191_517 : zft 191 517 = some (.aload_n 2, 1) := fet B191 (by decide +kernel) (Or.inr rfl)
theorem f191_518 : zft 191 518 = some (.aload_n 0, 1) := fet B191 (by decide +kernel) (Or.inr rfl)
theorem f191_519 : zft 191 519 = some (.iload_n 3, 1) := fet B191 (by decide +kernel) (Or.inr rfl)
theorem f191_520 : zft 191 520 = some (.iconst 1, 1) := fet B191 (by decide +kernel) (Or.inr rfl)
theorem f191_521 : zft 191 521 = some (.iadd, 1) := fet B191 (by decide +kernel) (Or.inr rfl)
theorem f191_522 : zft 191 522 = some (.iaload, 1) := fet B191 (by decide +kernel) (Or.inr rfl)
theorem f191_523 : zft 191 523 = some (.aload_n 0, 1) := fet B191 (by decide +kernel) (Or.inr rfl)
theorem f191_524 : zft 191 524 = some (.iload_n 3, 1) := fet B191 (by decide +kernel) (Or.inr rfl)
theorem f191_525 : zft 191 525 = some (.iconst 2, 1) := fet B191 (by decide +kernel) (Or.inr rfl)
theorem f191_526 : zft 191 526 = some (.iadd, 1) := fet B191 (by decide +kernel) (Or.inr rfl)
theorem f191_527 : zft 191 527 = some (.iaload, 1) := fet B191 (by decide +kernel) (Or.inr rfl)
theorem f191_528 : zft 191 528 = some (.invokevirtual 64, 3) := fet B191 (by decide +kernel) (Or.inr rfl)
theorem f191_531 : zft 191 531 = some (.if_icmp .eq 735, 3) := fet B191 (by decide +kernel) (Or.inr rfl)
theorem f191_534 : zft 191 534 = some (.iconst 0, 1) := fet B191 (by decide +kernel) (Or.inr rfl)
theorem f191_535 : zft 191 535 = some (.ireturn, 1) := fet B191 (by decide +kernel) (Or.inr rfl)
theorem f191_536 : zft 191 536 = some (.aload_n 1, 1) := fet B191 (by decide +kernel) (Or.inr rfl)
theorem f191_537 : zft 191 537 = some (.aload_n 0, 1) := fet B191 (by decide +kernel) (Or.inr rfl)
theorem f191_538 : zft 191 538 = some (.iload_n 3, 1) := fet B191 (by decide +kernel) (Or.inr rfl)
theorem f191_539 : zft 191 539 = some (.iconst 1, 1) := fet B191 (by decide +kernel) (Or.inr rfl)
theorem f191_540 : zft 191 540 = some (.iadd, 1) := fet B191 (by decide +kernel) (Or.inr rfl)
theorem f191_541 : zft 191 541 = some (.iaload, 1) := fet B191 (by decide +kernel) (Or.inr rfl)
theorem f191_542 : zft 191 542 = some (.aload_n 0, 1) := fet B191 (by decide +kernel) (Or.inr rfl)
theorem f191_543 : zft 191 543 = some (.iload_n 3, 1) := fet B191 (by decide +kernel) (Or.inr rfl)
theorem f191_544 : zft 191 544 = some (.iconst 2, 1) := fet B191 (by decide +kernel) (Or.inr rfl)
theorem f191_545 : zft 191 545 = some (.iadd, 1) := fet B191 (by decide +kernel) (Or.inr rfl)
theorem f191_546 : zft 191 546 = some (.iaload, 1) := fet B191 (by decide +kernel) (Or.inr rfl)
theorem f191_547 : zft 191 547 = some (.invokevirtual 65, 3) := fet B191 (by decide +kernel) (Or.inr rfl)
theorem f191_550 : zft 191 550 = some (.aload_n 2, 1) := fet B191 (by decide +kernel) (Or.inr rfl)
theorem f191_551 : zft 191 551 = some (.aload_n 0, 1) := fet B191 (by decide +kernel) (Or.inr rfl)
theorem f191_552 : zft 191 552 = some (.iload_n 3, 1) := fet B191 (by decide +kernel) (Or.inr rfl)
theorem f191_553 : zft 191 553 = some (.iconst 1, 1) := fet B191 (by decide +kernel) (Or.inr rfl)
theorem f191_554 : zft 191 554 = some (.iadd, 1) := fet B191 (by decide +kernel) (Or.inr rfl)
theorem f191_555 : zft 191 555 = some (.iaload, 1) := fet B191 (by decide +kernel) (Or.inr rfl)
theorem f191_556 : zft 191 556 = some (.aload_n 0, 1) := fet B191 (by decide +kernel) (Or.inr rfl)
theorem f191_557 : zft 191 557 = some (.iload_n 3, 1) := fet B191 (by decide +kernel) (Or.inr rfl)
theorem f191_558 : zft 191 558 = some (.iconst 2, 1) := fet B191 (by decide +kernel) (Or.inr rfl)
theorem f191_559 : zft 191 559 = some (.iadd, 1) := fet B191 (by decide +kernel) (Or.inr rfl)
theorem f191_560 : zft 191 560 = some (.iaload, 1) := fet B191 (by decide +kernel) (Or.inr rfl)
theorem f191_561 : zft 191 561 = some (.invokevirtual 68, 3) := fet B191 (by decide +kernel) (Or.inr rfl)
theorem f191_564 : zft 191 564 = some (.if_icmp .eq 702, 3) := fet B191 (by decide +kernel) (Or.inr rfl)
theorem f191_567 : zft 191 567 = some (.iconst 0, 1) := fet B191 (by decide +kernel) (Or.inr rfl)
theorem f191_568 : zft 191 568 = some (.ireturn, 1) := fet B191 (by decide +kernel) (Or.inr rfl)
theorem f191_569 : zft 191 569 = some (.aload_n 1, 1) := fet B191 (by decide +kernel) (Or.inr rfl)
theorem f191_570 : zft 191 570 = some (.aload_n 0, 1) := fet B191 (by decide +kernel) (Or.inr rfl)
theorem f191_571 : zft 191 571 = some (.iload_n 3, 1) := fet B191 (by decide +kernel) (Or.inr rfl)
theorem f191_572 : zft 191 572 = some (.iconst 1, 1) := fet B191 (by decide +kernel) (Or.inr rfl)
theorem f191_573 : zft 191 573 = some (.iadd, 1) := fet B191 (by decide +kernel) (Or.inr rfl)
theorem f191_574 : zft 191 574 = some (.iaload, 1) := fet B191 (by decide +kernel) (Or.inr rfl)
theorem f191_575 : zft 191 575 = some (.aload_n 0, 1) := fet B191 (by decide +kernel) (Or.inr rfl)
theorem f191_576 : zft 191 576 = some (.iload_n 3, 1) := fet B191 (by decide +kernel) (Or.inr rfl)
theorem f191_577 : zft 191 577 = some (.iconst 2, 1) := fet B191 (by decide +kernel) (Or.inr rfl)
theorem f191_578 : zft 191 578 = some (.iadd, 1) := fet B191 (by decide +kernel) (Or.inr rfl)
theorem f191_579 : zft 191 579 = some (.iaload, 1) := fet B191 (by decide +kernel) (Or.inr rfl)
theorem f191_580 : zft 191 580 = some (.invokevirtual 69, 3) := fet B191 (by decide +kernel) (Or.inr rfl)
theorem f191_583 : zft 191 583 = some (.aload_n 2, 1) := fet B191 (by decide +kernel) (Or.inr rfl)
theorem f191_584 : zft 191 584 = some (.aload_n 0, 1) := fet B191 (by decide +kernel) (Or.inr rfl)
theorem f191_585 : zft 191 585 = some (.iload_n 3, 1) := fet B191 (by decide +kernel) (Or.inr rfl)
theorem f191_586 : zft 191 586 = some (.iconst 1, 1) := fet B191 (by decide +kernel) (Or.inr rfl)
theorem f191_587 : zft 191 587 = some (.iadd, 1) := fet B191 (by decide +kernel) (Or.inr rfl)
theorem f191_588 : zft 191 588 = some (.iaload, 1) := fet B191 (by decide +kernel) (Or.inr rfl)
theorem f191_589 : zft 191 589 = some (.aload_n 0, 1) := fet B191 (by decide +kernel) (Or.inr rfl)
theorem f191_590 : zft 191 590 = some (.iload_n 3, 1) := fet B191 (by decide +kernel) (Or.inr rfl)
theorem f191_591 : zft 191 591 = some (.iconst 2, 1) := fet B191 (by decide +kernel) (Or.inr rfl)
theorem f191_592 : zft 191 592 = some (.iadd, 1) := fet B191 (by decide +kernel) (Or.inr rfl)
theorem f191_593 : zft 191 593 = some (.iaload, 1) := fet B191 (by decide +kernel) (Or.inr rfl)
theorem f191_594 : zft 191 594 = some (.invokevirtual 72, 3) := fet B191 (by decide +kernel) (Or.inr rfl)
theorem f191_597 : zft 191 597 = some (.if_icmp .eq 669, 3) := fet B191 (by decide +kernel) (Or.inr rfl)
theorem f191_600 : zft 191 600 = some (.iconst 0, 1) := fet B191 (by decide +kernel) (Or.inr rfl)
theorem f191_601 : zft 191 601 = some (.ireturn, 1) := fet B191 (by decide +kernel) (Or.inr rfl)
theorem f191_602 : zft 191 602 = some (.aload_n 1, 1) := fet B191 (by decide +kernel) (Or.inr rfl)
theorem f191_603 : zft 191 603 = some (.aload_n 0, 1) := fet B191 (by decide +kernel) (Or.inr rfl)
theorem f191_604 : zft 191 604 = some (.iload_n 3, 1) := fet B191 (by decide +kernel) (Or.inr rfl)
theorem f191_605 : zft 191 605 = some (.iconst 1, 1) := fet B191 (by decide +kernel) (Or.inr rfl)
theorem f191_606 : zft 191 606 = some (.iadd, 1) := fet B191 (by decide +kernel) (Or.inr rfl)
theorem f191_607 : zft 191 607 = some (.iaload, 1) := fet B191 (by decide +kernel) (Or.inr rfl)
theorem f191_608 : zft 191 608 = some (.invokevirtual 73, 3) := fet B191 (by decide +kernel) (Or.inr rfl)
theorem f191_611 : zft 191 611 = some (.aload_n 2, 1) := fet B191 (by decide +kernel) (Or.inr rfl)
theorem f191_612 : zft 191 612 = some (.aload_n 0, 1) := fet B191 (by decide +kernel) (Or.inr rfl)
theorem f191_613 : zft 191 613 = some (.iload_n 3, 1) := fet B191 (by decide +kernel) (Or.inr rfl)
theorem f191_614 : zft 191 614 = some (.iconst 1, 1) := fet B191 (by decide +kernel) (Or.inr rfl)
theorem f191_615 : zft 191 615 = some (.iadd, 1) := fet B191 (by decide +kernel) (Or.inr rfl)
theorem f191_616 : zft 191 616 = some (.iaload, 1) := fet B191 (by decide +kernel) (Or.inr rfl)
theorem f191_617 : zft 191 617 = some (.invokevirtual 76, 3) := fet B191 (by decide +kernel) (Or.inr rfl)
theorem f191_620 : zft 191 620 = some (.if_icmp .eq 646, 3) := fet B191 (by decide +kernel) (Or.inr rfl)
theorem f191_623 : zft 191 623 = some (.iconst 0, 1) := fet B191 (by decide +kernel) (Or.inr rfl)
theorem f191_624 : zft 191 624 = some (.ireturn, 1) := fet B191 (by decide +kernel) (Or.inr rfl)
theorem f191_625 : zft 191 625 = some (.aload_n 1, 1) := fet B191 (by decide +kernel) (Or.inr rfl)
theorem f191_626 : zft 191 626 = some (.invokevirtual 77, 3) := fet B191 (by decide +kernel) (Or.inr rfl)
theorem f191_629 : zft 191 629 = some (.aload_n 2, 1) := fet B191 (by decide +kernel) (Or.inr rfl)
theorem f191_630 : zft 191 630 = some (.invokevirtual 80, 3) := fet B191 (by decide +kernel) (Or.inr rfl)
theorem f191_633 : zft 191 633 = some (.if_icmp .eq 633, 3) := fet B191 (by decide +kernel) (Or.inr rfl)
theorem f191_636 : zft 191 636 = some (.iconst 0, 1) := fet B191 (by decide +kernel) (Or.inr rfl)
theorem f191_637 : zft 191 637 = some (.ireturn, 1) := fet B191 (by decide +kernel) (Or.inr rfl)
theorem f191_638 : zft 191 638 = some (.aload_n 1, 1) := fet B191 (by decide +kernel) (Or.inr rfl)
theorem f191_639 : zft 191 639 = some (.invokevirtual 81, 3) := fet B191 (by decide +kernel) (Or.inr rfl)
theorem f191_642 : zft 191 642 = some (.aload_n 2, 1) := fet B191 (by decide +kernel) (Or.inr rfl)
theorem f191_643 : zft 191 643 = some (.invokevirtual 84, 3) := fet B191 (by decide +kernel) (Or.inr rfl)
theorem f191_646 : zft 191 646 = some (.if_icmp .eq 620, 3) := fet B191 (by decide +kernel) (Or.inr rfl)
theorem f191_649 : zft 191 649 = some (.iconst 0, 1) := fet B191 (by decide +kernel) (Or.inr rfl)
theorem f191_650 : zft 191 650 = some (.ireturn, 1) := fet B191 (by decide +kernel) (Or.inr rfl)
theorem f191_651 : zft 191 651 = some (.aload_n 1, 1) := fet B191 (by decide +kernel) (Or.inr rfl)
theorem f191_652 : zft 191 652 = some (.aload_n 0, 1) := fet B191 (by decide +kernel) (Or.inr rfl)
theorem f191_653 : zft 191 653 = some (.iload_n 3, 1) := fet B191 (by decide +kernel) (Or.inr rfl)
theorem f191_654 : zft 191 654 = some (.iconst 1, 1) := fet B191 (by decide +kernel) (Or.inr rfl)
theorem f191_655 : zft 191 655 = some (.iadd, 1) := fet B191 (by decide +kernel) (Or.inr rfl)
theorem f191_656 : zft 191 656 = some (.iaload, 1) := fet B191 (by decide +kernel) (Or.inr rfl)
theorem f191_657 : zft 191 657 = some (.invokevirtual 85, 3) := fet B191 (by decide +kernel) (Or.inr rfl)
theorem f191_660 : zft 191 660 = some (.aload_n 2, 1) := fet B191 (by decide +kernel) (Or.inr rfl)
theorem f191_661 : zft 191 661 = some (.aload_n 0, 1) := fet B191 (by decide +kernel) (Or.inr rfl)
theorem f191_662 : zft 191 662 = some (.iload_n 3, 1) := fet B191 (by decide +kernel) (Or.inr rfl)
theorem f191_663 : zft 191 663 = some (.iconst 1, 1) := fet B191 (by decide +kernel) (Or.inr rfl)
theorem f191_664 : zft 191 664 = some (.iadd, 1) := fet B191 (by decide +kernel) (Or.inr rfl)
theorem f191_665 : zft 191 665 = some (.iaload, 1) := fet B191 (by decide +kernel) (Or.inr rfl)
theorem f191_666 : zft 191 666 = some (.invokevirtual 88, 3) := fet B191 (by decide +kernel) (Or.inr rfl)
theorem f191_669 : zft 191 669 = some (.if_icmp .eq 597, 3) := fet B191 (by decide +kernel) (Or.inr rfl)
theorem f191_672 : zft 191 672 = some (.iconst 0, 1) := fet B191 (by decide +kernel) (Or.inr rfl)
theorem f191_673 : zft 191 673 = some (.ireturn, 1) := fet B191 (by decide +kernel) (Or.inr rfl)
theorem f191_674 : zft 191 674 = some (.aload_n 1, 1) := fet B191 (by decide +kernel) (Or.inr rfl)
theorem f191_675 : zft 191 675 = some (.aload_n 0, 1) := fet B191 (by decide +kernel) (Or.inr rfl)
theorem f191_676 : zft 191 676 = some (.iload_n 3, 1) := fet B191 (by decide +kernel) (Or.inr rfl)
theorem f191_677 : zft 191 677 = some (.iconst 1, 1) := fet B191 (by decide +kernel) (Or.inr rfl)
theorem f191_678 : zft 191 678 = some (.iadd, 1) := fet B191 (by decide +kernel) (Or.inr rfl)
theorem f191_679 : zft 191 679 = some (.iaload, 1) := fet B191 (by decide +kernel) (Or.inr rfl)
theorem f191_680 : zft 191 680 = some (.invokevirtual 89, 3) := fet B191 (by decide +kernel) (Or.inr rfl)
theorem f191_683 : zft 191 683 = some (.aload_n 2, 1) := fet B191 (by decide +kernel) (Or.inr rfl)
theorem f191_684 : zft 191 684 = some (.aload_n 0, 1) := fet B191 (by decide +kernel) (Or.inr rfl)
theorem f191_685 : zft 191 685 = some (.iload_n 3, 1) := fet B191 (by decide +kernel) (Or.inr rfl)
theorem f191_686 : zft 191 686 = some (.iconst 1, 1) := fet B191 (by decide +kernel) (Or.inr rfl)
theorem f191_687 : zft 191 687 = some (.iadd, 1) := fet B191 (by decide +kernel) (Or.inr rfl)
theorem f191_688 : zft 191 688 = some (.iaload, 1) := fet B191 (by decide +kernel) (Or.inr rfl)
theorem f191_689 : zft 191 689 = some (.invokevirtual 92, 3) := fet B191 (by decide +kernel) (Or.inr rfl)
theorem f191_692 : zft 191 692 = some (.if_icmp .eq 574, 3) := fet B191 (by decide +kernel) (Or.inr rfl)
theorem f191_695 : zft 191 695 = some (.iconst 0, 1) := fet B191 (by decide +kernel) (Or.inr rfl)
theorem f191_696 : zft 191 696 = some (.ireturn, 1) := fet B191 (by decide +kernel) (Or.inr rfl)
theorem f191_697 : zft 191 697 = some (.aload_n 1, 1) := fet B191 (by decide +kernel) (Or.inr rfl)
theorem f191_698 : zft 191 698 = some (.invokevirtual 93, 3) := fet B191 (by decide +kernel) (Or.inr rfl)
theorem f191_701 : zft 191 701 = some (.aload_n 2, 1) := fet B191 (by decide +kernel) (Or.inr rfl)
theorem f191_702 : zft 191 702 = some (.invokevirtual 96, 3) := fet B191 (by decide +kernel) (Or.inr rfl)
theorem f191_705 : zft 191 705 = some (.if_icmp .eq 561, 3) := fet B191 (by decide +kernel) (Or.inr rfl)
theorem f191_708 : zft 191 708 = some (.iconst 0, 1) := fet B191 (by decide +kernel) (Or.inr rfl)
theorem f191_709 : zft 191 709 = some (.ireturn, 1) := fet B191 (by decide +kernel) (Or.inr rfl)
theorem f191_710 : zft 191 710 = some (.aload_n 1, 1) := fet B191 (by decide +kernel) (Or.inr rfl)
theorem f191_711 : zft 191 711 = some (.aload_n 0, 1) := fet B191 (by decide +kernel) (Or.inr rfl)
theorem f191_712 : zft 191 712 = some (.iload_n 3, 1) := fet B191 (by decide +kernel) (Or.inr rfl)
theorem f191_713 : zft 191 713 = some (.iconst 1, 1) := fet B191 (by decide +kernel) (Or.inr rfl)
theorem f191_714 : zft 191 714 = some (.iadd, 1) := fet B191 (by decide +kernel) (Or.inr rfl)
theorem f191_715 : zft 191 715 = some (.iaload, 1) := fet B191 (by decide +kernel) (Or.inr rfl)
theorem f191_716 : zft 191 716 = some (.invokevirtual 97, 3) := fet B191 (by decide +kernel) (Or.inr rfl)
theorem f191_719 : zft 191 719 = some (.aload_n 2, 1) := fet B191 (by decide +kernel) (Or.inr rfl)
theorem f191_720 : zft 191 720 = some (.aload_n 0, 1) := fet B191 (by decide +kernel) (Or.inr rfl)
theorem f191_721 : zft 191 721 = some (.iload_n 3, 1) := fet B191 (by decide +kernel) (Or.inr rfl)
theorem f191_722 : zft 191 722 = some (.iconst 1, 1) := fet B191 (by decide +kernel) (Or.inr rfl)
theorem f191_723 : zft 191 723 = some (.iadd, 1) := fet B191 (by decide +kernel) (Or.inr rfl)
theorem f191_724 : zft 191 724 = some (.iaload, 1) := fet B191 (by decide +kernel) (Or.inr rfl)
theorem f191_725 : zft 191 725 = some (.invokevirtual 100, 3) := fet B191 (by decide +kernel) (Or.inr rfl)
theorem f191_728 : zft 191 728 = some (.if_icmp .eq 538, 3) := fet B191 (by decide +kernel) (Or.inr rfl)
theorem f191_731 : zft 191 731 = some (.iconst 0, 1) := fet B191 (by decide +kernel) (Or.inr rfl)
theorem f191_732 : zft 191 732 = some (.ireturn, 1) := fet B191 (by decide +kernel) (Or.inr rfl)
theorem f191_733 : zft 191 733 = some (.aload_n 1, 1) := fet B191 (by decide +kernel) (Or.inr rfl)
theorem f191_734 : zft 191 734 = some (.aload_n 0, 1) := fet B191 (by decide +kernel) (Or.inr rfl)
theorem f191_735 : zft 191 735 = some (.iload_n 3, 1) := fet B191 (by decide +kernel) (Or.inr rfl)
theorem f191_736 : zft 191 736 = some (.iconst 1, 1) := fet B191 (by decide +kernel) (Or.inr rfl)
theorem f191_737 : zft 191 737 = some (.iadd, 1) := fet B191 (by decide +kernel) (Or.inr rfl)
theorem f191_738 : zft 191 738 = some (.iaload, 1) := fet B191 (by decide +kernel) (Or.inr rfl)
theorem f191_739 : zft 191 739 = some (.invokevirtual 101, 3) := fet B191 (by decide +kernel) (Or.inr rfl)
theorem f191_742 : zft 191 742 = some (.aload_n 2, 1) := fet B191 (by decide +kernel) (Or.inr rfl)
theorem f191_743 : zft 191 743 = some (.aload_n 0, 1) := fet B191 (by decide +kernel) (Or.inr rfl)
theorem f191_744 : zft 191 744 = some (.iload_n 3, 1) := fet B191 (by decide +kernel) (Or.inr rfl)
theorem f191_745 : zft 191 745 = some (.iconst 1, 1) := fet B191 (by decide +kernel) (Or.inr rfl)
theorem f191_746 : zft 191 746 = some (.iadd, 1) := fet B191 (by decide +kernel) (Or.inr rfl)
theorem f191_747 : zft 191 747 = some (.iaload, 1) := fet B191 (by decide +kernel) (Or.inr rfl)
theorem f191_748 : zft 191 748 = some (.invokevirtual 104, 3) := fet B191 (by decide +kernel) (Or.inr rfl)
theorem f191_751 : zft 191 751 = some (.if_icmp .eq 515, 3) := fet B191 (by decide +kernel) (Or.inr rfl)
theorem f191_754 : zft 191 754 = some (.iconst 0, 1) := fet B191 (by decide +kernel) (Or.inr rfl)
theorem f191_755 : zft 191 755 = some (.ireturn, 1) := fet B191 (by decide +kernel) (Or.inr rfl)
theorem f191_756 : zft 191 756 = some (.aload_n 1, 1) := fet B191 (by decide +kernel) (Or.inr rfl)
theorem f191_757 : zft 191 757 = some (.aload_n 0, 1) := fet B191 (by decide +kernel) (Or.inr rfl)
theorem f191_758 : zft 191 758 = some (.iload_n 3, 1) := fet B191 (by decide +kernel) (Or.inr rfl)
theorem f191_759 : zft 191 759 = some (.iconst 1, 1) := fet B191 (by decide +kernel) (Or.inr rfl)
theorem f191_760 : zft 191 760 = some (.iadd, 1) := fet B191 (by decide +kernel) (Or.inr rfl)
theorem f191_761 : zft 191 761 = some (.iaload, 1) := fet B191 (by decide +kernel) (Or.inr rfl)
theorem f191_762 : zft 191 762 = some (.aload_n 0, 1) := fet B191 (by decide +kernel) (Or.inr rfl)
theorem f191_763 : zft 191 763 = some (.iload_n 3, 1) := fet B191 (by decide +kernel) (Or.inr rfl)
theorem f191_764 : zft 191 764 = some (.iconst 2, 1) := fet B191 (by decide +kernel) (Or.inr rfl)
theorem f191_765 : zft 191 765 = some (.iadd, 1) := fet B191 (by decide +kernel) (Or.inr rfl)
theorem f191_766 : zft 191 766 = some (.iaload, 1) := fet B191 (by decide +kernel) (Or.inr rfl)
theorem f191_767 : zft 191 767 = some (.aload_n 0, 1) := fet B191 (by decide +kernel) (Or.inr rfl)
theorem f191_768 : zft 191 768 = some (.iload_n 3, 1) := fet B191 (by decide +kernel) (Or.inr rfl)
theorem f191_769 : zft 191 769 = some (.iconst 3, 1) := fet B191 (by decide +kernel) (Or.inr rfl)
theorem f191_770 : zft 191 770 = some (.iadd, 1) := fet B191 (by decide +kernel) (Or.inr rfl)
theorem f191_771 : zft 191 771 = some (.iaload, 1) := fet B191 (by decide +kernel) (Or.inr rfl)
theorem f191_772 : zft 191 772 = some (.invokevirtual 105, 3) := fet B191 (by decide +kernel) (Or.inr rfl)
theorem f191_775 : zft 191 775 = some (.aload_n 2, 1) := fet B191 (by decide +kernel) (Or.inr rfl)
theorem f191_776 : zft 191 776 = some (.aload_n 0, 1) := fet B191 (by decide +kernel) (Or.inr rfl)
theorem f191_777 : zft 191 777 = some (.iload_n 3, 1) := fet B191 (by decide +kernel) (Or.inr rfl)
theorem f191_778 : zft 191 778 = some (.iconst 1, 1) := fet B191 (by decide +kernel) (Or.inr rfl)
theorem f191_779 : zft 191 779 = some (.iadd, 1) := fet B191 (by decide +kernel) (Or.inr rfl)
theorem f191_780 : zft 191 780 = some (.iaload, 1) := fet B191 (by decide +kernel) (Or.inr rfl)
theorem f191_781 : zft 191 781 = some (.aload_n 0, 1) := fet B191 (by decide +kernel) (Or.inr rfl)
theorem f191_782 : zft 191 782 = some (.iload_n 3, 1) := fet B191 (by decide +kernel) (Or.inr rfl)
theorem f191_783 : zft 191 783 = some (.iconst 2, 1) := fet B191 (by decide +kernel) (Or.inr rfl)
theorem f191_784 : zft 191 784 = some (.iadd, 1) := fet B191 (by decide +kernel) (Or.inr rfl)
theorem f191_785 : zft 191 785 = some (.iaload, 1) := fet B191 (by decide +kernel) (Or.inr rfl)
theorem f191_786 : zft 191 786 = some (.aload_n 0, 1) := fet B191 (by decide +kernel) (Or.inr rfl)
theorem f191_787 : zft 191 787 = some (.iload_n 3, 1) := fet B191 (by decide +kernel) (Or.inr rfl)
theorem f191_788 : zft 191 788 = some (.iconst 3, 1) := fet B191 (by decide +kernel) (Or.inr rfl)
theorem f191_789 : zft 191 789 = some (.iadd, 1) := fet B191 (by decide +kernel) (Or.inr rfl)
theorem f191_790 : zft 191 790 = some (.iaload, 1) := fet B191 (by decide +kernel) (Or.inr rfl)
theorem f191_791 : zft 191 791 = some (.invokevirtual 108, 3) := fet B191 (by decide +kernel) (Or.inr rfl)
theorem f191_794 : zft 191 794 = some (.if_icmp .eq 472, 3) := fet B191 (by decide +kernel) (Or.inr rfl)
theorem f191_797 : zft 191 797 = some (.iconst 0, 1) := fet B191 (by decide +kernel) (Or.inr rfl)
theorem f191_798 : zft 191 798 = some (.ireturn, 1) := fet B191 (by decide +kernel) (Or.inr rfl)
theorem f191_799 : zft 191 799 = some (.aload_n 1, 1) := fet B191 (by decide +kernel) (Or.inr rfl)
theorem f191_800 : zft 191 800 = some (.invokevirtual 109, 3) := fet B191 (by decide +kernel) (Or.inr rfl)
theorem f191_803 : zft 191 803 = some (.aload_n 2, 1) := fet B191 (by decide +kernel) (Or.inr rfl)
theorem f191_804 : zft 191 804 = some (.invokevirtual 112, 3) := fet B191 (by decide +kernel) (Or.inr rfl)
theorem f191_807 : zft 191 807 = some (.if_icmp .eq 459, 3) := fet B191 (by decide +kernel) (Or.inr rfl)
theorem f191_810 : zft 191 810 = some (.iconst 0, 1) := fet B191 (by decide +kernel) (Or.inr rfl)
theorem f191_811 : zft 191 811 = some (.ireturn, 1) := fet B191 (by decide +kernel) (Or.inr rfl)
theorem f191_812 : zft 191 812 = some (.aload_n 1, 1) := fet B191 (by decide +kernel) (Or.inr rfl)
theorem f191_813 : zft 191 813 = some (.invokevirtual 113, 3) := fet B191 (by decide +kernel) (Or.inr rfl)
theorem f191_816 : zft 191 816 = some (.aload_n 2, 1) := fet B191 (by decide +kernel) (Or.inr rfl)
theorem f191_817 : zft 191 817 = some (.invokevirtual 116, 3) := fet B191 (by decide +kernel) (Or.inr rfl)
theorem f191_820 : zft 191 820 = some (.if_icmp .eq 446, 3) := fet B191 (by decide +kernel) (Or.inr rfl)
theorem f191_823 : zft 191 823 = some (.iconst 0, 1) := fet B191 (by decide +kernel) (Or.inr rfl)
theorem f191_824 : zft 191 824 = some (.ireturn, 1) := fet B191 (by decide +kernel) (Or.inr rfl)
theorem f191_825 : zft 191 825 = some (.aload_n 1, 1) := fet B191 (by decide +kernel) (Or.inr rfl)
theorem f191_826 : zft 191 826 = some (.aload_n 0, 1) := fet B191 (by decide +kernel) (Or.inr rfl)
theorem f191_827 : zft 191 827 = some (.iload_n 3, 1) := fet B191 (by decide +kernel) (Or.inr rfl)
theorem f191_828 : zft 191 828 = some (.iconst 1, 1) := fet B191 (by decide +kernel) (Or.inr rfl)
theorem f191_829 : zft 191 829 = some (.iadd, 1) := fet B191 (by decide +kernel) (Or.inr rfl)
theorem f191_830 : zft 191 830 = some (.iaload, 1) := fet B191 (by decide +kernel) (Or.inr rfl)
theorem f191_831 : zft 191 831 = some (.invokevirtual 117, 3) := fet B191 (by decide +kernel) (Or.inr rfl)
theorem f191_834 : zft 191 834 = some (.aload_n 2, 1) := fet B191 (by decide +kernel) (Or.inr rfl)
theorem f191_835 : zft 191 835 = some (.aload_n 0, 1) := fet B191 (by decide +kernel) (Or.inr rfl)
theorem f191_836 : zft 191 836 = some (.iload_n 3, 1) := fet B191 (by decide +kernel) (Or.inr rfl)
theorem f191_837 : zft 191 837 = some (.iconst 1, 1) := fet B191 (by decide +kernel) (Or.inr rfl)
theorem f191_838 : zft 191 838 = some (.iadd, 1) := fet B191 (by decide +kernel) (Or.inr rfl)
theorem f191_839 : zft 191 839 = some (.iaload, 1) := fet B191 (by decide +kernel) (Or.inr rfl)
theorem f191_840 : zft 191 840 = some (.invokevirtual 120, 3) := fet B191 (by decide +kernel) (Or.inr rfl)
theorem f191_843 : zft 191 843 = some (.if_icmp .eq 423, 3) := fet B191 (by decide +kernel) (Or.inr rfl)
theorem f191_846 : zft 191 846 = some (.iconst 0, 1) := fet B191 (by decide +kernel) (Or.inr rfl)
theorem f191_847 : zft 191 847 = some (.ireturn, 1) := fet B191 (by decide +kernel) (Or.inr rfl)
theorem f191_848 : zft 191 848 = some (.aload_n 1, 1) := fet B191 (by decide +kernel) (Or.inr rfl)
theorem f191_849 : zft 191 849 = some (.aload_n 0, 1) := fet B191 (by decide +kernel) (Or.inr rfl)
theorem f191_850 : zft 191 850 = some (.iload_n 3, 1) := fet B191 (by decide +kernel) (Or.inr rfl)
theorem f191_851 : zft 191 851 = some (.iconst 1, 1) := fet B191 (by decide +kernel) (Or.inr rfl)
theorem f191_852 : zft 191 852 = some (.iadd, 1) := fet B191 (by decide +kernel) (Or.inr rfl)
theorem f191_853 : zft 191 853 = some (.iaload, 1) := fet B191 (by decide +kernel) (Or.inr rfl)
theorem f191_854 : zft 191 854 = some (.invokevirtual 121, 3) := fet B191 (by decide +kernel) (Or.inr rfl)
theorem f191_857 : zft 191 857 = some (.aload_n 2, 1) := fet B191 (by decide +kernel) (Or.inr rfl)
theorem f191_858 : zft 191 858 = some (.aload_n 0, 1) := fet B191 (by decide +kernel) (Or.inr rfl)
theorem f191_859 : zft 191 859 = some (.iload_n 3, 1) := fet B191 (by decide +kernel) (Or.inr rfl)
theorem f191_860 : zft 191 860 = some (.iconst 1, 1) := fet B191 (by decide +kernel) (Or.inr rfl)
theorem f191_861 : zft 191 861 = some (.iadd, 1) := fet B191 (by decide +kernel) (Or.inr rfl)
theorem f191_862 : zft 191 862 = some (.iaload, 1) := fet B191 (by decide +kernel) (Or.inr rfl)
theorem f191_863 : zft 191 863 = some (.invokevirtual 124, 3) := fet B191 (by decide +kernel) (Or.inr rfl)
theorem f191_866 : zft 191 866 = some (.if_icmp .eq 400, 3) := fet B191 (by decide +kernel) (Or.inr rfl)
theorem f191_869 : zft 191 869 = some (.iconst 0, 1) := fet B191 (by decide +kernel) (Or.inr rfl)
theorem f191_870 : zft 191 870 = some (.ireturn, 1) := fet B191 (by decide +kernel) (Or.inr rfl)
theorem f191_871 : zft 191 871 = some (.aload_n 1, 1) := fet B191 (by decide +kernel) (Or.inr rfl)
theorem f191_872 : zft 191 872 = some (.aload_n 0, 1) := fet B191 (by decide +kernel) (Or.inr rfl)
theorem f191_873 : zft 191 873 = some (.iload_n 3, 1) := fet B191 (by decide +kernel) (Or.inr rfl)
theorem f191_874 : zft 191 874 = some (.iconst 1, 1) := fet B191 (by decide +kernel) (Or.inr rfl)
theorem f191_875 : zft 191 875 = some (.iadd, 1) := fet B191 (by decide +kernel) (Or.inr rfl)
theorem f191_876 : zft 191 876 = some (.iaload, 1) := fet B191 (by decide +kernel) (Or.inr rfl)
theorem f191_877 : zft 191 877 = some (.invokevirtual 125, 3) := fet B191 (by decide +kernel) (Or.inr rfl)
theorem f191_880 : zft 191 880 = some (.aload_n 2, 1) := fet B191 (by decide +kernel) (Or.inr rfl)
theorem f191_881 : zft 191 881 = some (.aload_n 0, 1) := fet B191 (by decide +kernel) (Or.inr rfl)
theorem f191_882 : zft 191 882 = some (.iload_n 3, 1) := fet B191 (by decide +kernel) (Or.inr rfl)
theorem f191_883 : zft 191 883 = some (.iconst 1, 1) := fet B191 (by decide +kernel) (Or.inr rfl)
theorem f191_884 : zft 191 884 = some (.iadd, 1) := fet B191 (by decide +kernel) (Or.inr rfl)
theorem f191_885 : zft 191 885 = some (.iaload, 1) := fet B191 (by decide +kernel) (Or.inr rfl)
theorem f191_886 : zft 191 886 = some (.invokevirtual 128, 3) := fet B191 (by decide +kernel) (Or.inr rfl)
theorem f191_889 : zft 191 889 = some (.if_icmp .eq 377, 3) := fet B191 (by decide +kernel) (Or.inr rfl)
theorem f191_892 : zft 191 892 = some (.iconst 0, 1) := fet B191 (by decide +kernel) (Or.inr rfl)
theorem f191_893 : zft 191 893 = some (.ireturn, 1) := fet B191 (by decide +kernel) (Or.inr rfl)
theorem f191_894 : zft 191 894 = some (.aload_n 1, 1) := fet B191 (by decide +kernel) (Or.inr rfl)
theorem f191_895 : zft 191 895 = some (.aload_n 0, 1) := fet B191 (by decide +kernel) (Or.inr rfl)
theorem f191_896 : zft 191 896 = some (.iload_n 3, 1) := fet B191 (by decide +kernel) (Or.inr rfl)
theorem f191_897 : zft 191 897 = some (.iconst 1, 1) := fet B191 (by decide +kernel) (Or.inr rfl)
theorem f191_898 : zft 191 898 = some (.iadd, 1) := fet B191 (by decide +kernel) (Or.inr rfl)
theorem f191_899 : zft 191 899 = some (.iaload, 1) := fet B191 (by decide +kernel) (Or.inr rfl)
theorem f191_900 : zft 191 900 = some (.aload_n 0, 1) := fet B191 (by decide +kernel) (Or.inr rfl)
theorem f191_901 : zft 191 901 = some (.iload_n 3, 1) := fet B191 (by decide +kernel) (Or.inr rfl)
theorem f191_902 : zft 191 902 = some (.iconst 2, 1) := fet B191 (by decide +kernel) (Or.inr rfl)
theorem f191_903 : zft 191 903 = some (.iadd, 1) := fet B191 (by decide +kernel) (Or.inr rfl)
theorem f191_904 : zft 191 904 = some (.iaload, 1) := fet B191 (by decide +kernel) (Or.inr rfl)
theorem f191_905 : zft 191 905 = some (.aload_n 0, 1) := fet B191 (by decide +kernel) (Or.inr rfl)
theorem f191_906 : zft 191 906 = some (.iload_n 3, 1) := fet B191 (by decide +kernel) (Or.inr rfl)
theorem f191_907 : zft 191 907 = some (.iconst 3, 1) := fet B191 (by decide +kernel) (Or.inr rfl)
theorem f191_908 : zft 191 908 = some (.iadd, 1) := fet B191 (by decide +kernel) (Or.inr rfl)
theorem f191_909 : zft 191 909 = some (.iaload, 1) := fet B191 (by decide +kernel) (Or.inr rfl)
theorem f191_910 : zft 191 910 = some (.invokevirtual 129, 3) := fet B191 (by decide +kernel) (Or.inr rfl)
theorem f191_913 : zft 191 913 = some (.aload_n 2, 1) := fet B191 (by decide +kernel) (Or.inr rfl)
theorem f191_914 : zft 191 914 = some (.aload_n 0, 1) := fet B191 (by decide +kernel) (Or.inr rfl)
theorem f191_915 : zft 191 915 = some (.iload_n 3, 1) := fet B191 (by decide +kernel) (Or.inr rfl)
theorem f191_916 : zft 191 916 = some (.iconst 1, 1) := fet B191 (by decide +kernel) (Or.inr rfl)
theorem f191_917 : zft 191 917 = some (.iadd, 1) := fet B191 (by decide +kernel) (Or.inr rfl)
theorem f191_918 : zft 191 918 = some (.iaload, 1) := fet B191 (by decide +kernel) (Or.inr rfl)
theorem f191_919 : zft 191 919 = some (.aload_n 0, 1) := fet B191 (by decide +kernel) (Or.inr rfl)
theorem f191_920 : zft 191 920 = some (.iload_n 3, 1) := fet B191 (by decide +kernel) (Or.inr rfl)
theorem f191_921 : zft 191 921 = some (.iconst 2, 1) := fet B191 (by decide +kernel) (Or.inr rfl)
theorem f191_922 : zft 191 922 = some (.iadd, 1) := fet B191 (by decide +kernel) (Or.inr rfl)
theorem f191_923 : zft 191 923 = some (.iaload, 1) := fet B191 (by decide +kernel) (Or.inr rfl)
theorem f191_924 : zft 191 924 = some (.aload_n 0, 1) := fet B191 (by decide +kernel) (Or.inr rfl)
theorem f191_925 : zft 191 925 = some (.iload_n 3, 1) := fet B191 (by decide +kernel) (Or.inr rfl)
theorem f191_926 : zft 191 926 = some (.iconst 3, 1) := fet B191 (by decide +kernel) (Or.inr rfl)
theorem f191_927 : zft 191 927 = some (.iadd, 1) := fet B191 (by decide +kernel) (Or.inr rfl)
theorem f191_928 : zft 191 928 = some (.iaload, 1) := fet B191 (by decide +kernel) (Or.inr rfl)
theorem f191_929 : zft 191 929 = some (.invokevirtual 133, 3) := fet B191 (by decide +kernel) (Or.inr rfl)
theorem f191_932 : zft 191 932 = some (.lcmp, 1) := fet B191 (by decide +kernel) (Or.inr rfl)
theorem f191_933 : zft 191 933 = some (.ifCond .eq 333, 3) := fet B191 (by decide +kernel) (Or.inr rfl)
theorem f191_936 : zft 191 936 = some (.iconst 0, 1) := fet B191 (by decide +kernel) (Or.inr rfl)
theorem f191_937 : zft 191 937 = some (.ireturn, 1) := fet B191 (by decide +kernel) (Or.inr rfl)
theorem f191_938 : zft 191 938 = some (.aload_n 1, 1) := fet B191 (by decide +kernel) (Or.inr rfl)
theorem f191_939 : zft 191 939 = some (.aload_n 0, 1) := fet B191 (by decide +kernel) (Or.inr rfl)
theorem f191_940 : zft 191 940 = some (.iload_n 3, 1) := fet B191 (by decide +kernel) (Or.inr rfl)
theorem f191_941 : zft 191 941 = some (.iconst 1, 1) := fet B191 (by decide +kernel) (Or.inr rfl)
theorem f191_942 : zft 191 942 = some (.iadd, 1) := fet B191 (by decide +kernel) (Or.inr rfl)
theorem f191_943 : zft 191 943 = some (.iaload, 1) := fet B191 (by decide +kernel) (Or.inr rfl)
theorem f191_944 : zft 191 944 = some (.aload_n 0, 1) := fet B191 (by decide +kernel) (Or.inr rfl)
theorem f191_945 : zft 191 945 = some (.iload_n 3, 1) := fet B191 (by decide +kernel) (Or.inr rfl)
theorem f191_946 : zft 191 946 = some (.iconst 2, 1) := fet B191 (by decide +kernel) (Or.inr rfl)
theorem f191_947 : zft 191 947 = some (.iadd, 1) := fet B191 (by decide +kernel) (Or.inr rfl)
theorem f191_948 : zft 191 948 = some (.iaload, 1) := fet B191 (by decide +kernel) (Or.inr rfl)
theorem f191_949 : zft 191 949 = some (.aload_n 0, 1) := fet B191 (by decide +kernel) (Or.inr rfl)
theorem f191_950 : zft 191 950 = some (.iload_n 3, 1) := fet B191 (by decide +kernel) (Or.inr rfl)
theorem f191_951 : zft 191 951 = some (.iconst 3, 1) := fet B191 (by decide +kernel) (Or.inr rfl)
theorem f191_952 : zft 191 952 = some (.iadd, 1) := fet B191 (by decide +kernel) (Or.inr rfl)
theorem f191_953 : zft 191 953 = some (.iaload, 1) := fet B191 (by decide +kernel) (Or.inr rfl)
theorem f191_954 : zft 191 954 = some (.invokevirtual 134, 3) := fet B191 (by decide +kernel) (Or.inr rfl)
theorem f191_957 : zft 191 957 = some (.aload_n 2, 1) := fet B191 (by decide +kernel) (Or.inr rfl)
theorem f191_958 : zft 191 958 = some (.aload_n 0, 1) := fet B191 (by decide +kernel) (Or.inr rfl)
theorem f191_959 : zft 191 959 = some (.iload_n 3, 1) := fet B191 (by decide +kernel) (Or.inr rfl)
theorem f191_960 : zft 191 960 = some (.iconst 1, 1) := fet B191 (by decide +kernel) (Or.inr rfl)
theorem f191_961 : zft 191 961 = some (.iadd, 1) := fet B191 (by decide +kernel) (Or.inr rfl)
theorem f191_962 : zft 191 962 = some (.iaload, 1) := fet B191 (by decide +kernel) (Or.inr rfl)
theorem f191_963 : zft 191 963 = some (.aload_n 0, 1) := fet B191 (by decide +kernel) (Or.inr rfl)
theorem f191_964 : zft 191 964 = some (.iload_n 3, 1) := fet B191 (by decide +kernel) (Or.inr rfl)
theorem f191_965 : zft 191 965 = some (.iconst 2, 1) := fet B191 (by decide +kernel) (Or.inr rfl)
theorem f191_966 : zft 191 966 = some (.iadd, 1) := fet B191 (by decide +kernel) (Or.inr rfl)
theorem f191_967 : zft 191 967 = some (.iaload, 1) := fet B191 (by decide +kernel) (Or.inr rfl)
theorem f191_968 : zft 191 968 = some (.aload_n 0, 1) := fet B191 (by decide +kernel) (Or.inr rfl)
theorem f191_969 : zft 191 969 = some (.iload_n 3, 1) := fet B191 (by decide +kernel) (Or.inr rfl)
theorem f191_970 : zft 191 970 = some (.iconst 3, 1) := fet B191 (by decide +kernel) (Or.inr rfl)
theorem f191_971 : zft 191 971 = some (.iadd, 1) := fet B191 (by decide +kernel) (Or.inr rfl)
theorem f191_972 : zft 191 972 = some (.iaload, 1) := fet B191 (by decide +kernel) (Or.inr rfl)
theorem f191_973 : zft 191 973 = some (.invokevirtual 137, 3) := fet B191 (by decide +kernel) (Or.inr rfl)
theorem f191_976 : zft 191 976 = some (.if_icmp .eq 290, 3) := fet B191 (by decide +kernel) (Or.inr rfl)
theorem f191_979 : zft 191 979 = some (.iconst 0, 1) := fet B191 (by decide +kernel) (Or.inr rfl)
theorem f191_980 : zft 191 980 = some (.ireturn, 1) := fet B191 (by decide +kernel) (Or.inr rfl)
theorem f191_981 : zft 191 981 = some (.aload_n 1, 1) := fet B191 (by decide +kernel) (Or.inr rfl)
theorem f191_982 : zft 191 982 = some (.aload_n 0, 1) := fet B191 (by decide +kernel) (Or.inr rfl)
theorem f191_983 : zft 191 983 = some (.iload_n 3, 1) := fet B191 (by decide +kernel) (Or.inr rfl)
theorem f191_984 : zft 191 984 = some (.iconst 1, 1) := fet B191 (by decide +kernel) (Or.inr rfl)
theorem f191_985 : zft 191 985 = some (.iadd, 1) := fet B191 (by decide +kernel) (Or.inr rfl)
theorem f191_986 : zft 191 986 = some (.iaload, 1) := fet B191 (by decide +kernel) (Or.inr rfl)
theorem f191_987 : zft 191 987 = some (.aload_n 0, 1) := fet B191 (by decide +kernel) (Or.inr rfl)
theorem f191_988 : zft 191 988 = some (.iload_n 3, 1) := fet B191 (by decide +kernel) (Or.inr rfl)
theorem f191_989 : zft 191 989 = some (.iconst 2, 1) := fet B191 (by decide +kernel) (Or.inr rfl)
theorem f191_990 : zft 191 990 = some (.iadd, 1) := fet B191 (by decide +kernel) (Or.inr rfl)
theorem f191_991 : zft 191 991 = some (.iaload, 1) := fet B191 (by decide +kernel) (Or.inr rfl)
theorem f191_992 : zft 191 992 = some (.aload_n 0, 1) := fet B191 (by decide +kernel) (Or.inr rfl)
theorem f191_993 : zft 191 993 = some (.iload_n 3, 1) := fet B191 (by decide +kernel) (Or.inr rfl)
theorem f191_994 : zft 191 994 = some (.iconst 3, 1) := fet B191 (by decide +kernel) (Or.inr rfl)
theorem f191_995 : zft 191 995 = some (.iadd, 1) := fet B191 (by decide +kernel) (Or.inr rfl)
theorem f191_996 : zft 191 996 = some (.iaload, 1) := fet B191 (by decide +kernel) (Or.inr rfl)
theorem f191_997 : zft 191 997 = some (.invokevirtual 138, 3) := fet B191 (by decide +kernel) (Or.inr rfl)
theorem f191_1000 : zft 191 1000 = some (.aload_n 2, 1) := fet B191 (by decide +kernel) (Or.inr rfl)
theorem f191_1001 : zft 191 1001 = some (.aload_n 0, 1) := fet B191 (by decide +kernel) (Or.inr rfl)
theorem f191_1002 : zft 191 1002 = some (.iload_n 3, 1) := fet B191 (by decide +kernel) (Or.inr rfl)
theorem f191_1003 : zft 191 1003 = some (.iconst 1, 1) := fet B191 (by decide +kernel) (Or.inr rfl)
theorem f191_1004 : zft 191 1004 = some (.iadd, 1) := fet B191 (by decide +kernel) (Or.inr rfl)
theorem f191_1005 : zft 191 1005 = some (.iaload, 1) := fet B191 (by decide +kernel) (Or.inr rfl)
theorem f191_1006 : zft 191 1006 = some (.aload_n 0, 1) := fet B191 (by decide +kernel) (Or.inr rfl)
theorem f191_1007 : zft 191 1007 = some (.iload_n 3, 1) := fet B191 (by decide +kernel) (Or.inr rfl)
theorem f191_1008 : zft 191 1008 = some (.iconst 2, 1) := fet B191 (by decide +kernel) (Or.inr rfl)
theorem f191_1009 : zft 191 1009 = some (.iadd, 1) := fet B191 (by decide +kernel) (Or.inr rfl)
theorem f191_1010 : zft 191 1010 = some (.iaload, 1) := fet B191 (by decide +kernel) (Or.inr rfl)
theorem f191_1011 : zft 191 1011 = some (.aload_n 0, 1) := fet B191 (by decide +kernel) (Or.inr rfl)
theorem f191_1012 : zft 191 1012 = some (.iload_n 3, 1) := fet B191 (by decide +kernel) (Or.inr rfl)
theorem f191_1013 : zft 191 1013 = some (.iconst 3, 1) := fet B191 (by decide +kernel) (Or.inr rfl)
theorem f191_1014 : zft 191 1014 = some (.iadd, 1) := fet B191 (by decide +kernel) (Or.inr rfl)
theorem f191_1015 : zft 191 1015 = some (.iaload, 1) := fet B191 (by decide +kernel) (Or.inr rfl)
theorem f191_1016 : zft 191 1016 = some (.invokevirtual 141, 3) := fet B191 (by decide +kernel) (Or.inr rfl)
theorem f191_1019 : zft 191 1019 = some (.if_icmp .eq 247, 3) := fet B191 (by decide +kernel) (Or.inr rfl)
theorem f191_1022 : zft 191 1022 = some (.iconst 0, 1) := fet B191 (by decide +kernel) (Or.inr rfl)
theorem f191_1023 : zft 191 1023 = some (.ireturn, 1) := fet B191 (by decide +kernel) (Or.inr rfl)
theorem f191_1024 : zft 191 1024 = some (.aload_n 1, 1) := fet B191 (by decide +kernel) (Or.inr rfl)
theorem f191_1025 : zft 191 1025 = some (.aload_n 0, 1) := fet B191 (by decide +kernel) (Or.inr rfl)
theorem f191_1026 : zft 191 1026 = some (.iload_n 3, 1) := fet B191 (by decide +kernel) (Or.inr rfl)
theorem f191_1027 : zft 191 1027 = some (.iconst 1, 1) := fet B191 (by decide +kernel) (Or.inr rfl)
theorem f191_1028 : zft 191 1028 = some (.iadd, 1) := fet B191 (by decide +kernel) (Or.inr rfl)
theorem f191_1029 : zft 191 1029 = some (.iaload, 1) := fet B191 (by decide +kernel) (Or.inr rfl)
theorem f191_1030 : zft 191 1030 = some (.invokevirtual 142, 3) := fet B191 (by decide +kernel) (Or.inr rfl)
theorem f191_1033 : zft 191 1033 = some (.aload_n 2, 1) := fet B191 (by decide +kernel) (Or.inr rfl)
theorem f191_1034 : zft 191 1034 = some (.aload_n 0, 1) := fet B191 (by decide +kernel) (Or.inr rfl)
theorem f191_1035 : zft 191 1035 = some (.iload_n 3, 1) := fet B191 (by decide +kernel) (Or.inr rfl)
theorem f191_1036 : zft 191 1036 = some (.iconst 1, 1) := fet B191 (by decide +kernel) (Or.inr rfl)
theorem f191_1037 : zft 191 1037 = some (.iadd, 1) := fet B191 (by decide +kernel) (Or.inr rfl)
theorem f191_1038 : zft 191 1038 = some (.iaload, 1) := fet B191 (by decide +kernel) (Or.inr rfl)
theorem f191_1039 : zft 191 1039 = some (.invokevirtual 145, 3) := fet B191 (by decide +kernel) (Or.inr rfl)
theorem f191_1042 : zft 191 1042 = some (.if_icmp .eq 224, 3) := fet B191 (by decide +kernel) (Or.inr rfl)
theorem f191_1045 : zft 191 1045 = some (.iconst 0, 1) := fet B191 (by decide +kernel) (Or.inr rfl)
theorem f191_1046 : zft 191 1046 = some (.ireturn, 1) := fet B191 (by decide +kernel) (Or.inr rfl)
theorem f191_1047 : zft 191 1047 = some (.aload_n 1, 1) := fet B191 (by decide +kernel) (Or.inr rfl)
theorem f191_1048 : zft 191 1048 = some (.aload_n 0, 1) := fet B191 (by decide +kernel) (Or.inr rfl)
theorem f191_1049 : zft 191 1049 = some (.iload_n 3, 1) := fet B191 (by decide +kernel) (Or.inr rfl)
theorem f191_1050 : zft 191 1050 = some (.iconst 1, 1) := fet B191 (by decide +kernel) (Or.inr rfl)
theorem f191_1051 : zft 191 1051 = some (.iadd, 1) := fet B191 (by decide +kernel) (Or.inr rfl)
theorem f191_1052 : zft 191 1052 = some (.iaload, 1) := fet B191 (by decide +kernel) (Or.inr rfl)
theorem f191_1053 : zft 191 1053 = some (.aload_n 0, 1) := fet B191 (by decide +kernel) (Or.inr rfl)
theorem f191_1054 : zft 191 1054 = some (.iload_n 3, 1) := fet B191 (by decide +kernel) (Or.inr rfl)
theorem f191_1055 : zft 191 1055 = some (.iconst 2, 1) := fet B191 (by decide +kernel) (Or.inr rfl)
theorem f191_1056 : zft 191 1056 = some (.iadd, 1) := fet B191 (by decide +kernel) (Or.inr rfl)
theorem f191_1057 : zft 191 1057 = some (.iaload, 1) := fet B191 (by decide +kernel) (Or.inr rfl)
theorem f191_1058 : zft 191 1058 = some (.aload_n 0, 1) := fet B191 (by decide +kernel) (Or.inr rfl)
theorem f191_1059 : zft 191 1059 = some (.iload_n 3, 1) := fet B191 (by decide +kernel) (Or.inr rfl)
theorem f191_1060 : zft 191 1060 = some (.iconst 3, 1) := fet B191 (by decide +kernel) (Or.inr rfl)
theorem f191_1061 : zft 191 1061 = some (.iadd, 1) := fet B191 (by decide +kernel) (Or.inr rfl)
theorem f191_1062 : zft 191 1062 = some (.iaload, 1) := fet B191 (by decide +kernel) (Or.inr rfl)
theorem f191_1063 : zft 191 1063 = some (.aload_n 0, 1) := fet B191 (by decide +kernel) (Or.inr rfl)
theorem f191_1064 : zft 191 1064 = some (.iload_n 3, 1) := fet B191 (by decide +kernel) (Or.inr rfl)
theorem f191_1065 : zft 191 1065 = some (.iconst 4, 1) := fet B191 (by decide +kernel) (Or.inr rfl)
theorem f191_1066 : zft 191 1066 = some (.iadd, 1) := fet B191 (by decide +kernel) (Or.inr rfl)
theorem f191_1067 : zft 191 1067 = some (.iaload, 1) := fet B191 (by decide +kernel) (Or.inr rfl)
theorem f191_1068 : zft 191 1068 = some (.invokevirtual 146, 3) := fet B191 (by decide +kernel) (Or.inr rfl)
theorem f191_1071 : zft 191 1071 = some (.aload_n 2, 1) := fet B191 (by decide +kernel) (Or.inr rfl)
theorem f191_1072 : zft 191 1072 = some (.aload_n 0, 1) := fet B191 (by decide +kernel) (Or.inr rfl)
theorem f191_1073 : zft 191 1073 = some (.iload_n 3, 1) := fet B191 (by decide +kernel) (Or.inr rfl)
theorem f191_1074 : zft 191 1074 = some (.iconst 1, 1) := fet B191 (by decide +kernel) (Or.inr rfl)
theorem f191_1075 : zft 191 1075 = some (.iadd, 1) := fet B191 (by decide +kernel) (Or.inr rfl)
theorem f191_1076 : zft 191 1076 = some (.iaload, 1) := fet B191 (by decide +kernel) (Or.inr rfl)
theorem f191_1077 : zft 191 1077 = some (.aload_n 0, 1) := fet B191 (by decide +kernel) (Or.inr rfl)
theorem f191_1078 : zft 191 1078 = some (.iload_n 3, 1) := fet B191 (by decide +kernel) (Or.inr rfl)
theorem f191_1079 : zft 191 1079 = some (.iconst 2, 1) := fet B191 (by decide +kernel) (Or.inr rfl)
theorem f191_1080 : zft 191 1080 = some (.iadd, 1) := fet B191 (by decide +kernel) (Or.inr rfl)
theorem f191_1081 : zft 191 1081 = some (.iaload, 1) := fet B191 (by decide +kernel) (Or.inr rfl)
theorem f191_1082 : zft 191 1082 = some (.aload_n 0, 1) := fet B191 (by decide +kernel) (Or.inr rfl)
theorem f191_1083 : zft 191 1083 = some (.iload_n 3, 1) := fet B191 (by decide +kernel) (Or.inr rfl)
theorem f191_1084 : zft 191 1084 = some (.iconst 3, 1) := fet B191 (by decide +kernel) (Or.inr rfl)
theorem f191_1085 : zft 191 1085 = some (.iadd, 1) := fet B191 (by decide +kernel) (Or.inr rfl)
theorem f191_1086 : zft 191 1086 = some (.iaload, 1) := fet B191 (by decide +kernel) (Or.inr rfl)
theorem f191_1087 : zft 191 1087 = some (.aload_n 0, 1) := fet B191 (by decide +kernel) (Or.inr rfl)
theorem f191_1088 : zft 191 1088 = some (.iload_n 3, 1) := fet B191 (by decide +kernel) (Or.inr rfl)
theorem f191_1089 : zft 191 1089 = some (.iconst 4, 1) := fet B191 (by decide +kernel) (Or.inr rfl)
theorem f191_1090 : zft 191 1090 = some (.iadd, 1) := fet B191 (by decide +kernel) (Or.inr rfl)
theorem f191_1091 : zft 191 1091 = some (.iaload, 1) := fet B191 (by decide +kernel) (Or.inr rfl)
theorem f191_1092 : zft 191 1092 = some (.invokevirtual 150, 3) := fet B191 (by decide +kernel) (Or.inr rfl)
theorem f191_1095 : zft 191 1095 = some (.if_icmp .eq 171, 3) := fet B191 (by decide +kernel) (Or.inr rfl)
theorem f191_1098 : zft 191 1098 = some (.iconst 0, 1) := fet B191 (by decide +kernel) (Or.inr rfl)
theorem f191_1099 : zft 191 1099 = some (.ireturn, 1) := fet B191 (by decide +kernel) (Or.inr rfl)
theorem f191_1100 : zft 191 1100 = some (.aload_n 1, 1) := fet B191 (by decide +kernel) (Or.inr rfl)
theorem f191_1101 : zft 191 1101 = some (.aload_n 0, 1) := fet B191 (by decide +kernel) (Or.inr rfl)
theorem f191_1102 : zft 191 1102 = some (.iload_n 3, 1) := fet B191 (by decide +kernel) (Or.inr rfl)
theorem f191_1103 : zft 191 1103 = some (.iconst 1, 1) := fet B191 (by decide +kernel) (Or.inr rfl)
theorem f191_1104 : zft 191 1104 = some (.iadd, 1) := fet B191 (by decide +kernel) (Or.inr rfl)
theorem f191_1105 : zft 191 1105 = some (.iaload, 1) := fet B191 (by decide +kernel) (Or.inr rfl)
theorem f191_1106 : zft 191 1106 = some (.aload_n 0, 1) := fet B191 (by decide +kernel) (Or.inr rfl)
theorem f191_1107 : zft 191 1107 = some (.iload_n 3, 1) := fet B191 (by decide +kernel) (Or.inr rfl)
theorem f191_1108 : zft 191 1108 = some (.iconst 2, 1) := fet B191 (by decide +kernel) (Or.inr rfl)
theorem f191_1109 : zft 191 1109 = some (.iadd, 1) := fet B191 (by decide +kernel) (Or.inr rfl)
theorem f191_1110 : zft 191 1110 = some (.iaload, 1) := fet B191 (by decide +kernel) (Or.inr rfl)
theorem f191_1111 : zft 191 1111 = some (.aload_n 0, 1) := fet B191 (by decide +kernel) (Or.inr rfl)
theorem f191_1112 : zft 191 1112 = some (.iload_n 3, 1) := fet B191 (by decide +kernel) (Or.inr rfl)
theorem f191_1113 : zft 191 1113 = some (.iconst 3, 1) := fet B191 (by decide +kernel) (Or.inr rfl)
theorem f191_1114 : zft 191 1114 = some (.iadd, 1) := fet B191 (by decide +kernel) (Or.inr rfl)
theorem f191_1115 : zft 191 1115 = some (.iaload, 1) := fet B191 (by decide +kernel) (Or.inr rfl)
theorem f191_1116 : zft 191 1116 = some (.invokevirtual 151, 3) := fet B191 (by decide +kernel) (Or.inr rfl)
theorem f191_1119 : zft 191 1119 = some (.aload_n 2, 1) := fet B191 (by decide +kernel) (Or.inr rfl)
theorem f191_1120 : zft 191 1120 = some (.aload_n 0, 1) := fet B191 (by decide +kernel) (Or.inr rfl)
theorem f191_1121 : zft 191 1121 = some (.iload_n 3, 1) := fet B191 (by decide +kernel) (Or.inr rfl)
theorem f191_1122 : zft 191 1122 = some (.iconst 1, 1) := fet B191 (by decide +kernel) (Or.inr rfl)
theorem f191_1123 : zft 191 1123 = some (.iadd, 1) := fet B191 (by decide +kernel) (Or.inr rfl)
theorem f191_1124 : zft 191 1124 = some (.iaload, 1) := fet B191 (by decide +kernel) (Or.inr rfl)
theorem f191_1125 : zft 191 1125 = some (.aload_n 0, 1) := fet B191 (by decide +kernel) (Or.inr rfl)
theorem f191_1126 : zft 191 1126 = some (.iload_n 3, 1) := fet B191 (by decide +kernel) (Or.inr rfl)
theorem f191_1127 : zft 191 1127 = some (.iconst 2, 1) := fet B191 (by decide +kernel) (Or.inr rfl)
theorem f191_1128 : zft 191 1128 = some (.iadd, 1) := fet B191 (by decide +kernel) (Or.inr rfl)
theorem f191_1129 : zft 191 1129 = some (.iaload, 1) := fet B191 (by decide +kernel) (Or.inr rfl)
theorem f191_1130 : zft 191 1130 = some (.aload_n 0, 1) := fet B191 (by decide +kernel) (Or.inr rfl)
theorem f191_1131 : zft 191 1131 = some (.iload_n 3, 1) := fet B191 (by decide +kernel) (Or.inr rfl)
theorem f191_1132 : zft 191 1132 = some (.iconst 3, 1) := fet B191 (by decide +kernel) (Or.inr rfl)
theorem f191_1133 : zft 191 1133 = some (.iadd, 1) := fet B191 (by decide +kernel) (Or.inr rfl)
theorem f191_1134 : zft 191 1134 = some (.iaload, 1) := fet B191 (by decide +kernel) (Or.inr rfl)
theorem f191_1135 : zft 191 1135 = some (.invokevirtual 154, 3) := fet B191 (by decide +kernel) (Or.inr rfl)
theorem f191_1138 : zft 191 1138 = some (.if_icmp .eq 128, 3) := fet B191 (by decide +kernel) (Or.inr rfl)
theorem f191_1141 : zft 191 1141 = some (.iconst 0, 1) := fet B191 (by decide +kernel) (Or.inr rfl)
theorem f191_1142 : zft 191 1142 = some (.ireturn, 1) := fet B191 (by decide +kernel) (Or.inr rfl)
theorem f191_1143 : zft 191 1143 = some (.aload_n 1, 1) := fet B191 (by decide +kernel) (Or.inr rfl)
theorem f191_1144 : zft 191 1144 = some (.aload_n 0, 1) := fet B191 (by decide +kernel) (Or.inr rfl)
theorem f191_1145 : zft 191 1145 = some (.iload_n 3, 1) := fet B191 (by decide +kernel) (Or.inr rfl)
theorem f191_1146 : zft 191 1146 = some (.iconst 1, 1) := fet B191 (by decide +kernel) (Or.inr rfl)
theorem f191_1147 : zft 191 1147 = some (.iadd, 1) := fet B191 (by decide +kernel) (Or.inr rfl)
theorem f191_1148 : zft 191 1148 = some (.iaload, 1) := fet B191 (by decide +kernel) (Or.inr rfl)
theorem f191_1149 : zft 191 1149 = some (.aload_n 0, 1) := fet B191 (by decide +kernel) (Or.inr rfl)
theorem f191_1150 : zft 191 1150 = some (.iload_n 3, 1) := fet B191 (by decide +kernel) (Or.inr rfl)
theorem f191_1151 : zft 191 1151 = some (.iconst 2, 1) := fet B191 (by decide +kernel) (Or.inr rfl)
theorem f191_1152 : zft 191 1152 = some (.iadd, 1) := fet B191 (by decide +kernel) (Or.inr rfl)
theorem f191_1153 : zft 191 1153 = some (.iaload, 1) := fet B191 (by decide +kernel) (Or.inr rfl)
theorem f191_1154 : zft 191 1154 = some (.aload_n 0, 1) := fet B191 (by decide +kernel) (Or.inr rfl)
theorem f191_1155 : zft 191 1155 = some (.iload_n 3, 1) := fet B191 (by decide +kernel) (Or.inr rfl)
theorem f191_1156 : zft 191 1156 = some (.iconst 3, 1) := fet B191 (by decide +kernel) (Or.inr rfl)
theorem f191_1157 : zft 191 1157 = some (.iadd, 1) := fet B191 (by decide +kernel) (Or.inr rfl)
theorem f191_1158 : zft 191 1158 = some (.iaload, 1) := fet B191 (by decide +kernel) (Or.inr rfl)
theorem f191_1159 : zft 191 1159 = some (.aload_n 0, 1) := fet B191 (by decide +kernel) (Or.inr rfl)
theorem f191_1160 : zft 191 1160 = some (.iload_n 3, 1) := fet B191 (by decide +kernel) (Or.inr rfl)
theorem f191_1161 : zft 191 1161 = some (.iconst 4, 1) := fet B191 (by decide +kernel) (Or.inr rfl)
theorem f191_1162 : zft 191 1162 = some (.iadd, 1) := fet B191 (by decide +kernel) (Or.inr rfl)
theorem f191_1163 : zft 191 1163 = some (.iaload, 1) := fet B191 (by decide +kernel) (Or.inr rfl)
theorem f191_1164 : zft 191 1164 = some (.aload_n 0, 1) := fet B191 (by decide +kernel) (Or.inr rfl)
theorem f191_1165 : zft 191 1165 = some (.iload_n 3, 1) := fet B191 (by decide +kernel) (Or.inr rfl)
theorem f191_1166 : zft 191 1166 = some (.iconst 5, 1) := fet B191 (by decide +kernel) (Or.inr rfl)
theorem f191_1167 : zft 191 1167 = some (.iadd, 1) := fet B191 (by decide +kernel) (Or.inr rfl)
theorem f191_1168 : zft 191 1168 = some (.iaload, 1) := fet B191 (by decide +kernel) (Or.inr rfl)
theorem f191_1169 : zft 191 1169 = some (.invokevirtual 155, 3) := fet B191 (by decide +kernel) (Or.inr rfl)
theorem f191_1172 : zft 191 1172 = some (.aload_n 2, 1) := fet B191 (by decide +kernel) (Or.inr rfl)
theorem f191_1173 : zft 191 1173 = some (.aload_n 0, 1) := fet B191 (by decide +kernel) (Or.inr rfl)
theorem f191_1174 : zft 191 1174 = some (.iload_n 3, 1) := fet B191 (by decide +kernel) (Or.inr rfl)
theorem f191_1175 : zft 191 1175 = some (.iconst 1, 1) := fet B191 (by decide +kernel) (Or.inr rfl)
theorem f191_1176 : zft 191 1176 = some (.iadd, 1) := fet B191 (by decide +kernel) (Or.inr rfl)
theorem f191_1177 : zft 191 1177 = some (.iaload, 1) := fet B191 (by decide +kernel) (Or.inr rfl)
theorem f191_1178 : zft 191 1178 = some (.aload_n 0, 1) := fet B191 (by decide +kernel) (Or.inr rfl)
theorem f191_1179 : zft 191 1179 = some (.iload_n 3, 1) := fet B191 (by decide +kernel) (Or.inr rfl)
theorem f191_1180 : zft 191 1180 = some (.iconst 2, 1) := fet B191 (by decide +kernel) (Or.inr rfl)
theorem f191_1181 : zft 191 1181 = some (.iadd, 1) := fet B191 (by decide +kernel) (Or.inr rfl)
theorem f191_1182 : zft 191 1182 = some (.iaload, 1) := fet B191 (by decide +kernel) (Or.inr rfl)
theorem f191_1183 : zft 191 1183 = some (.aload_n 0, 1) := fet B191 (by decide +kernel) (Or.inr rfl)
theorem f191_1184 : zft 191 1184 = some (.iload_n 3, 1) := fet B191 (by decide +kernel) (Or.inr rfl)
theorem f191_1185 : zft 191 1185 = some (.iconst 3, 1) := fet B191 (by decide +kernel) (Or.inr rfl)
theorem f191_1186 : zft 191 1186 = some (.iadd, 1) := fet B191 (by decide +kernel) (Or.inr rfl)
theorem f191_1187 : zft 191 1187 = some (.iaload, 1) := fet B191 (by decide +kernel) (Or.inr rfl)
theorem f191_1188 : zft 191 1188 = some (.aload_n 0, 1) := fet B191 (by decide +kernel) (Or.inr rfl)
theorem f191_1189 : zft 191 1189 = some (.iload_n 3, 1) := fet B191 (by decide +kernel) (Or.inr rfl)
theorem f191_1190 : zft 191 1190 = some (.iconst 4, 1) := fet B191 (by decide +kernel) (Or.inr rfl)
theorem f191_1191 : zft 191 1191 = some (.iadd, 1) := fet B191 (by decide +kernel) (Or.inr rfl)
theorem f191_1192 : zft 191 1192 = some (.iaload, 1) := fet B191 (by decide +kernel) (Or.inr rfl)
theorem f191_1193 : zft 191 1193 = some (.aload_n 0, 1) := fet B191 (by decide +kernel) (Or.inr rfl)
theorem f191_1194 : zft 191 1194 = some (.iload_n 3, 1) := fet B191 (by decide +kernel) (Or.inr rfl)
theorem f191_1195 : zft 191 1195 = some (.iconst 5, 1) := fet B191 (by decide +kernel) (Or.inr rfl)
theorem f191_1196 : zft 191 1196 = some (.iadd, 1) := fet B191 (by decide +kernel) (Or.inr rfl)
theorem f191_1197 : zft 191 1197 = some (.iaload, 1) := fet B191 (by decide +kernel) (Or.inr rfl)
theorem f191_1198 : zft 191 1198 = some (.invokevirtual 159, 3) := fet B191 (by decide +kernel) (Or.inr rfl)
theorem f191_1201 : zft 191 1201 = some (.if_icmp .eq 65, 3) := fet B191 (by decide +kernel) (Or.inr rfl)
theorem f191_1204 : zft 191 1204 = some (.iconst 0, 1) := fet B191 (by decide +kernel) (Or.inr rfl)
theorem f191_1205 : zft 191 1205 = some (.ireturn, 1) := fet B191 (by decide +kernel) (Or.inr rfl)
theorem f191_1206 : zft 191 1206 = some (.aload_n 1, 1) := fet B191 (by decide +kernel) (Or.inr rfl)
theorem f191_1207 : zft 191 1207 = some (.aload_n 0, 1) := fet B191 (by decide +kernel) (Or.inr rfl)
theorem f191_1208 : zft 191 1208 = some (.iload_n 3, 1) := fet B191 (by decide +kernel) (Or.inr rfl)
theorem f191_1209 : zft 191 1209 = some (.iconst 1, 1) := fet B191 (by decide +kernel) (Or.inr rfl)
theorem f191_1210 : zft 191 1210 = some (.iadd, 1) := fet B191 (by decide +kernel) (Or.inr rfl)
theorem f191_1211 : zft 191 1211 = some (.iaload, 1) := fet B191 (by decide +kernel) (Or.inr rfl)
theorem f191_1212 : zft 191 1212 = some (.invokevirtual 160, 3) := fet B191 (by decide +kernel) (Or.inr rfl)
theorem f191_1215 : zft 191 1215 = some (.aload_n 2, 1) := fet B191 (by decide +kernel) (Or.inr rfl)
theorem f191_1216 : zft 191 1216 = some (.aload_n 0, 1) := fet B191 (by decide +kernel) (Or.inr rfl)
theorem f191_1217 : zft 191 1217 = some (.iload_n 3, 1) := fet B191 (by decide +kernel) (Or.inr rfl)
theorem f191_1218 : zft 191 1218 = some (.iconst 1, 1) := fet B191 (by decide +kernel) (Or.inr rfl)
theorem f191_1219 : zft 191 1219 = some (.iadd, 1) := fet B191 (by decide +kernel) (Or.inr rfl)
theorem f191_1220 : zft 191 1220 = some (.iaload, 1) := fet B191 (by decide +kernel) (Or.inr rfl)
theorem f191_1221 : zft 191 1221 = some (.invokevirtual 163, 3) := fet B191 (by decide +kernel) (Or.inr rfl)
theorem f191_1224 : zft 191 1224 = some (.if_icmp .eq 42, 3) := fet B191 (by decide +kernel) (Or.inr rfl)
theorem f191_1227 : zft 191 1227 = some (.iconst 0, 1) := fet B191 (by decide +kernel) (Or.inr rfl)
theorem f191_1228 : zft 191 1228 = some (.ireturn, 1) := fet B191 (by decide +kernel) (Or.inr rfl)
theorem f191_1229 : zft 191 1229 = some (.aload_n 1, 1) := fet B191 (by decide +kernel) (Or.inr rfl)
theorem f191_1230 : zft 191 1230 = some (.aload_n 0, 1) := fet B191 (by decide +kernel) (Or.inr rfl)
theorem f191_1231 : zft 191 1231 = some (.iload_n 3, 1) := fet B191 (by decide +kernel) (Or.inr rfl)
theorem f191_1232 : zft 191 1232 = some (.iconst 1, 1) := fet B191 (by decide +kernel) (Or.inr rfl)
theorem f191_1233 : zft 191 1233 = some (.iadd, 1) := fet B191 (by decide +kernel) (Or.inr rfl)
theorem f191_1234 : zft 191 1234 = some (.iaload, 1) := fet B191 (by decide +kernel) (Or.inr rfl)
theorem f191_1235 : zft 191 1235 = some (.invokevirtual 164, 3) := fet B191 (by decide +kernel) (Or.inr rfl)
theorem f191_1238 : zft 191 1238 = some (.aload_n 2, 1) := fet B191 (by decide +kernel) (Or.inr rfl)
theorem f191_1239 : zft 191 1239 = some (.aload_n 0, 1) := fet B191 (by decide +kernel) (Or.inr rfl)
theorem f191_1240 : zft 191 1240 = some (.iload_n 3, 1) := fet B191 (by decide +kernel) (Or.inr rfl)
theorem f191_1241 : zft 191 1241 = some (.iconst 1, 1) := fet B191 (by decide +kernel) (Or.inr rfl)
theorem f191_1242 : zft 191 1242 = some (.iadd, 1) := fet B191 (by decide +kernel) (Or.inr rfl)
theorem f191_1243 : zft 191 1243 = some (.iaload, 1) := fet B191 (by decide +kernel) (Or.inr rfl)
theorem f191_1244 : zft 191 1244 = some (.invokevirtual 167, 3) := fet B191 (by decide +kernel) (Or.inr rfl)
theorem f191_1247 : zft 191 1247 = some (.if_icmp .eq 19, 3) := fet B191 (by decide +kernel) (Or.inr rfl)
theorem f191_1250 : zft 191 1250 = some (.iconst 0, 1) := fet B191 (by decide +kernel) (Or.inr rfl)
theorem f191_1251 : zft 191 1251 = some (.ireturn, 1) := fet B191 (by decide +kernel) (Or.inr rfl)
theorem f191_1252 : zft 191 1252 = some (.aload_n 1, 1) := fet B191 (by decide +kernel) (Or.inr rfl)
theorem f191_1253 : zft 191 1253 = some (.invokevirtual 168, 3) := fet B191 (by decide +kernel) (Or.inr rfl)
theorem f191_1256 : zft 191 1256 = some (.aload_n 2, 1) := fet B191 (by decide +kernel) (Or.inr rfl)
theorem f191_1257 : zft 191 1257 = some (.invokevirtual 172, 3) := fet B191 (by decide +kernel) (Or.inr rfl)
theorem f191_1260 : zft 191 1260 = some (.lcmp, 1) := fet B191 (by decide +kernel) (Or.inr rfl)
theorem f191_1261 : zft 191 1261 = some (.ifCond .eq 5, 3) := fet B191 (by decide +kernel) (Or.inr rfl)
theorem f191_1264 : zft 191 1264 = some (.iconst 0, 1) := fet B191 (by decide +kernel) (Or.inr rfl)
theorem f191_1265 : zft 191 1265 = some (.ireturn, 1) := fet B191 (by decide +kernel) (Or.inr rfl)
theorem f191_1266 : zft 191 1266 = some (.iinc 3 6, 3) := fet B191 (by decide +kernel) (Or.inr rfl)
theorem f191_1269 : zft 191 1269 = some (.goto (-1251), 3) := fet B191 (by decide +kernel) (Or.inr rfl)
theorem f191_1272 : zft 191 1272 = some (.iconst 1, 1) := fet B191 (by decide +kernel) (Or.inr rfl)
theorem f191_1273 : zft 191 1273 = some (.ireturn, 1) := fet B191 (by decide +kernel) (Or.inr rfl)
theorem x191_3i : Rn S 191 3 [v0, v1, v2, v3] (.int a :: st) I J Q = Rn S 191 4 [v0, v1, v2, v3] (.int a :: .int a :: st) I J Q := rS f191_3 rfl
theorem x191_3r : Rn S 191 3 [v0, v1, v2, v3] (.ref q :: st) I J Q = Rn S 191 4 [v0, v1, v2, v3] (.ref q :: .ref q :: st) I J Q := rS f191_3 rfl
theorem x191_7 : Rn S 191 7 [v0, v1, v2, v3] (.ref q :: st) I J Q = Rn S 191 8 [zkl v0, .ref q, v2, v3] st I J Q := rL f191_7 rfl rfl
theorem x191_11i : Rn S 191 11 [v0, v1, v2, v3] (.int a :: st) I J Q = Rn S 191 12 [v0, v1, v2, v3] (.int a :: .int a :: st) I J Q := rS f191_11 rfl
theorem x191_11r : Rn S 191 11 [v0, v1, v2, v3] (.ref q :: st) I J Q = Rn S 191 12 [v0, v1, v2, v3] (.ref q :: .ref q :: st) I J Q := rS f191_11 rfl
theorem x191_15 : Rn S 191 15 [v0, v1, v2, v3] (.ref q :: st) I J Q = Rn S 191 16 [v0, zkl v1, .ref q, v3] st I J Q := rL f191_15 rfl rfl
theorem x191_16 : Rn S 191 16 [v0, v1, v2, v3] st I J Q = Rn S 191 17 [v0, v1, v2, v3] (.int 0 :: st) I J Q := rS f191_16 rfl
theorem x191_17 : Rn S 191 17 [v0, v1, v2, v3] (.int a :: st) I J Q = Rn S 191 18 [v0, v1, zkl v2, .int a] st I J Q := rL f191_17 rfl rfl
theorem h191_18 : Rn S 191 18 [v0, v1, v2, .int a] st I J Q = Rn S 191 19 [v0, v1, v2, .int a] (.int a :: st) I J Q := rL f191_18 rfl rfl
theorem x191_19 : Rn S 191 19 [.ref q, v1, v2, v3] st I J Q = Rn S 191 20 [.ref q, v1, v2, v3] (.ref q :: st) I J Q := rL f191_19 rfl rfl
theorem x191_20 : Rn S 191 20 [v0, v1, v2, v3] (.ref q :: st) I J Q = (¬ zkd S q = 99 ∧ Rn S 191 21 [v0, v1, v2, v3] (.int (Int32.ofNat (zln S q)) :: st) I J Q) := rAln f191_20
theorem x191_21 : Rn S 191 21 [v0, v1, v2, v3] st I J Q = Rn S 191 23 [v0, v1, v2, v3] (.int 6 :: st) I J Q := rS f191_21 rfl
theorem x191_23 : Rn S 191 23 [v0, v1, v2, v3] (.int b :: .int a :: st) I J Q = Rn S 191 24 [v0, v1, v2, v3] (.int (a - b) :: st) I J Q := rS f191_23 rfl
theorem x191_24 : Rn S 191 24 [v0, v1, v2, v3] (.int b :: .int a :: st) I J Q = if b < a then Rn S 191 1272 [v0, v1, v2, v3] st I J Q else Rn S 191 27 [v0, v1, v2, v3] st I J Q := rCgt f191_24 rfl rfl
theorem x191_27 : Rn S 191 27 [.ref q, v1, v2, v3] st I J Q = Rn S 191 28 [.ref q, v1, v2, v3] (.ref q :: st) I J Q := rL f191_27 rfl rfl
theorem x191_28 : Rn S 191 28 [v0, v1, v2, .int a] st I J Q = Rn S 191 29 [v0, v1, v2, .int a] (.int a :: st) I J Q := rL f191_28 rfl rfl
theorem x191_29 : Rn S 191 29 [v0, v1, v2, v3] (.int a :: .ref q :: st) I J Q = (zai S q a ∧ Rn S 191 30 [v0, v1, v2, v3] (.int (I q a.toNatClampNeg) :: st) I J Q) := rIal f191_29
theorem x191_30 : Rn S 191 30 [v0, v1, v2, v3] st I J Q = Rn S 191 32 [v0, v1, v2, v3] (.int 63 :: st) I J Q := rS f191_30 rfl
theorem x191_32 : Rn S 191 32 [v0, v1, v2, v3] (.int b :: .int a :: st) I J Q = Rn S 191 33 [v0, v1, v2, v3] (.int (a &&& b) :: st) I J Q := rS f191_32 rfl
theorem x191_33 : Rn S 191 33 [v0, v1, v2, v3] (.int a :: st) I J Q = Rn S 191 (ztb 1266 a [200, 233, 256, 279, 302, 335, 368, 401, 424, 467, 480, 503, 536, 569, 602, 625, 638, 651, 674, 697, 710, 733, 756, 799, 812, 825, 848, 871, 894, 938, 981, 1024, 1047, 1100, 1143, 1206, 1229, 1252] 0) [v0, v1, v2, v3] st I J Q := rTb f191_33 rfl (by decide +kernel) (by decide +kernel)
theorem x191_200 : Rn S 191 200 [v0, .ref q, v2, v3] st I J Q = Rn S 191 201 [v0, .ref q, v2, v3] (.ref q :: st) I J Q := rL f191_200 rfl rfl
theorem x191_201 : Rn S 191 201 [.ref q, v1, v2, v3] st I J Q = Rn S 191 202 [.ref q, v1, v2, v3] (.ref q :: st) I J Q := rL f191_201 rfl rfl
theorem x191_202 : Rn S 191 202 [v0, v1, v2, .int a] st I J Q = Rn S 191 203 [v0, v1, v2, .int a] (.int a :: st) I J Q := rL f191_202 rfl rfl
theorem x191_203 : Rn S 191 203 [v0, v1, v2, v3] st I J Q = Rn S 191 204 [v0, v1, v2, v3] (.int 1 :: st) I J Q := rS f191_203 rfl
theorem x191_204 : Rn S 191 204 [v0, v1, v2, v3] (.int b :: .int a :: st) I J Q = Rn S 191 205 [v0, v1, v2, v3] (.int (a + b) :: st) I J Q := rS f191_204 rfl
theorem x191_205 : Rn S 191 205 [v0, v1, v2, v3] (.int a :: .ref q :: st) I J Q = (zai S q a ∧ Rn S 191 206 [v0, v1, v2, v3] (.int (I q a.toNatClampNeg) :: st) I J Q) := rIal f191_205
theorem x191_206 : Rn S 191 206 [.ref q, v1, v2, v3] st I J Q = Rn S 191 207 [.ref q, v1, v2, v3] (.ref q :: st) I J Q := rL f191_206 rfl rfl
theorem x191_207 : Rn S 191 207 [v0, v1, v2, .int a] st I J Q = Rn S 191 208 [v0, v1, v2, .int a] (.int a :: st) I J Q := rL f191_207 rfl rfl
theorem x191_208 : Rn S 191 208 [v0, v1, v2, v3] st I J Q = Rn S 191 209 [v0, v1, v2, v3] (.int 2 :: st) I J Q := rS f191_208 rfl
theorem x191_209 : Rn S 191 209 [v0, v1, v2, v3] (.int b :: .int a :: st) I J Q = Rn S 191 210 [v0, v1, v2, v3] (.int (a + b) :: st) I J Q := rS f191_209 rfl
theorem x191_210 : Rn S 191 210 [v0, v1, v2, v3] (.int a :: .ref q :: st) I J Q = (zai S q a ∧ Rn S 191 211 [v0, v1, v2, v3] (.int (I q a.toNatClampNeg) :: st) I J Q) := rIal f191_210
theorem x191_211 : Rn S 191 211 [v0, v1, v2, v3] (.int a1 :: .int a0 :: .ref q :: st) I J Q = ((zcls S q = 5 ∧ zcs st ≤ 8) ∧ Rn S 37 0 [.ref q, .int a0, .int a1, .null] [] I J (fun v I' J' => Rn S 191 214 [v0, v1, v2, v3] (v.toList ++ st) I' J' Q)) := rCV (As := [.int a0, .int a1]) f191_211 rfl rfl rfl rfl (Nat.le_of_ble_eq_true rfl)
theorem x191_214 : Rn S 191 214 [v0, v1, .ref q, v3] st I J Q = Rn S 191 215 [v0, v1, .ref q, v3] (.ref q :: st) I J Q := rL f191_214 rfl rfl
theorem x191_215 : Rn S 191 215 [.ref q, v1, v2, v3] st I J Q = Rn S 191 216 [.ref q, v1, v2, v3] (.ref q :: st) I J Q := rL f191_215 rfl rfl
theorem x191_216 : Rn S 191 216 [v0, v1, v2, .int a] st I J Q = Rn S 191 217 [v0, v1, v2, .int a] (.int a :: st) I J Q := rL f191_216 rfl rfl
theorem x191_217 : Rn S 191 217 [v0, v1, v2, v3] st I J Q = Rn S 191 218 [v0, v1, v2, v3] (.int 1 :: st) I J Q := rS f191_217 rfl
theorem x191_218 : Rn S 191 218 [v0, v1, v2, v3] (.int b :: .int a :: st) I J Q = Rn S 191 219 [v0, v1, v2, v3] (.int (a + b) :: st) I J Q := rS f191_218 rfl
theorem x191_219 : Rn S 191 219 [v0, v1, v2, v3] (.int a :: .ref q :: st) I J Q = (zai S q a ∧ Rn S 191 220 [v0, v1, v2, v3] (.int (I q a.toNatClampNeg) :: st) I J Q) := rIal f191_219
theorem x191_220 : Rn S 191 220 [.ref q, v1, v2, v3] st I J Q = Rn S 191 221 [.ref q, v1, v2, v3] (.ref q :: st) I J Q := rL f191_220 rfl rfl
theorem x191_221 : Rn S 191 221 [v0, v1, v2, .int a] st I J Q = Rn S 191 222 [v0, v1, v2, .int a] (.int a :: st) I J Q := rL f191_221 rfl rfl
theorem x191_222 : Rn S 191 222 [v0, v1, v2, v3] st I J Q = Rn S 191 223 [v0, v1, v2, v3] (.int 2 :: st) I J Q := rS f191_222 rfl
theorem x191_223 : Rn S 191 223 [v0, v1, v2, v3] (.int b :: .int a :: st) I J Q = Rn S 191 224 [v0, v1, v2, v3] (.int (a + b) :: st) I J Q := rS f191_223 rfl
theorem x191_224 : Rn S 191 224 [v0, v1, v2, v3] (.int a :: .ref q :: st) I J Q = (zai S q a ∧ Rn S 191 225 [v0, v1, v2, v3] (.int (I q a.toNatClampNeg) :: st) I J Q) := rIal f191_224
theorem x191_225 : Rn S 191 225 [v0, v1, v2, v3] (.int a1 :: .int a0 :: .ref q :: st) I J Q = ((zcls S q = 6 ∧ zcs st ≤ 8) ∧ Rn S 114 0 [.ref q, .int a0, .int a1] [] I J (fun v I' J' => Rn S 191 228 [v0, v1, v2, v3] (v.toList ++ st) I' J' Q)) := rCV (As := [.int a0, .int a1]) f191_225 rfl rfl rfl rfl (Nat.le_of_ble_eq_true rfl)
theorem x191_228 : Rn S 191 228 [v0, v1, v2, v3] (.int b :: .int a :: st) I J Q = if a = b then Rn S 191 1266 [v0, v1, v2, v3] st I J Q else Rn S 191 231 [v0, v1, v2, v3] st I J Q := rCeq f191_228 rfl rfl
theorem x191_231 : Rn S 191 231 [v0, v1, v2, v3] st I J Q = Rn S 191 232 [v0, v1, v2, v3] (.int 0 :: st) I J Q := rS f191_231 rfl
theorem x191_232 : Rn S 191 232 [v0, v1, v2, v3] [.int a] I J Q = ((a = 0 ∨ a = 1) ∧ Q (some (.int a)) I J) := rRZ f191_232 rfl
theorem x191_233 : Rn S 191 233 [v0, .ref q, v2, v3] st I J Q = Rn S 191 234 [v0, .ref q, v2, v3] (.ref q :: st) I J Q := rL f191_233 rfl rfl
theorem x191_234 : Rn S 191 234 [.ref q, v1, v2, v3] st I J Q = Rn S 191 235 [.ref q, v1, v2, v3] (.ref q :: st) I J Q := rL f191_234 rfl rfl
theorem x191_235 : Rn S 191 235 [v0, v1, v2, .int a] st I J Q = Rn S 191 236 [v0, v1, v2, .int a] (.int a :: st) I J Q := rL f191_235 rfl rfl
theorem x191_236 : Rn S 191 236 [v0, v1, v2, v3] st I J Q = Rn S 191 237 [v0, v1, v2, v3] (.int 1 :: st) I J Q := rS f191_236 rfl
theorem x191_237 : Rn S 191 237 [v0, v1, v2, v3] (.int b :: .int a :: st) I J Q = Rn S 191 238 [v0, v1, v2, v3] (.int (a + b) :: st) I J Q := rS f191_237 rfl
theorem x191_238 : Rn S 191 238 [v0, v1, v2, v3] (.int a :: .ref q :: st) I J Q = (zai S q a ∧ Rn S 191 239 [v0, v1, v2, v3] (.int (I q a.toNatClampNeg) :: st) I J Q) := rIal f191_238
theorem x191_239 : Rn S 191 239 [v0, v1, v2, v3] (.int a0 :: .ref q :: st) I J Q = ((zcls S q = 5 ∧ zcs st ≤ 8) ∧ Rn S 38 0 [.ref q, .int a0, .null] [] I J (fun v I' J' => Rn S 191 242 [v0, v1, v2, v3] (v.toList ++ st) I' J' Q)) := rCV (As := [.int a0]) f191_239 rfl rfl rfl rfl (Nat.le_of_ble_eq_true rfl)
theorem x191_242 : Rn S 191 242 [v0, v1, .ref q, v3] st I J Q = Rn S 191 243 [v0, v1, .ref q, v3] (.ref q :: st) I J Q := rL f191_242 rfl rfl
theorem x191_243 : Rn S 191 243 [.ref q, v1, v2, v3] st I J Q = Rn S 191 244 [.ref q, v1, v2, v3] (.ref q :: st) I J Q := rL f191_243 rfl rfl
theorem x191_244 : Rn S 191 244 [v0, v1, v2, .int a] st I J Q = Rn S 191 245 [v0, v1, v2, .int a] (.int a :: st) I J Q := rL f191_244 rfl rfl
theorem x191_245 : Rn S 191 245 [v0, v1, v2, v3] st I J Q = Rn S 191 246 [v0, v1, v2, v3] (.int 1 :: st) I J Q := rS f191_245 rfl
theorem x191_246 : Rn S 191 246 [v0, v1, v2, v3] (.int b :: .int a :: st) I J Q = Rn S 191 247 [v0, v1, v2, v3] (.int (a + b) :: st) I J Q := rS f191_246 rfl
theorem x191_247 : Rn S 191 247 [v0, v1, v2, v3] (.int a :: .ref q :: st) I J Q = (zai S q a ∧ Rn S 191 248 [v0, v1, v2, v3] (.int (I q a.toNatClampNeg) :: st) I J Q) := rIal f191_247
theorem x191_248 : Rn S 191 248 [v0, v1, v2, v3] (.int a0 :: .ref q :: st) I J Q = ((zcls S q = 6 ∧ zcs st ≤ 8) ∧ Rn S 115 0 [.ref q, .int a0, .null] [] I J (fun v I' J' => Rn S 191 251 [v0, v1, v2, v3] (v.toList ++ st) I' J' Q)) := rCV (As := [.int a0]) f191_248 rfl rfl rfl rfl (Nat.le_of_ble_eq_true rfl)
theorem x191_251 : Rn S 191 251 [v0, v1, v2, v3] (.int b :: .int a :: st) I J Q = if a = b then Rn S 191 1266 [v0, v1, v2, v3] st I J Q else Rn S 191 254 [v0, v1, v2, v3] st I J Q := rCeq f191_251 rfl rfl
theorem x191_254 : Rn S 191 254 [v0, v1, v2, v3] st I J Q = Rn S 191 255 [v0, v1, v2, v3] (.int 0 :: st) I J Q := rS f191_254 rfl
theorem x191_255 : Rn S 191 255 [v0, v1, v2, v3] [.int a] I J Q = ((a = 0 ∨ a = 1) ∧ Q (some (.int a)) I J) := rRZ f191_255 rfl
theorem x191_256 : Rn S 191 256 [v0, .ref q, v2, v3] st I J Q = Rn S 191 257 [v0, .ref q, v2, v3] (.ref q :: st) I J Q := rL f191_256 rfl rfl
theorem x191_257 : Rn S 191 257 [.ref q, v1, v2, v3] st I J Q = Rn S 191 258 [.ref q, v1, v2, v3] (.ref q :: st) I J Q := rL f191_257 rfl rfl
theorem x191_258 : Rn S 191 258 [v0, v1, v2, .int a] st I J Q = Rn S 191 259 [v0, v1, v2, .int a] (.int a :: st) I J Q := rL f191_258 rfl rfl
theorem x191_259 : Rn S 191 259 [v0, v1, v2, v3] st I J Q = Rn S 191 260 [v0, v1, v2, v3] (.int 1 :: st) I J Q := rS f191_259 rfl
theorem x191_260 : Rn S 191 260 [v0, v1, v2, v3] (.int b :: .int a :: st) I J Q = Rn S 191 261 [v0, v1, v2, v3] (.int (a + b) :: st) I J Q := rS f191_260 rfl
theorem x191_261 : Rn S 191 261 [v0, v1, v2, v3] (.int a :: .ref q :: st) I J Q = (zai S q a ∧ Rn S 191 262 [v0, v1, v2, v3] (.int (I q a.toNatClampNeg) :: st) I J Q) := rIal f191_261
theorem x191_262 : Rn S 191 262 [v0, v1, v2, v3] (.int a0 :: .ref q :: st) I J Q = ((zcls S q = 5 ∧ zcs st ≤ 8) ∧ Rn S 39 0 [.ref q, .int a0, .null] [] I J (fun v I' J' => Rn S 191 265 [v0, v1, v2, v3] (v.toList ++ st) I' J' Q)) := rCV (As := [.int a0]) f191_262 rfl rfl rfl rfl (Nat.le_of_ble_eq_true rfl)
theorem x191_265 : Rn S 191 265 [v0, v1, .ref q, v3] st I J Q = Rn S 191 266 [v0, v1, .ref q, v3] (.ref q :: st) I J Q := rL f191_265 rfl rfl
theorem x191_266 : Rn S 191 266 [.ref q, v1, v2, v3] st I J Q = Rn S 191 267 [.ref q, v1, v2, v3] (.ref q :: st) I J Q := rL f191_266 rfl rfl
theorem x191_267 : Rn S 191 267 [v0, v1, v2, .int a] st I J Q = Rn S 191 268 [v0, v1, v2, .int a] (.int a :: st) I J Q := rL f191_267 rfl rfl
theorem x191_268 : Rn S 191 268 [v0, v1, v2, v3] st I J Q = Rn S 191 269 [v0, v1, v2, v3] (.int 1 :: st) I J Q := rS f191_268 rfl
theorem x191_269 : Rn S 191 269 [v0, v1, v2, v3] (.int b :: .int a :: st) I J Q = Rn S 191 270 [v0, v1, v2, v3] (.int (a + b) :: st) I J Q := rS f191_269 rfl
theorem x191_270 : Rn S 191 270 [v0, v1, v2, v3] (.int a :: .ref q :: st) I J Q = (zai S q a ∧ Rn S 191 271 [v0, v1, v2, v3] (.int (I q a.toNatClampNeg) :: st) I J Q) := rIal f191_270
theorem x191_271 : Rn S 191 271 [v0, v1, v2, v3] (.int a0 :: .ref q :: st) I J Q = ((zcls S q = 6 ∧ zcs st ≤ 8) ∧ Rn S 116 0 [.ref q, .int a0] [] I J (fun v I' J' => Rn S 191 274 [v0, v1, v2, v3] (v.toList ++ st) I' J' Q)) := rCV (As := [.int a0]) f191_271 rfl rfl rfl rfl (Nat.le_of_ble_eq_true rfl)
theorem x191_274 : Rn S 191 274 [v0, v1, v2, v3] (.int b :: .int a :: st) I J Q = if a = b then Rn S 191 1266 [v0, v1, v2, v3] st I J Q else Rn S 191 277 [v0, v1, v2, v3] st I J Q := rCeq f191_274 rfl rfl
theorem x191_277 : Rn S 191 277 [v0, v1, v2, v3] st I J Q = Rn S 191 278 [v0, v1, v2, v3] (.int 0 :: st) I J Q := rS f191_277 rfl
theorem x191_278 : Rn S 191 278 [v0, v1, v2, v3] [.int a] I J Q = ((a = 0 ∨ a = 1) ∧ Q (some (.int a)) I J) := rRZ f191_278 rfl
theorem x191_279 : Rn S 191 279 [v0, .ref q, v2, v3] st I J Q = Rn S 191 280 [v0, .ref q, v2, v3] (.ref q :: st) I J Q := rL f191_279 rfl rfl
theorem x191_280 : Rn S 191 280 [.ref q, v1, v2, v3] st I J Q = Rn S 191 281 [.ref q, v1, v2, v3] (.ref q :: st) I J Q := rL f191_280 rfl rfl
theorem x191_281 : Rn S 191 281 [v0, v1, v2, .int a] st I J Q = Rn S 191 282 [v0, v1, v2, .int a] (.int a :: st) I J Q := rL f191_281 rfl rfl
theorem x191_282 : Rn S 191 282 [v0, v1, v2, v3] st I J Q = Rn S 191 283 [v0, v1, v2, v3] (.int 1 :: st) I J Q := rS f191_282 rfl
theorem x191_283 : Rn S 191 283 [v0, v1, v2, v3] (.int b :: .int a :: st) I J Q = Rn S 191 284 [v0, v1, v2, v3] (.int (a + b) :: st) I J Q := rS f191_283 rfl
theorem x191_284 : Rn S 191 284 [v0, v1, v2, v3] (.int a :: .ref q :: st) I J Q = (zai S q a ∧ Rn S 191 285 [v0, v1, v2, v3] (.int (I q a.toNatClampNeg) :: st) I J Q) := rIal f191_284
theorem x191_285 : Rn S 191 285 [v0, v1, v2, v3] (.int a0 :: .ref q :: st) I J Q = ((zcls S q = 5 ∧ zcs st ≤ 8) ∧ Rn S 40 0 [.ref q, .int a0] [] I J (fun v I' J' => Rn S 191 288 [v0, v1, v2, v3] (v.toList ++ st) I' J' Q)) := rCV (As := [.int a0]) f191_285 rfl rfl rfl rfl (Nat.le_of_ble_eq_true rfl)
theorem x191_288 : Rn S 191 288 [v0, v1, .ref q, v3] st I J Q = Rn S 191 289 [v0, v1, .ref q, v3] (.ref q :: st) I J Q := rL f191_288 rfl rfl
theorem x191_289 : Rn S 191 289 [.ref q, v1, v2, v3] st I J Q = Rn S 191 290 [.ref q, v1, v2, v3] (.ref q :: st) I J Q := rL f191_289 rfl rfl
theorem x191_290 : Rn S 191 290 [v0, v1, v2, .int a] st I J Q = Rn S 191 291 [v0, v1, v2, .int a] (.int a :: st) I J Q := rL f191_290 rfl rfl
theorem x191_291 : Rn S 191 291 [v0, v1, v2, v3] st I J Q = Rn S 191 292 [v0, v1, v2, v3] (.int 1 :: st) I J Q := rS f191_291 rfl
theorem x191_292 : Rn S 191 292 [v0, v1, v2, v3] (.int b :: .int a :: st) I J Q = Rn S 191 293 [v0, v1, v2, v3] (.int (a + b) :: st) I J Q := rS f191_292 rfl
theorem x191_293 : Rn S 191 293 [v0, v1, v2, v3] (.int a :: .ref q :: st) I J Q = (zai S q a ∧ Rn S 191 294 [v0, v1, v2, v3] (.int (I q a.toNatClampNeg) :: st) I J Q) := rIal f191_293
theorem x191_294 : Rn S 191 294 [v0, v1, v2, v3] (.int a0 :: .ref q :: st) I J Q = ((zcls S q = 6 ∧ zcs st ≤ 8) ∧ Rn S 125 0 [.ref q, .int a0] [] I J (fun v I' J' => Rn S 191 297 [v0, v1, v2, v3] (v.toList ++ st) I' J' Q)) := rCV (As := [.int a0]) f191_294 rfl rfl rfl rfl (Nat.le_of_ble_eq_true rfl)
theorem x191_297 : Rn S 191 297 [v0, v1, v2, v3] (.int b :: .int a :: st) I J Q = if a = b then Rn S 191 1266 [v0, v1, v2, v3] st I J Q else Rn S 191 300 [v0, v1, v2, v3] st I J Q := rCeq f191_297 rfl rfl
theorem x191_300 : Rn S 191 300 [v0, v1, v2, v3] st I J Q = Rn S 191 301 [v0, v1, v2, v3] (.int 0 :: st) I J Q := rS f191_300 rfl
theorem x191_301 : Rn S 191 301 [v0, v1, v2, v3] [.int a] I J Q = ((a = 0 ∨ a = 1) ∧ Q (some (.int a)) I J) := rRZ f191_301 rfl
theorem x191_302 : Rn S 191 302 [v0, .ref q, v2, v3] st I J Q = Rn S 191 303 [v0, .ref q, v2, v3] (.ref q :: st) I J Q := rL f191_302 rfl rfl
theorem x191_303 : Rn S 191 303 [.ref q, v1, v2, v3] st I J Q = Rn S 191 304 [.ref q, v1, v2, v3] (.ref q :: st) I J Q := rL f191_303 rfl rfl
theorem x191_304 : Rn S 191 304 [v0, v1, v2, .int a] st I J Q = Rn S 191 305 [v0, v1, v2, .int a] (.int a :: st) I J Q := rL f191_304 rfl rfl
theorem x191_305 : Rn S 191 305 [v0, v1, v2, v3] st I J Q = Rn S 191 306 [v0, v1, v2, v3] (.int 1 :: st) I J Q := rS f191_305 rfl
theorem x191_306 : Rn S 191 306 [v0, v1, v2, v3] (.int b :: .int a :: st) I J Q = Rn S 191 307 [v0, v1, v2, v3] (.int (a + b) :: st) I J Q := rS f191_306 rfl
theorem x191_307 : Rn S 191 307 [v0, v1, v2, v3] (.int a :: .ref q :: st) I J Q = (zai S q a ∧ Rn S 191 308 [v0, v1, v2, v3] (.int (I q a.toNatClampNeg) :: st) I J Q) := rIal f191_307
theorem x191_308 : Rn S 191 308 [.ref q, v1, v2, v3] st I J Q = Rn S 191 309 [.ref q, v1, v2, v3] (.ref q :: st) I J Q := rL f191_308 rfl rfl
theorem x191_309 : Rn S 191 309 [v0, v1, v2, .int a] st I J Q = Rn S 191 310 [v0, v1, v2, .int a] (.int a :: st) I J Q := rL f191_309 rfl rfl
theorem x191_310 : Rn S 191 310 [v0, v1, v2, v3] st I J Q = Rn S 191 311 [v0, v1, v2, v3] (.int 2 :: st) I J Q := rS f191_310 rfl
theorem x191_311 : Rn S 191 311 [v0, v1, v2, v3] (.int b :: .int a :: st) I J Q = Rn S 191 312 [v0, v1, v2, v3] (.int (a + b) :: st) I J Q := rS f191_311 rfl
theorem x191_312 : Rn S 191 312 [v0, v1, v2, v3] (.int a :: .ref q :: st) I J Q = (zai S q a ∧ Rn S 191 313 [v0, v1, v2, v3] (.int (I q a.toNatClampNeg) :: st) I J Q) := rIal f191_312
theorem x191_313 : Rn S 191 313 [v0, v1, v2, v3] (.int a1 :: .int a0 :: .ref q :: st) I J Q = ((zcls S q = 5 ∧ zcs st ≤ 8) ∧ Rn S 41 0 [.ref q, .int a0, .int a1, .null] [] I J (fun v I' J' => Rn S 191 316 [v0, v1, v2, v3] (v.toList ++ st) I' J' Q)) := rCV (As := [.int a0, .int a1]) f191_313 rfl rfl rfl rfl (Nat.le_of_ble_eq_true rfl)
theorem x191_316 : Rn S 191 316 [v0, v1, .ref q, v3] st I J Q = Rn S 191 317 [v0, v1, .ref q, v3] (.ref q :: st) I J Q := rL f191_316 rfl rfl
theorem x191_317 : Rn S 191 317 [.ref q, v1, v2, v3] st I J Q = Rn S 191 318 [.ref q, v1, v2, v3] (.ref q :: st) I J Q := rL f191_317 rfl rfl
theorem x191_318 : Rn S 191 318 [v0, v1, v2, .int a] st I J Q = Rn S 191 319 [v0, v1, v2, .int a] (.int a :: st) I J Q := rL f191_318 rfl rfl
theorem x191_319 : Rn S 191 319 [v0, v1, v2, v3] st I J Q = Rn S 191 320 [v0, v1, v2, v3] (.int 1 :: st) I J Q := rS f191_319 rfl
theorem x191_320 : Rn S 191 320 [v0, v1, v2, v3] (.int b :: .int a :: st) I J Q = Rn S 191 321 [v0, v1, v2, v3] (.int (a + b) :: st) I J Q := rS f191_320 rfl
theorem x191_321 : Rn S 191 321 [v0, v1, v2, v3] (.int a :: .ref q :: st) I J Q = (zai S q a ∧ Rn S 191 322 [v0, v1, v2, v3] (.int (I q a.toNatClampNeg) :: st) I J Q) := rIal f191_321
theorem x191_322 : Rn S 191 322 [.ref q, v1, v2, v3] st I J Q = Rn S 191 323 [.ref q, v1, v2, v3] (.ref q :: st) I J Q := rL f191_322 rfl rfl
theorem x191_323 : Rn S 191 323 [v0, v1, v2, .int a] st I J Q = Rn S 191 324 [v0, v1, v2, .int a] (.int a :: st) I J Q := rL f191_323 rfl rfl
theorem x191_324 : Rn S 191 324 [v0, v1, v2, v3] st I J Q = Rn S 191 325 [v0, v1, v2, v3] (.int 2 :: st) I J Q := rS f191_324 rfl
theorem x191_325 : Rn S 191 325 [v0, v1, v2, v3] (.int b :: .int a :: st) I J Q = Rn S 191 326 [v0, v1, v2, v3] (.int (a + b) :: st) I J Q := rS f191_325 rfl
theorem x191_326 : Rn S 191 326 [v0, v1, v2, v3] (.int a :: .ref q :: st) I J Q = (zai S q a ∧ Rn S 191 327 [v0, v1, v2, v3] (.int (I q a.toNatClampNeg) :: st) I J Q) := rIal f191_326
theorem x191_327 : Rn S 191 327 [v0, v1, v2, v3] (.int a1 :: .int a0 :: .ref q :: st) I J Q = ((zcls S q = 6 ∧ zcs st ≤ 8) ∧ Rn S 130 0 [.ref q, .int a0, .int a1] [] I J (fun v I' J' => Rn S 191 330 [v0, v1, v2, v3] (v.toList ++ st) I' J' Q)) := rCV (As := [.int a0, .int a1]) f191_327 rfl rfl rfl rfl (Nat.le_of_ble_eq_true rfl)
theorem x191_330 : Rn S 191 330 [v0, v1, v2, v3] (.int b :: .int a :: st) I J Q = if a = b then Rn S 191 1266 [v0, v1, v2, v3] st I J Q else Rn S 191 333 [v0, v1, v2, v3] st I J Q := rCeq f191_330 rfl rfl
theorem x191_333 : Rn S 191 333 [v0, v1, v2, v3] st I J Q = Rn S 191 334 [v0, v1, v2, v3] (.int 0 :: st) I J Q := rS f191_333 rfl
theorem x191_334 : Rn S 191 334 [v0, v1, v2, v3] [.int a] I J Q = ((a = 0 ∨ a = 1) ∧ Q (some (.int a)) I J) := rRZ f191_334 rfl
theorem x191_335 : Rn S 191 335 [v0, .ref q, v2, v3] st I J Q = Rn S 191 336 [v0, .ref q, v2, v3] (.ref q :: st) I J Q := rL f191_335 rfl rfl
theorem x191_336 : Rn S 191 336 [.ref q, v1, v2, v3] st I J Q = Rn S 191 337 [.ref q, v1, v2, v3] (.ref q :: st) I J Q := rL f191_336 rfl rfl
theorem x191_337 : Rn S 191 337 [v0, v1, v2, .int a] st I J Q = Rn S 191 338 [v0, v1, v2, .int a] (.int a :: st) I J Q := rL f191_337 rfl rfl
theorem x191_338 : Rn S 191 338 [v0, v1, v2, v3] st I J Q = Rn S 191 339 [v0, v1, v2, v3] (.int 1 :: st) I J Q := rS f191_338 rfl
theorem x191_339 : Rn S 191 339 [v0, v1, v2, v3] (.int b :: .int a :: st) I J Q = Rn S 191 340 [v0, v1, v2, v3] (.int (a + b) :: st) I J Q := rS f191_339 rfl
theorem x191_340 : Rn S 191 340 [v0, v1, v2, v3] (.int a :: .ref q :: st) I J Q = (zai S q a ∧ Rn S 191 341 [v0, v1, v2, v3] (.int (I q a.toNatClampNeg) :: st) I J Q) := rIal f191_340
theorem x191_341 : Rn S 191 341 [.ref q, v1, v2, v3] st I J Q = Rn S 191 342 [.ref q, v1, v2, v3] (.ref q :: st) I J Q := rL f191_341 rfl rfl
theorem x191_342 : Rn S 191 342 [v0, v1, v2, .int a] st I J Q = Rn S 191 343 [v0, v1, v2, .int a] (.int a :: st) I J Q := rL f191_342 rfl rfl
theorem x191_343 : Rn S 191 343 [v0, v1, v2, v3] st I J Q = Rn S 191 344 [v0, v1, v2, v3] (.int 2 :: st) I J Q := rS f191_343 rfl
theorem x191_344 : Rn S 191 344 [v0, v1, v2, v3] (.int b :: .int a :: st) I J Q = Rn S 191 345 [v0, v1, v2, v3] (.int (a + b) :: st) I J Q := rS f191_344 rfl
theorem x191_345 : Rn S 191 345 [v0, v1, v2, v3] (.int a :: .ref q :: st) I J Q = (zai S q a ∧ Rn S 191 346 [v0, v1, v2, v3] (.int (I q a.toNatClampNeg) :: st) I J Q) := rIal f191_345
theorem x191_346 : Rn S 191 346 [v0, v1, v2, v3] (.int a1 :: .int a0 :: .ref q :: st) I J Q = ((zcls S q = 5 ∧ zcs st ≤ 8) ∧ Rn S 42 0 [.ref q, .int a0, .int a1] [] I J (fun v I' J' => Rn S 191 349 [v0, v1, v2, v3] (v.toList ++ st) I' J' Q)) := rCV (As := [.int a0, .int a1]) f191_346 rfl rfl rfl rfl (Nat.le_of_ble_eq_true rfl)
theorem x191_349 : Rn S 191 349 [v0, v1, .ref q, v3] st I J Q = Rn S 191 350 [v0, v1, .ref q, v3] (.ref q :: st) I J Q := rL f191_349 rfl rfl
theorem x191_350 : Rn S 191 350 [.ref q, v1, v2, v3] st I J Q = Rn S 191 351 [.ref q, v1, v2, v3] (.ref q :: st) I J Q := rL f191_350 rfl rfl
theorem x191_351 : Rn S 191 351 [v0, v1, v2, .int a] st I J Q = Rn S 191 352 [v0, v1, v2, .int a] (.int a :: st) I J Q := rL f191_351 rfl rfl
theorem x191_352 : Rn S 191 352 [v0, v1, v2, v3] st I J Q = Rn S 191 353 [v0, v1, v2, v3] (.int 1 :: st) I J Q := rS f191_352 rfl
theorem x191_353 : Rn S 191 353 [v0, v1, v2, v3] (.int b :: .int a :: st) I J Q = Rn S 191 354 [v0, v1, v2, v3] (.int (a + b) :: st) I J Q := rS f191_353 rfl
theorem x191_354 : Rn S 191 354 [v0, v1, v2, v3] (.int a :: .ref q :: st) I J Q = (zai S q a ∧ Rn S 191 355 [v0, v1, v2, v3] (.int (I q a.toNatClampNeg) :: st) I J Q) := rIal f191_354
theorem x191_355 : Rn S 191 355 [.ref q, v1, v2, v3] st I J Q = Rn S 191 356 [.ref q, v1, v2, v3] (.ref q :: st) I J Q := rL f191_355 rfl rfl
theorem x191_356 : Rn S 191 356 [v0, v1, v2, .int a] st I J Q = Rn S 191 357 [v0, v1, v2, .int a] (.int a :: st) I J Q := rL f191_356 rfl rfl
theorem x191_357 : Rn S 191 357 [v0, v1, v2, v3] st I J Q = Rn S 191 358 [v0, v1, v2, v3] (.int 2 :: st) I J Q := rS f191_357 rfl
theorem x191_358 : Rn S 191 358 [v0, v1, v2, v3] (.int b :: .int a :: st) I J Q = Rn S 191 359 [v0, v1, v2, v3] (.int (a + b) :: st) I J Q := rS f191_358 rfl
theorem x191_359 : Rn S 191 359 [v0, v1, v2, v3] (.int a :: .ref q :: st) I J Q = (zai S q a ∧ Rn S 191 360 [v0, v1, v2, v3] (.int (I q a.toNatClampNeg) :: st) I J Q) := rIal f191_359
theorem x191_360 : Rn S 191 360 [v0, v1, v2, v3] (.int a1 :: .int a0 :: .ref q :: st) I J Q = ((zcls S q = 6 ∧ zcs st ≤ 8) ∧ Rn S 131 0 [.ref q, .int a0, .int a1] [] I J (fun v I' J' => Rn S 191 363 [v0, v1, v2, v3] (v.toList ++ st) I' J' Q)) := rCV (As := [.int a0, .int a1]) f191_360 rfl rfl rfl rfl (Nat.le_of_ble_eq_true rfl)
theorem x191_363 : Rn S 191 363 [v0, v1, v2, v3] (.int b :: .int a :: st) I J Q = if a = b then Rn S 191 1266 [v0, v1, v2, v3] st I J Q else Rn S 191 366 [v0, v1, v2, v3] st I J Q := rCeq f191_363 rfl rfl
theorem x191_366 : Rn S 191 366 [v0, v1, v2, v3] st I J Q = Rn S 191 367 [v0, v1, v2, v3] (.int 0 :: st) I J Q := rS f191_366 rfl
theorem x191_367 : Rn S 191 367 [v0, v1, v2, v3] [.int a] I J Q = ((a = 0 ∨ a = 1) ∧ Q (some (.int a)) I J) := rRZ f191_367 rfl
theorem x191_368 : Rn S 191 368 [v0, .ref q, v2, v3] st I J Q = Rn S 191 369 [v0, .ref q, v2, v3] (.ref q :: st) I J Q := rL f191_368 rfl rfl
theorem x191_369 : Rn S 191 369 [.ref q, v1, v2, v3] st I J Q = Rn S 191 370 [.ref q, v1, v2, v3] (.ref q :: st) I J Q := rL f191_369 rfl rfl
theorem x191_370 : Rn S 191 370 [v0, v1, v2, .int a] st I J Q = Rn S 191 371 [v0, v1, v2, .int a] (.int a :: st) I J Q := rL f191_370 rfl rfl
theorem x191_371 : Rn S 191 371 [v0, v1, v2, v3] st I J Q = Rn S 191 372 [v0, v1, v2, v3] (.int 1 :: st) I J Q := rS f191_371 rfl
theorem x191_372 : Rn S 191 372 [v0, v1, v2, v3] (.int b :: .int a :: st) I J Q = Rn S 191 373 [v0, v1, v2, v3] (.int (a + b) :: st) I J Q := rS f191_372 rfl
theorem x191_373 : Rn S 191 373 [v0, v1, v2, v3] (.int a :: .ref q :: st) I J Q = (zai S q a ∧ Rn S 191 374 [v0, v1, v2, v3] (.int (I q a.toNatClampNeg) :: st) I J Q) := rIal f191_373
theorem x191_374 : Rn S 191 374 [.ref q, v1, v2, v3] st I J Q = Rn S 191 375 [.ref q, v1, v2, v3] (.ref q :: st) I J Q := rL f191_374 rfl rfl
theorem x191_375 : Rn S 191 375 [v0, v1, v2, .int a] st I J Q = Rn S 191 376 [v0, v1, v2, .int a] (.int a :: st) I J Q := rL f191_375 rfl rfl
theorem x191_376 : Rn S 191 376 [v0, v1, v2, v3] st I J Q = Rn S 191 377 [v0, v1, v2, v3] (.int 2 :: st) I J Q := rS f191_376 rfl
theorem x191_377 : Rn S 191 377 [v0, v1, v2, v3] (.int b :: .int a :: st) I J Q = Rn S 191 378 [v0, v1, v2, v3] (.int (a + b) :: st) I J Q := rS f191_377 rfl
theorem x191_378 : Rn S 191 378 [v0, v1, v2, v3] (.int a :: .ref q :: st) I J Q = (zai S q a ∧ Rn S 191 379 [v0, v1, v2, v3] (.int (I q a.toNatClampNeg) :: st) I J Q) := rIal f191_378
theorem x191_379 : Rn S 191 379 [v0, v1, v2, v3] (.int a1 :: .int a0 :: .ref q :: st) I J Q = ((zcls S q = 5 ∧ zcs st ≤ 8) ∧ Rn S 43 0 [.ref q, .int a0, .int a1] [] I J (fun v I' J' => Rn S 191 382 [v0, v1, v2, v3] (v.toList ++ st) I' J' Q)) := rCV (As := [.int a0, .int a1]) f191_379 rfl rfl rfl rfl (Nat.le_of_ble_eq_true rfl)
theorem x191_382 : Rn S 191 382 [v0, v1, .ref q, v3] st I J Q = Rn S 191 383 [v0, v1, .ref q, v3] (.ref q :: st) I J Q := rL f191_382 rfl rfl
theorem x191_383 : Rn S 191 383 [.ref q, v1, v2, v3] st I J Q = Rn S 191 384 [.ref q, v1, v2, v3] (.ref q :: st) I J Q := rL f191_383 rfl rfl
theorem x191_384 : Rn S 191 384 [v0, v1, v2, .int a] st I J Q = Rn S 191 385 [v0, v1, v2, .int a] (.int a :: st) I J Q := rL f191_384 rfl rfl
theorem x191_385 : Rn S 191 385 [v0, v1, v2, v3] st I J Q = Rn S 191 386 [v0, v1, v2, v3] (.int 1 :: st) I J Q := rS f191_385 rfl
theorem x191_386 : Rn S 191 386 [v0, v1, v2, v3] (.int b :: .int a :: st) I J Q = Rn S 191 387 [v0, v1, v2, v3] (.int (a + b) :: st) I J Q := rS f191_386 rfl
theorem x191_387 : Rn S 191 387 [v0, v1, v2, v3] (.int a :: .ref q :: st) I J Q = (zai S q a ∧ Rn S 191 388 [v0, v1, v2, v3] (.int (I q a.toNatClampNeg) :: st) I J Q) := rIal f191_387
theorem x191_388 : Rn S 191 388 [.ref q, v1, v2, v3] st I J Q = Rn S 191 389 [.ref q, v1, v2, v3] (.ref q :: st) I J Q := rL f191_388 rfl rfl
theorem x191_389 : Rn S 191 389 [v0, v1, v2, .int a] st I J Q = Rn S 191 390 [v0, v1, v2, .int a] (.int a :: st) I J Q := rL f191_389 rfl rfl
theorem x191_390 : Rn S 191 390 [v0, v1, v2, v3] st I J Q = Rn S 191 391 [v0, v1, v2, v3] (.int 2 :: st) I J Q := rS f191_390 rfl
theorem x191_391 : Rn S 191 391 [v0, v1, v2, v3] (.int b :: .int a :: st) I J Q = Rn S 191 392 [v0, v1, v2, v3] (.int (a + b) :: st) I J Q := rS f191_391 rfl
theorem x191_392 : Rn S 191 392 [v0, v1, v2, v3] (.int a :: .ref q :: st) I J Q = (zai S q a ∧ Rn S 191 393 [v0, v1, v2, v3] (.int (I q a.toNatClampNeg) :: st) I J Q) := rIal f191_392
theorem x191_393 : Rn S 191 393 [v0, v1, v2, v3] (.int a1 :: .int a0 :: .ref q :: st) I J Q = ((zcls S q = 6 ∧ zcs st ≤ 8) ∧ Rn S 133 0 [.ref q, .int a0, .int a1] [] I J (fun v I' J' => Rn S 191 396 [v0, v1, v2, v3] (v.toList ++ st) I' J' Q)) := rCV (As := [.int a0, .int a1]) f191_393 rfl rfl rfl rfl (Nat.le_of_ble_eq_true rfl)
theorem x191_396 : Rn S 191 396 [v0, v1, v2, v3] (.int b :: .int a :: st) I J Q = if a = b then Rn S 191 1266 [v0, v1, v2, v3] st I J Q else Rn S 191 399 [v0, v1, v2, v3] st I J Q := rCeq f191_396 rfl rfl
theorem x191_399 : Rn S 191 399 [v0, v1, v2, v3] st I J Q = Rn S 191 400 [v0, v1, v2, v3] (.int 0 :: st) I J Q := rS f191_399 rfl
theorem x191_400 : Rn S 191 400 [v0, v1, v2, v3] [.int a] I J Q = ((a = 0 ∨ a = 1) ∧ Q (some (.int a)) I J) := rRZ f191_400 rfl
theorem x191_401 : Rn S 191 401 [v0, .ref q, v2, v3] st I J Q = Rn S 191 402 [v0, .ref q, v2, v3] (.ref q :: st) I J Q := rL f191_401 rfl rfl
theorem x191_402 : Rn S 191 402 [.ref q, v1, v2, v3] st I J Q = Rn S 191 403 [.ref q, v1, v2, v3] (.ref q :: st) I J Q := rL f191_402 rfl rfl
theorem x191_403 : Rn S 191 403 [v0, v1, v2, .int a] st I J Q = Rn S 191 404 [v0, v1, v2, .int a] (.int a :: st) I J Q := rL f191_403 rfl rfl
theorem x191_404 : Rn S 191 404 [v0, v1, v2, v3] st I J Q = Rn S 191 405 [v0, v1, v2, v3] (.int 1 :: st) I J Q := rS f191_404 rfl
theorem x191_405 : Rn S 191 405 [v0, v1, v2, v3] (.int b :: .int a :: st) I J Q = Rn S 191 406 [v0, v1, v2, v3] (.int (a + b) :: st) I J Q := rS f191_405 rfl
theorem x191_406 : Rn S 191 406 [v0, v1, v2, v3] (.int a :: .ref q :: st) I J Q = (zai S q a ∧ Rn S 191 407 [v0, v1, v2, v3] (.int (I q a.toNatClampNeg) :: st) I J Q) := rIal f191_406
theorem x191_407 : Rn S 191 407 [v0, v1, v2, v3] (.int a0 :: .ref q :: st) I J Q = ((zcls S q = 5 ∧ zcs st ≤ 8) ∧ Rn S 44 0 [.ref q, .int a0, .null] [] I J (fun v I' J' => Rn S 191 410 [v0, v1, v2, v3] (v.toList ++ st) I' J' Q)) := rCV (As := [.int a0]) f191_407 rfl rfl rfl rfl (Nat.le_of_ble_eq_true rfl)
theorem x191_410 : Rn S 191 410 [v0, v1, .ref q, v3] st I J Q = Rn S 191 411 [v0, v1, .ref q, v3] (.ref q :: st) I J Q := rL f191_410 rfl rfl
theorem x191_411 : Rn S 191 411 [.ref q, v1, v2, v3] st I J Q = Rn S 191 412 [.ref q, v1, v2, v3] (.ref q :: st) I J Q := rL f191_411 rfl rfl
theorem x191_412 : Rn S 191 412 [v0, v1, v2, .int a] st I J Q = Rn S 191 413 [v0, v1, v2, .int a] (.int a :: st) I J Q := rL f191_412 rfl rfl
theorem x191_413 : Rn S 191 413 [v0, v1, v2, v3] st I J Q = Rn S 191 414 [v0, v1, v2, v3] (.int 1 :: st) I J Q := rS f191_413 rfl
theorem x191_414 : Rn S 191 414 [v0, v1, v2, v3] (.int b :: .int a :: st) I J Q = Rn S 191 415 [v0, v1, v2, v3] (.int (a + b) :: st) I J Q := rS f191_414 rfl
theorem x191_415 : Rn S 191 415 [v0, v1, v2, v3] (.int a :: .ref q :: st) I J Q = (zai S q a ∧ Rn S 191 416 [v0, v1, v2, v3] (.int (I q a.toNatClampNeg) :: st) I J Q) := rIal f191_415
theorem x191_416 : Rn S 191 416 [v0, v1, v2, v3] (.int a0 :: .ref q :: st) I J Q = ((zcls S q = 6 ∧ zcs st ≤ 8) ∧ Rn S 134 0 [.ref q, .int a0, .null] [] I J (fun v I' J' => Rn S 191 419 [v0, v1, v2, v3] (v.toList ++ st) I' J' Q)) := rCV (As := [.int a0]) f191_416 rfl rfl rfl rfl (Nat.le_of_ble_eq_true rfl)
theorem x191_419 : Rn S 191 419 [v0, v1, v2, v3] (.int b :: .int a :: st) I J Q = if a = b then Rn S 191 1266 [v0, v1, v2, v3] st I J Q else Rn S 191 422 [v0, v1, v2, v3] st I J Q := rCeq f191_419 rfl rfl
theorem x191_422 : Rn S 191 422 [v0, v1, v2, v3] st I J Q = Rn S 191 423 [v0, v1, v2, v3] (.int 0 :: st) I J Q := rS f191_422 rfl
theorem x191_423 : Rn S 191 423 [v0, v1, v2, v3] [.int a] I J Q = ((a = 0 ∨ a = 1) ∧ Q (some (.int a)) I J) := rRZ f191_423 rfl
theorem x191_424 : Rn S 191 424 [v0, .ref q, v2, v3] st I J Q = Rn S 191 425 [v0, .ref q, v2, v3] (.ref q :: st) I J Q := rL f191_424 rfl rfl
theorem x191_425 : Rn S 191 425 [.ref q, v1, v2, v3] st I J Q = Rn S 191 426 [.ref q, v1, v2, v3] (.ref q :: st) I J Q := rL f191_425 rfl rfl
theorem x191_426 : Rn S 191 426 [v0, v1, v2, .int a] st I J Q = Rn S 191 427 [v0, v1, v2, .int a] (.int a :: st) I J Q := rL f191_426 rfl rfl
theorem x191_427 : Rn S 191 427 [v0, v1, v2, v3] st I J Q = Rn S 191 428 [v0, v1, v2, v3] (.int 1 :: st) I J Q := rS f191_427 rfl
theorem x191_428 : Rn S 191 428 [v0, v1, v2, v3] (.int b :: .int a :: st) I J Q = Rn S 191 429 [v0, v1, v2, v3] (.int (a + b) :: st) I J Q := rS f191_428 rfl
theorem x191_429 : Rn S 191 429 [v0, v1, v2, v3] (.int a :: .ref q :: st) I J Q = (zai S q a ∧ Rn S 191 430 [v0, v1, v2, v3] (.int (I q a.toNatClampNeg) :: st) I J Q) := rIal f191_429
theorem x191_430 : Rn S 191 430 [.ref q, v1, v2, v3] st I J Q = Rn S 191 431 [.ref q, v1, v2, v3] (.ref q :: st) I J Q := rL f191_430 rfl rfl
theorem x191_431 : Rn S 191 431 [v0, v1, v2, .int a] st I J Q = Rn S 191 432 [v0, v1, v2, .int a] (.int a :: st) I J Q := rL f191_431 rfl rfl
theorem x191_432 : Rn S 191 432 [v0, v1, v2, v3] st I J Q = Rn S 191 433 [v0, v1, v2, v3] (.int 2 :: st) I J Q := rS f191_432 rfl
theorem x191_433 : Rn S 191 433 [v0, v1, v2, v3] (.int b :: .int a :: st) I J Q = Rn S 191 434 [v0, v1, v2, v3] (.int (a + b) :: st) I J Q := rS f191_433 rfl
theorem x191_434 : Rn S 191 434 [v0, v1, v2, v3] (.int a :: .ref q :: st) I J Q = (zai S q a ∧ Rn S 191 435 [v0, v1, v2, v3] (.int (I q a.toNatClampNeg) :: st) I J Q) := rIal f191_434
theorem x191_435 : Rn S 191 435 [.ref q, v1, v2, v3] st I J Q = Rn S 191 436 [.ref q, v1, v2, v3] (.ref q :: st) I J Q := rL f191_435 rfl rfl
theorem x191_436 : Rn S 191 436 [v0, v1, v2, .int a] st I J Q = Rn S 191 437 [v0, v1, v2, .int a] (.int a :: st) I J Q := rL f191_436 rfl rfl
theorem x191_437 : Rn S 191 437 [v0, v1, v2, v3] st I J Q = Rn S 191 438 [v0, v1, v2, v3] (.int 3 :: st) I J Q := rS f191_437 rfl
theorem x191_438 : Rn S 191 438 [v0, v1, v2, v3] (.int b :: .int a :: st) I J Q = Rn S 191 439 [v0, v1, v2, v3] (.int (a + b) :: st) I J Q := rS f191_438 rfl
theorem x191_439 : Rn S 191 439 [v0, v1, v2, v3] (.int a :: .ref q :: st) I J Q = (zai S q a ∧ Rn S 191 440 [v0, v1, v2, v3] (.int (I q a.toNatClampNeg) :: st) I J Q) := rIal f191_439
theorem x191_440 : Rn S 191 440 [v0, v1, v2, v3] (.int a2 :: .int a1 :: .int a0 :: .ref q :: st) I J Q = ((zcls S q = 5 ∧ zcs st ≤ 8) ∧ Rn S 45 0 [.ref q, .int a0, .int a1, .int a2] [] I J (fun v I' J' => Rn S 191 443 [v0, v1, v2, v3] (v.toList ++ st) I' J' Q)) := rCV (As := [.int a0, .int a1, .int a2]) f191_440 rfl rfl rfl rfl (Nat.le_of_ble_eq_true rfl)
theorem x191_443 : Rn S 191 443 [v0, v1, .ref q, v3] st I J Q = Rn S 191 444 [v0, v1, .ref q, v3] (.ref q :: st) I J Q := rL f191_443 rfl rfl
theorem x191_444 : Rn S 191 444 [.ref q, v1, v2, v3] st I J Q = Rn S 191 445 [.ref q, v1, v2, v3] (.ref q :: st) I J Q := rL f191_444 rfl rfl
theorem x191_445 : Rn S 191 445 [v0, v1, v2, .int a] st I J Q = Rn S 191 446 [v0, v1, v2, .int a] (.int a :: st) I J Q := rL f191_445 rfl rfl
theorem x191_446 : Rn S 191 446 [v0, v1, v2, v3] st I J Q = Rn S 191 447 [v0, v1, v2, v3] (.int 1 :: st) I J Q := rS f191_446 rfl
theorem x191_447 : Rn S 191 447 [v0, v1, v2, v3] (.int b :: .int a :: st) I J Q = Rn S 191 448 [v0, v1, v2, v3] (.int (a + b) :: st) I J Q := rS f191_447 rfl
theorem x191_448 : Rn S 191 448 [v0, v1, v2, v3] (.int a :: .ref q :: st) I J Q = (zai S q a ∧ Rn S 191 449 [v0, v1, v2, v3] (.int (I q a.toNatClampNeg) :: st) I J Q) := rIal f191_448
theorem x191_449 : Rn S 191 449 [.ref q, v1, v2, v3] st I J Q = Rn S 191 450 [.ref q, v1, v2, v3] (.ref q :: st) I J Q := rL f191_449 rfl rfl
theorem x191_450 : Rn S 191 450 [v0, v1, v2, .int a] st I J Q = Rn S 191 451 [v0, v1, v2, .int a] (.int a :: st) I J Q := rL f191_450 rfl rfl
theorem x191_451 : Rn S 191 451 [v0, v1, v2, v3] st I J Q = Rn S 191 452 [v0, v1, v2, v3] (.int 2 :: st) I J Q := rS f191_451 rfl
theorem x191_452 : Rn S 191 452 [v0, v1, v2, v3] (.int b :: .int a :: st) I J Q = Rn S 191 453 [v0, v1, v2, v3] (.int (a + b) :: st) I J Q := rS f191_452 rfl
theorem x191_453 : Rn S 191 453 [v0, v1, v2, v3] (.int a :: .ref q :: st) I J Q = (zai S q a ∧ Rn S 191 454 [v0, v1, v2, v3] (.int (I q a.toNatClampNeg) :: st) I J Q) := rIal f191_453
theorem x191_454 : Rn S 191 454 [.ref q, v1, v2, v3] st I J Q = Rn S 191 455 [.ref q, v1, v2, v3] (.ref q :: st) I J Q := rL f191_454 rfl rfl
theorem x191_455 : Rn S 191 455 [v0, v1, v2, .int a] st I J Q = Rn S 191 456 [v0, v1, v2, .int a] (.int a :: st) I J Q := rL f191_455 rfl rfl
theorem x191_456 : Rn S 191 456 [v0, v1, v2, v3] st I J Q = Rn S 191 457 [v0, v1, v2, v3] (.int 3 :: st) I J Q := rS f191_456 rfl
theorem x191_457 : Rn S 191 457 [v0, v1, v2, v3] (.int b :: .int a :: st) I J Q = Rn S 191 458 [v0, v1, v2, v3] (.int (a + b) :: st) I J Q := rS f191_457 rfl
theorem x191_458 : Rn S 191 458 [v0, v1, v2, v3] (.int a :: .ref q :: st) I J Q = (zai S q a ∧ Rn S 191 459 [v0, v1, v2, v3] (.int (I q a.toNatClampNeg) :: st) I J Q) := rIal f191_458
theorem x191_459 : Rn S 191 459 [v0, v1, v2, v3] (.int a2 :: .int a1 :: .int a0 :: .ref q :: st) I J Q = ((zcls S q = 6 ∧ zcs st ≤ 8) ∧ Rn S 135 0 [.ref q, .int a0, .int a1, .int a2] [] I J (fun v I' J' => Rn S 191 462 [v0, v1, v2, v3] (v.toList ++ st) I' J' Q)) := rCV (As := [.int a0, .int a1, .int a2]) f191_459 rfl rfl rfl rfl (Nat.le_of_ble_eq_true rfl)
theorem x191_462 : Rn S 191 462 [v0, v1, v2, v3] (.int b :: .int a :: st) I J Q = if a = b then Rn S 191 1266 [v0, v1, v2, v3] st I J Q else Rn S 191 465 [v0, v1, v2, v3] st I J Q := rCeq f191_462 rfl rfl
theorem x191_465 : Rn S 191 465 [v0, v1, v2, v3] st I J Q = Rn S 191 466 [v0, v1, v2, v3] (.int 0 :: st) I J Q := rS f191_465 rfl
theorem x191_466 : Rn S 191 466 [v0, v1, v2, v3] [.int a] I J Q = ((a = 0 ∨ a = 1) ∧ Q (some (.int a)) I J) := rRZ f191_466 rfl
theorem x191_467 : Rn S 191 467 [v0, .ref q, v2, v3] st I J Q = Rn S 191 468 [v0, .ref q, v2, v3] (.ref q :: st) I J Q := rL f191_467 rfl rfl
theorem x191_468 : Rn S 191 468 [v0, v1, v2, v3] (.ref q :: st) I J Q = ((zcls S q = 5 ∧ zcs st ≤ 8) ∧ Rn S 46 0 [.ref q] [] I J (fun v I' J' => Rn S 191 471 [v0, v1, v2, v3] (v.toList ++ st) I' J' Q)) := rCV (As := []) f191_468 rfl rfl rfl rfl (Nat.le_of_ble_eq_true rfl)
theorem x191_471 : Rn S 191 471 [v0, v1, .ref q, v3] st I J Q = Rn S 191 472 [v0, v1, .ref q, v3] (.ref q :: st) I J Q := rL f191_471 rfl rfl
theorem x191_472 : Rn S 191 472 [v0, v1, v2, v3] (.ref q :: st) I J Q = ((zcls S q = 6 ∧ zcs st ≤ 8) ∧ Rn S 136 0 [.ref q] [] I J (fun v I' J' => Rn S 191 475 [v0, v1, v2, v3] (v.toList ++ st) I' J' Q)) := rCV (As := []) f191_472 rfl rfl rfl rfl (Nat.le_of_ble_eq_true rfl)
theorem x191_475 : Rn S 191 475 [v0, v1, v2, v3] (.int b :: .int a :: st) I J Q = if a = b then Rn S 191 1266 [v0, v1, v2, v3] st I J Q else Rn S 191 478 [v0, v1, v2, v3] st I J Q := rCeq f191_475 rfl rfl
theorem x191_478 : Rn S 191 478 [v0, v1, v2, v3] st I J Q = Rn S 191 479 [v0, v1, v2, v3] (.int 0 :: st) I J Q := rS f191_478 rfl
theorem x191_479 : Rn S 191 479 [v0, v1, v2, v3] [.int a] I J Q = ((a = 0 ∨ a = 1) ∧ Q (some (.int a)) I J) := rRZ f191_479 rfl
theorem x191_480 : Rn S 191 480 [v0, .ref q, v2, v3] st I J Q = Rn S 191 481 [v0, .ref q, v2, v3] (.ref q :: st) I J Q := rL f191_480 rfl rfl
theorem x191_481 : Rn S 191 481 [.ref q, v1, v2, v3] st I J Q = Rn S 191 482 [.ref q, v1, v2, v3] (.ref q :: st) I J Q := rL f191_481 rfl rfl
theorem x191_482 : Rn S 191 482 [v0, v1, v2, .int a] st I J Q = Rn S 191 483 [v0, v1, v2, .int a] (.int a :: st) I J Q := rL f191_482 rfl rfl
theorem x191_483 : Rn S 191 483 [v0, v1, v2, v3] st I J Q = Rn S 191 484 [v0, v1, v2, v3] (.int 1 :: st) I J Q := rS f191_483 rfl
theorem x191_484 : Rn S 191 484 [v0, v1, v2, v3] (.int b :: .int a :: st) I J Q = Rn S 191 485 [v0, v1, v2, v3] (.int (a + b) :: st) I J Q := rS f191_484 rfl
theorem x191_485 : Rn S 191 485 [v0, v1, v2, v3] (.int a :: .ref q :: st) I J Q = (zai S q a ∧ Rn S 191 486 [v0, v1, v2, v3] (.int (I q a.toNatClampNeg) :: st) I J Q) := rIal f191_485
theorem x191_486 : Rn S 191 486 [v0, v1, v2, v3] (.int a0 :: .ref q :: st) I J Q = ((zcls S q = 5 ∧ zcs st ≤ 8) ∧ Rn S 47 0 [.ref q, .int a0, .null, .null, .null, .null, .null, .null] [] I J (fun v I' J' => Rn S 191 489 [v0, v1, v2, v3] (v.toList ++ st) I' J' Q)) := rCV (As := [.int a0]) f191_486 rfl rfl rfl rfl (Nat.le_of_ble_eq_true rfl)
theorem x191_489 : Rn S 191 489 [v0, v1, .ref q, v3] st I J Q = Rn S 191 490 [v0, v1, .ref q, v3] (.ref q :: st) I J Q := rL f191_489 rfl rfl
theorem x191_490 : Rn S 191 490 [.ref q, v1, v2, v3] st I J Q = Rn S 191 491 [.ref q, v1, v2, v3] (.ref q :: st) I J Q := rL f191_490 rfl rfl
theorem x191_491 : Rn S 191 491 [v0, v1, v2, .int a] st I J Q = Rn S 191 492 [v0, v1, v2, .int a] (.int a :: st) I J Q := rL f191_491 rfl rfl
theorem x191_492 : Rn S 191 492 [v0, v1, v2, v3] st I J Q = Rn S 191 493 [v0, v1, v2, v3] (.int 1 :: st) I J Q := rS f191_492 rfl
theorem x191_493 : Rn S 191 493 [v0, v1, v2, v3] (.int b :: .int a :: st) I J Q = Rn S 191 494 [v0, v1, v2, v3] (.int (a + b) :: st) I J Q := rS f191_493 rfl
theorem x191_494 : Rn S 191 494 [v0, v1, v2, v3] (.int a :: .ref q :: st) I J Q = (zai S q a ∧ Rn S 191 495 [v0, v1, v2, v3] (.int (I q a.toNatClampNeg) :: st) I J Q) := rIal f191_494
theorem x191_495 : Rn S 191 495 [v0, v1, v2, v3] (.int a0 :: .ref q :: st) I J Q = ((zcls S q = 6 ∧ zcs st ≤ 8) ∧ Rn S 137 0 [.ref q, .int a0, .null, .null, .null] [] I J (fun v I' J' => Rn S 191 498 [v0, v1, v2, v3] (v.toList ++ st) I' J' Q)) := rCV (As := [.int a0]) f191_495 rfl rfl rfl rfl (Nat.le_of_ble_eq_true rfl)
theorem x191_498 : Rn S 191 498 [v0, v1, v2, v3] (.int b :: .int a :: st) I J Q = if a = b then Rn S 191 1266 [v0, v1, v2, v3] st I J Q else Rn S 191 501 [v0, v1, v2, v3] st I J Q := rCeq f191_498 rfl rfl
theorem x191_501 : Rn S 191 501 [v0, v1, v2, v3] st I J Q = Rn S 191 502 [v0, v1, v2, v3] (.int 0 :: st) I J Q := rS f191_501 rfl
theorem x191_502 : Rn S 191 502 [v0, v1, v2, v3] [.int a] I J Q = ((a = 0 ∨ a = 1) ∧ Q (some (.int a)) I J) := rRZ f191_502 rfl
theorem x191_503 : Rn S 191 503 [v0, .ref q, v2, v3] st I J Q = Rn S 191 504 [v0, .ref q, v2, v3] (.ref q :: st) I J Q := rL f191_503 rfl rfl
theorem x191_504 : Rn S 191 504 [.ref q, v1, v2, v3] st I J Q = Rn S 191 505 [.ref q, v1, v2, v3] (.ref q :: st) I J Q := rL f191_504 rfl rfl
theorem x191_505 : Rn S 191 505 [v0, v1, v2, .int a] st I J Q = Rn S 191 506 [v0, v1, v2, .int a] (.int a :: st) I J Q := rL f191_505 rfl rfl
theorem x191_506 : Rn S 191 506 [v0, v1, v2, v3] st I J Q = Rn S 191 507 [v0, v1, v2, v3] (.int 1 :: st) I J Q := rS f191_506 rfl
theorem x191_507 : Rn S 191 507 [v0, v1, v2, v3] (.int b :: .int a :: st) I J Q = Rn S 191 508 [v0, v1, v2, v3] (.int (a + b) :: st) I J Q := rS f191_507 rfl
theorem x191_508 : Rn S 191 508 [v0, v1, v2, v3] (.int a :: .ref q :: st) I J Q = (zai S q a ∧ Rn S 191 509 [v0, v1, v2, v3] (.int (I q a.toNatClampNeg) :: st) I J Q) := rIal f191_508
theorem x191_509 : Rn S 191 509 [.ref q, v1, v2, v3] st I J Q = Rn S 191 510 [.ref q, v1, v2, v3] (.ref q :: st) I J Q := rL f191_509 rfl rfl
theorem x191_510 : Rn S 191 510 [v0, v1, v2, .int a] st I J Q = Rn S 191 511 [v0, v1, v2, .int a] (.int a :: st) I J Q := rL f191_510 rfl rfl
theorem x191_511 : Rn S 191 511 [v0, v1, v2, v3] st I J Q = Rn S 191 512 [v0, v1, v2, v3] (.int 2 :: st) I J Q := rS f191_511 rfl
theorem x191_512 : Rn S 191 512 [v0, v1, v2, v3] (.int b :: .int a :: st) I J Q = Rn S 191 513 [v0, v1, v2, v3] (.int (a + b) :: st) I J Q := rS f191_512 rfl
theorem x191_513 : Rn S 191 513 [v0, v1, v2, v3] (.int a :: .ref q :: st) I J Q = (zai S q a ∧ Rn S 191 514 [v0, v1, v2, v3] (.int (I q a.toNatClampNeg) :: st) I J Q) := rIal f191_513
theorem x191_514 : Rn S 191 514 [v0, v1, v2, v3] (.int a1 :: .int a0 :: .ref q :: st) I J Q = ((zcls S q = 5 ∧ zcs st ≤ 8) ∧ Rn S 48 0 [.ref q, .int a0, .int a1] [] I J (fun v I' J' => Rn S 191 517 [v0, v1, v2, v3] (v.toList ++ st) I' J' Q)) := rCV (As := [.int a0, .int a1]) f191_514 rfl rfl rfl rfl (Nat.le_of_ble_eq_true rfl)
theorem x191_517 : Rn S 191 517 [v0, v1, .ref q, v3] st I J Q = Rn S 191 518 [v0, v1, .ref q, v3] (.ref q :: st) I J Q := rL f191_517 rfl rfl
theorem x191_518 : Rn S 191 518 [.ref q, v1, v2, v3] st I J Q = Rn S 191 519 [.ref q, v1, v2, v3] (.ref q :: st) I J Q := rL f191_518 rfl rfl
theorem x191_519 : Rn S 191 519 [v0, v1, v2, .int a] st I J Q = Rn S 191 520 [v0, v1, v2, .int a] (.int a :: st) I J Q := rL f191_519 rfl rfl
theorem x191_520 : Rn S 191 520 [v0, v1, v2, v3] st I J Q = Rn S 191 521 [v0, v1, v2, v3] (.int 1 :: st) I J Q := rS f191_520 rfl
theorem x191_521 : Rn S 191 521 [v0, v1, v2, v3] (.int b :: .int a :: st) I J Q = Rn S 191 522 [v0, v1, v2, v3] (.int (a + b) :: st) I J Q := rS f191_521 rfl
theorem x191_522 : Rn S 191 522 [v0, v1, v2, v3] (.int a :: .ref q :: st) I J Q = (zai S q a ∧ Rn S 191 523 [v0, v1, v2, v3] (.int (I q a.toNatClampNeg) :: st) I J Q) := rIal f191_522
theorem x191_523 : Rn S 191 523 [.ref q, v1, v2, v3] st I J Q = Rn S 191 524 [.ref q, v1, v2, v3] (.ref q :: st) I J Q := rL f191_523 rfl rfl
theorem x191_524 : Rn S 191 524 [v0, v1, v2, .int a] st I J Q = Rn S 191 525 [v0, v1, v2, .int a] (.int a :: st) I J Q := rL f191_524 rfl rfl
theorem x191_525 : Rn S 191 525 [v0, v1, v2, v3] st I J Q = Rn S 191 526 [v0, v1, v2, v3] (.int 2 :: st) I J Q := rS f191_525 rfl
theorem x191_526 : Rn S 191 526 [v0, v1, v2, v3] (.int b :: .int a :: st) I J Q = Rn S 191 527 [v0, v1, v2, v3] (.int (a + b) :: st) I J Q := rS f191_526 rfl
theorem x191_527 : Rn S 191 527 [v0, v1, v2, v3] (.int a :: .ref q :: st) I J Q = (zai S q a ∧ Rn S 191 528 [v0, v1, v2, v3] (.int (I q a.toNatClampNeg) :: st) I J Q) := rIal f191_527
theorem x191_528 : Rn S 191 528 [v0, v1, v2, v3] (.int a1 :: .int a0 :: .ref q :: st) I J Q = ((zcls S q = 6 ∧ zcs st ≤ 8) ∧ Rn S 143 0 [.ref q, .int a0, .int a1] [] I J (fun v I' J' => Rn S 191 531 [v0, v1, v2, v3] (v.toList ++ st) I' J' Q)) := rCV (As := [.int a0, .int a1]) f191_528 rfl rfl rfl rfl (Nat.le_of_ble_eq_true rfl)
theorem x191_531 : Rn S 191 531 [v0, v1, v2, v3] (.int b :: .int a :: st) I J Q = if a = b then Rn S 191 1266 [v0, v1, v2, v3] st I J Q else Rn S 191 534 [v0, v1, v2, v3] st I J Q := rCeq f191_531 rfl rfl
theorem x191_534 : Rn S 191 534 [v0, v1, v2, v3] st I J Q = Rn S 191 535 [v0, v1, v2, v3] (.int 0 :: st) I J Q := rS f191_534 rfl
theorem x191_535 : Rn S 191 535 [v0, v1, v2, v3] [.int a] I J Q = ((a = 0 ∨ a = 1) ∧ Q (some (.int a)) I J) := rRZ f191_535 rfl
theorem x191_536 : Rn S 191 536 [v0, .ref q, v2, v3] st I J Q = Rn S 191 537 [v0, .ref q, v2, v3] (.ref q :: st) I J Q := rL f191_536 rfl rfl
theorem x191_537 : Rn S 191 537 [.ref q, v1, v2, v3] st I J Q = Rn S 191 538 [.ref q, v1, v2, v3] (.ref q :: st) I J Q := rL f191_537 rfl rfl
theorem x191_538 : Rn S 191 538 [v0, v1, v2, .int a] st I J Q = Rn S 191 539 [v0, v1, v2, .int a] (.int a :: st) I J Q := rL f191_538 rfl rfl
theorem x191_539 : Rn S 191 539 [v0, v1, v2, v3] st I J Q = Rn S 191 540 [v0, v1, v2, v3] (.int 1 :: st) I J Q := rS f191_539 rfl
theorem x191_540 : Rn S 191 540 [v0, v1, v2, v3] (.int b :: .int a :: st) I J Q = Rn S 191 541 [v0, v1, v2, v3] (.int (a + b) :: st) I J Q := rS f191_540 rfl
theorem x191_541 : Rn S 191 541 [v0, v1, v2, v3] (.int a :: .ref q :: st) I J Q = (zai S q a ∧ Rn S 191 542 [v0, v1, v2, v3] (.int (I q a.toNatClampNeg) :: st) I J Q) := rIal f191_541
theorem x191_542 : Rn S 191 542 [.ref q, v1, v2, v3] st I J Q = Rn S 191 543 [.ref q, v1, v2, v3] (.ref q :: st) I J Q := rL f191_542 rfl rfl
theorem x191_543 : Rn S 191 543 [v0, v1, v2, .int a] st I J Q = Rn S 191 544 [v0, v1, v2, .int a] (.int a :: st) I J Q := rL f191_543 rfl rfl
theorem x191_544 : Rn S 191 544 [v0, v1, v2, v3] st I J Q = Rn S 191 545 [v0, v1, v2, v3] (.int 2 :: st) I J Q := rS f191_544 rfl
theorem x191_545 : Rn S 191 545 [v0, v1, v2, v3] (.int b :: .int a :: st) I J Q = Rn S 191 546 [v0, v1, v2, v3] (.int (a + b) :: st) I J Q := rS f191_545 rfl
theorem x191_546 : Rn S 191 546 [v0, v1, v2, v3] (.int a :: .ref q :: st) I J Q = (zai S q a ∧ Rn S 191 547 [v0, v1, v2, v3] (.int (I q a.toNatClampNeg) :: st) I J Q) := rIal f191_546
theorem x191_547 : Rn S 191 547 [v0, v1, v2, v3] (.int a1 :: .int a0 :: .ref q :: st) I J Q = ((zcls S q = 5 ∧ zcs st ≤ 8) ∧ Rn S 49 0 [.ref q, .int a0, .int a1] [] I J (fun v I' J' => Rn S 191 550 [v0, v1, v2, v3] (v.toList ++ st) I' J' Q)) := rCV (As := [.int a0, .int a1]) f191_547 rfl rfl rfl rfl (Nat.le_of_ble_eq_true rfl)
theorem x191_550 : Rn S 191 550 [v0, v1, .ref q, v3] st I J Q = Rn S 191 551 [v0, v1, .ref q, v3] (.ref q :: st) I J Q := rL f191_550 rfl rfl
theorem x191_551 : Rn S 191 551 [.ref q, v1, v2, v3] st I J Q = Rn S 191 552 [.ref q, v1, v2, v3] (.ref q :: st) I J Q := rL f191_551 rfl rfl
theorem x191_552 : Rn S 191 552 [v0, v1, v2, .int a] st I J Q = Rn S 191 553 [v0, v1, v2, .int a] (.int a :: st) I J Q := rL f191_552 rfl rfl
theorem x191_553 : Rn S 191 553 [v0, v1, v2, v3] st I J Q = Rn S 191 554 [v0, v1, v2, v3] (.int 1 :: st) I J Q := rS f191_553 rfl
theorem x191_554 : Rn S 191 554 [v0, v1, v2, v3] (.int b :: .int a :: st) I J Q = Rn S 191 555 [v0, v1, v2, v3] (.int (a + b) :: st) I J Q := rS f191_554 rfl
theorem x191_555 : Rn S 191 555 [v0, v1, v2, v3] (.int a :: .ref q :: st) I J Q = (zai S q a ∧ Rn S 191 556 [v0, v1, v2, v3] (.int (I q a.toNatClampNeg) :: st) I J Q) := rIal f191_555
theorem x191_556 : Rn S 191 556 [.ref q, v1, v2, v3] st I J Q = Rn S 191 557 [.ref q, v1, v2, v3] (.ref q :: st) I J Q := rL f191_556 rfl rfl
theorem x191_557 : Rn S 191 557 [v0, v1, v2, .int a] st I J Q = Rn S 191 558 [v0, v1, v2, .int a] (.int a :: st) I J Q := rL f191_557 rfl rfl
theorem x191_558 : Rn S 191 558 [v0, v1, v2, v3] st I J Q = Rn S 191 559 [v0, v1, v2, v3] (.int 2 :: st) I J Q := rS f191_558 rfl
theorem x191_559 : Rn S 191 559 [v0, v1, v2, v3] (.int b :: .int a :: st) I J Q = Rn S 191 560 [v0, v1, v2, v3] (.int (a + b) :: st) I J Q := rS f191_559 rfl
theorem x191_560 : Rn S 191 560 [v0, v1, v2, v3] (.int a :: .ref q :: st) I J Q = (zai S q a ∧ Rn S 191 561 [v0, v1, v2, v3] (.int (I q a.toNatClampNeg) :: st) I J Q) := rIal f191_560
theorem x191_561 : Rn S 191 561 [v0, v1, v2, v3] (.int a1 :: .int a0 :: .ref q :: st) I J Q = ((zcls S q = 6 ∧ zcs st ≤ 8) ∧ Rn S 145 0 [.ref q, .int a0, .int a1] [] I J (fun v I' J' => Rn S 191 564 [v0, v1, v2, v3] (v.toList ++ st) I' J' Q)) := rCV (As := [.int a0, .int a1]) f191_561 rfl rfl rfl rfl (Nat.le_of_ble_eq_true rfl)
theorem x191_564 : Rn S 191 564 [v0, v1, v2, v3] (.int b :: .int a :: st) I J Q = if a = b then Rn S 191 1266 [v0, v1, v2, v3] st I J Q else Rn S 191 567 [v0, v1, v2, v3] st I J Q := rCeq f191_564 rfl rfl
theorem x191_567 : Rn S 191 567 [v0, v1, v2, v3] st I J Q = Rn S 191 568 [v0, v1, v2, v3] (.int 0 :: st) I J Q := rS f191_567 rfl
theorem x191_568 : Rn S 191 568 [v0, v1, v2, v3] [.int a] I J Q = ((a = 0 ∨ a = 1) ∧ Q (some (.int a)) I J) := rRZ f191_568 rfl
theorem x191_569 : Rn S 191 569 [v0, .ref q, v2, v3] st I J Q = Rn S 191 570 [v0, .ref q, v2, v3] (.ref q :: st) I J Q := rL f191_569 rfl rfl
theorem x191_570 : Rn S 191 570 [.ref q, v1, v2, v3] st I J Q = Rn S 191 571 [.ref q, v1, v2, v3] (.ref q :: st) I J Q := rL f191_570 rfl rfl
theorem x191_571 : Rn S 191 571 [v0, v1, v2, .int a] st I J Q = Rn S 191 572 [v0, v1, v2, .int a] (.int a :: st) I J Q := rL f191_571 rfl rfl
theorem x191_572 : Rn S 191 572 [v0, v1, v2, v3] st I J Q = Rn S 191 573 [v0, v1, v2, v3] (.int 1 :: st) I J Q := rS f191_572 rfl
theorem x191_573 : Rn S 191 573 [v0, v1, v2, v3] (.int b :: .int a :: st) I J Q = Rn S 191 574 [v0, v1, v2, v3] (.int (a + b) :: st) I J Q := rS f191_573 rfl
theorem x191_574 : Rn S 191 574 [v0, v1, v2, v3] (.int a :: .ref q :: st) I J Q = (zai S q a ∧ Rn S 191 575 [v0, v1, v2, v3] (.int (I q a.toNatClampNeg) :: st) I J Q) := rIal f191_574
theorem x191_575 : Rn S 191 575 [.ref q, v1, v2, v3] st I J Q = Rn S 191 576 [.ref q, v1, v2, v3] (.ref q :: st) I J Q := rL f191_575 rfl rfl
theorem x191_576 : Rn S 191 576 [v0, v1, v2, .int a] st I J Q = Rn S 191 577 [v0, v1, v2, .int a] (.int a :: st) I J Q := rL f191_576 rfl rfl
theorem x191_577 : Rn S 191 577 [v0, v1, v2, v3] st I J Q = Rn S 191 578 [v0, v1, v2, v3] (.int 2 :: st) I J Q := rS f191_577 rfl
theorem x191_578 : Rn S 191 578 [v0, v1, v2, v3] (.int b :: .int a :: st) I J Q = Rn S 191 579 [v0, v1, v2, v3] (.int (a + b) :: st) I J Q := rS f191_578 rfl
theorem x191_579 : Rn S 191 579 [v0, v1, v2, v3] (.int a :: .ref q :: st) I J Q = (zai S q a ∧ Rn S 191 580 [v0, v1, v2, v3] (.int (I q a.toNatClampNeg) :: st) I J Q) := rIal f191_579
theorem x191_580 : Rn S 191 580 [v0, v1, v2, v3] (.int a1 :: .int a0 :: .ref q :: st) I J Q = ((zcls S q = 5 ∧ zcs st ≤ 8) ∧ Rn S 50 0 [.ref q, .int a0, .int a1] [] I J (fun v I' J' => Rn S 191 583 [v0, v1, v2, v3] (v.toList ++ st) I' J' Q)) := rCV (As := [.int a0, .int a1]) f191_580 rfl rfl rfl rfl (Nat.le_of_ble_eq_true rfl)
theorem x191_583 : Rn S 191 583 [v0, v1, .ref q, v3] st I J Q = Rn S 191 584 [v0, v1, .ref q, v3] (.ref q :: st) I J Q := rL f191_583 rfl rfl
theorem x191_584 : Rn S 191 584 [.ref q, v1, v2, v3] st I J Q = Rn S 191 585 [.ref q, v1, v2, v3] (.ref q :: st) I J Q := rL f191_584 rfl rfl
theorem x191_585 : Rn S 191 585 [v0, v1, v2, .int a] st I J Q = Rn S 191 586 [v0, v1, v2, .int a] (.int a :: st) I J Q := rL f191_585 rfl rfl
theorem x191_586 : Rn S 191 586 [v0, v1, v2, v3] st I J Q = Rn S 191 587 [v0, v1, v2, v3] (.int 1 :: st) I J Q := rS f191_586 rfl
theorem x191_587 : Rn S 191 587 [v0, v1, v2, v3] (.int b :: .int a :: st) I J Q = Rn S 191 588 [v0, v1, v2, v3] (.int (a + b) :: st) I J Q := rS f191_587 rfl
theorem x191_588 : Rn S 191 588 [v0, v1, v2, v3] (.int a :: .ref q :: st) I J Q = (zai S q a ∧ Rn S 191 589 [v0, v1, v2, v3] (.int (I q a.toNatClampNeg) :: st) I J Q) := rIal f191_588
theorem x191_589 : Rn S 191 589 [.ref q, v1, v2, v3] st I J Q = Rn S 191 590 [.ref q, v1, v2, v3] (.ref q :: st) I J Q := rL f191_589 rfl rfl
theorem x191_590 : Rn S 191 590 [v0, v1, v2, .int a] st I J Q = Rn S 191 591 [v0, v1, v2, .int a] (.int a :: st) I J Q := rL f191_590 rfl rfl
theorem x191_591 : Rn S 191 591 [v0, v1, v2, v3] st I J Q = Rn S 191 592 [v0, v1, v2, v3] (.int 2 :: st) I J Q := rS f191_591 rfl
theorem x191_592 : Rn S 191 592 [v0, v1, v2, v3] (.int b :: .int a :: st) I J Q = Rn S 191 593 [v0, v1, v2, v3] (.int (a + b) :: st) I J Q := rS f191_592 rfl
theorem x191_593 : Rn S 191 593 [v0, v1, v2, v3] (.int a :: .ref q :: st) I J Q = (zai S q a ∧ Rn S 191 594 [v0, v1, v2, v3] (.int (I q a.toNatClampNeg) :: st) I J Q) := rIal f191_593
theorem x191_594 : Rn S 191 594 [v0, v1, v2, v3] (.int a1 :: .int a0 :: .ref q :: st) I J Q = ((zcls S q = 6 ∧ zcs st ≤ 8) ∧ Rn S 147 0 [.ref q, .int a0, .int a1] [] I J (fun v I' J' => Rn S 191 597 [v0, v1, v2, v3] (v.toList ++ st) I' J' Q)) := rCV (As := [.int a0, .int a1]) f191_594 rfl rfl rfl rfl (Nat.le_of_ble_eq_true rfl)
theorem x191_597 : Rn S 191 597 [v0, v1, v2, v3] (.int b :: .int a :: st) I J Q = if a = b then Rn S 191 1266 [v0, v1, v2, v3] st I J Q else Rn S 191 600 [v0, v1, v2, v3] st I J Q := rCeq f191_597 rfl rfl
theorem x191_600 : Rn S 191 600 [v0, v1, v2, v3] st I J Q = Rn S 191 601 [v0, v1, v2, v3] (.int 0 :: st) I J Q := rS f191_600 rfl
theorem x191_601 : Rn S 191 601 [v0, v1, v2, v3] [.int a] I J Q = ((a = 0 ∨ a = 1) ∧ Q (some (.int a)) I J) := rRZ f191_601 rfl
theorem x191_602 : Rn S 191 602 [v0, .ref q, v2, v3] st I J Q = Rn S 191 603 [v0, .ref q, v2, v3] (.ref q :: st) I J Q := rL f191_602 rfl rfl
theorem x191_603 : Rn S 191 603 [.ref q, v1, v2, v3] st I J Q = Rn S 191 604 [.ref q, v1, v2, v3] (.ref q :: st) I J Q := rL f191_603 rfl rfl
theorem x191_604 : Rn S 191 604 [v0, v1, v2, .int a] st I J Q = Rn S 191 605 [v0, v1, v2, .int a] (.int a :: st) I J Q := rL f191_604 rfl rfl
theorem x191_605 : Rn S 191 605 [v0, v1, v2, v3] st I J Q = Rn S 191 606 [v0, v1, v2, v3] (.int 1 :: st) I J Q := rS f191_605 rfl
theorem x191_606 : Rn S 191 606 [v0, v1, v2, v3] (.int b :: .int a :: st) I J Q = Rn S 191 607 [v0, v1, v2, v3] (.int (a + b) :: st) I J Q := rS f191_606 rfl
theorem x191_607 : Rn S 191 607 [v0, v1, v2, v3] (.int a :: .ref q :: st) I J Q = (zai S q a ∧ Rn S 191 608 [v0, v1, v2, v3] (.int (I q a.toNatClampNeg) :: st) I J Q) := rIal f191_607
theorem x191_608 : Rn S 191 608 [v0, v1, v2, v3] (.int a0 :: .ref q :: st) I J Q = ((zcls S q = 5 ∧ zcs st ≤ 8) ∧ Rn S 51 0 [.ref q, .int a0] [] I J (fun v I' J' => Rn S 191 611 [v0, v1, v2, v3] (v.toList ++ st) I' J' Q)) := rCV (As := [.int a0]) f191_608 rfl rfl rfl rfl (Nat.le_of_ble_eq_true rfl)
theorem x191_611 : Rn S 191 611 [v0, v1, .ref q, v3] st I J Q = Rn S 191 612 [v0, v1, .ref q, v3] (.ref q :: st) I J Q := rL f191_611 rfl rfl
theorem x191_612 : Rn S 191 612 [.ref q, v1, v2, v3] st I J Q = Rn S 191 613 [.ref q, v1, v2, v3] (.ref q :: st) I J Q := rL f191_612 rfl rfl
theorem x191_613 : Rn S 191 613 [v0, v1, v2, .int a] st I J Q = Rn S 191 614 [v0, v1, v2, .int a] (.int a :: st) I J Q := rL f191_613 rfl rfl
theorem x191_614 : Rn S 191 614 [v0, v1, v2, v3] st I J Q = Rn S 191 615 [v0, v1, v2, v3] (.int 1 :: st) I J Q := rS f191_614 rfl
theorem x191_615 : Rn S 191 615 [v0, v1, v2, v3] (.int b :: .int a :: st) I J Q = Rn S 191 616 [v0, v1, v2, v3] (.int (a + b) :: st) I J Q := rS f191_615 rfl
theorem x191_616 : Rn S 191 616 [v0, v1, v2, v3] (.int a :: .ref q :: st) I J Q = (zai S q a ∧ Rn S 191 617 [v0, v1, v2, v3] (.int (I q a.toNatClampNeg) :: st) I J Q) := rIal f191_616
theorem x191_617 : Rn S 191 617 [v0, v1, v2, v3] (.int a0 :: .ref q :: st) I J Q = ((zcls S q = 6 ∧ zcs st ≤ 8) ∧ Rn S 149 0 [.ref q, .int a0] [] I J (fun v I' J' => Rn S 191 620 [v0, v1, v2, v3] (v.toList ++ st) I' J' Q)) := rCV (As := [.int a0]) f191_617 rfl rfl rfl rfl (Nat.le_of_ble_eq_true rfl)
theorem x191_620 : Rn S 191 620 [v0, v1, v2, v3] (.int b :: .int a :: st) I J Q = if a = b then Rn S 191 1266 [v0, v1, v2, v3] st I J Q else Rn S 191 623 [v0, v1, v2, v3] st I J Q := rCeq f191_620 rfl rfl
theorem x191_623 : Rn S 191 623 [v0, v1, v2, v3] st I J Q = Rn S 191 624 [v0, v1, v2, v3] (.int 0 :: st) I J Q := rS f191_623 rfl
theorem x191_624 : Rn S 191 624 [v0, v1, v2, v3] [.int a] I J Q = ((a = 0 ∨ a = 1) ∧ Q (some (.int a)) I J) := rRZ f191_624 rfl
theorem x191_625 : Rn S 191 625 [v0, .ref q, v2, v3] st I J Q = Rn S 191 626 [v0, .ref q, v2, v3] (.ref q :: st) I J Q := rL f191_625 rfl rfl
theorem x191_626 : Rn S 191 626 [v0, v1, v2, v3] (.ref q :: st) I J Q = ((zcls S q = 5 ∧ zcs st ≤ 8) ∧ Rn S 52 0 [.ref q] [] I J (fun v I' J' => Rn S 191 629 [v0, v1, v2, v3] (v.toList ++ st) I' J' Q)) := rCV (As := []) f191_626 rfl rfl rfl rfl (Nat.le_of_ble_eq_true rfl)
theorem x191_629 : Rn S 191 629 [v0, v1, .ref q, v3] st I J Q = Rn S 191 630 [v0, v1, .ref q, v3] (.ref q :: st) I J Q := rL f191_629 rfl rfl
theorem x191_630 : Rn S 191 630 [v0, v1, v2, v3] (.ref q :: st) I J Q = ((zcls S q = 6 ∧ zcs st ≤ 8) ∧ Rn S 151 0 [.ref q] [] I J (fun v I' J' => Rn S 191 633 [v0, v1, v2, v3] (v.toList ++ st) I' J' Q)) := rCV (As := []) f191_630 rfl rfl rfl rfl (Nat.le_of_ble_eq_true rfl)
theorem x191_633 : Rn S 191 633 [v0, v1, v2, v3] (.int b :: .int a :: st) I J Q = if a = b then Rn S 191 1266 [v0, v1, v2, v3] st I J Q else Rn S 191 636 [v0, v1, v2, v3] st I J Q := rCeq f191_633 rfl rfl
theorem x191_636 : Rn S 191 636 [v0, v1, v2, v3] st I J Q = Rn S 191 637 [v0, v1, v2, v3] (.int 0 :: st) I J Q := rS f191_636 rfl
theorem x191_637 : Rn S 191 637 [v0, v1, v2, v3] [.int a] I J Q = ((a = 0 ∨ a = 1) ∧ Q (some (.int a)) I J) := rRZ f191_637 rfl
theorem x191_638 : Rn S 191 638 [v0, .ref q, v2, v3] st I J Q = Rn S 191 639 [v0, .ref q, v2, v3] (.ref q :: st) I J Q := rL f191_638 rfl rfl
theorem x191_639 : Rn S 191 639 [v0, v1, v2, v3] (.ref q :: st) I J Q = ((zcls S q = 5 ∧ zcs st ≤ 8) ∧ Rn S 53 0 [.ref q, .null, .null] [] I J (fun v I' J' => Rn S 191 642 [v0, v1, v2, v3] (v.toList ++ st) I' J' Q)) := rCV (As := []) f191_639 rfl rfl rfl rfl (Nat.le_of_ble_eq_true rfl)
theorem x191_642 : Rn S 191 642 [v0, v1, .ref q, v3] st I J Q = Rn S 191 643 [v0, v1, .ref q, v3] (.ref q :: st) I J Q := rL f191_642 rfl rfl
theorem x191_643 : Rn S 191 643 [v0, v1, v2, v3] (.ref q :: st) I J Q = ((zcls S q = 6 ∧ zcs st ≤ 8) ∧ Rn S 153 0 [.ref q] [] I J (fun v I' J' => Rn S 191 646 [v0, v1, v2, v3] (v.toList ++ st) I' J' Q)) := rCV (As := []) f191_643 rfl rfl rfl rfl (Nat.le_of_ble_eq_true rfl)
theorem x191_646 : Rn S 191 646 [v0, v1, v2, v3] (.int b :: .int a :: st) I J Q = if a = b then Rn S 191 1266 [v0, v1, v2, v3] st I J Q else Rn S 191 649 [v0, v1, v2, v3] st I J Q := rCeq f191_646 rfl rfl
theorem x191_649 : Rn S 191 649 [v0, v1, v2, v3] st I J Q = Rn S 191 650 [v0, v1, v2, v3] (.int 0 :: st) I J Q := rS f191_649 rfl
theorem x191_650 : Rn S 191 650 [v0, v1, v2, v3] [.int a] I J Q = ((a = 0 ∨ a = 1) ∧ Q (some (.int a)) I J) := rRZ f191_650 rfl
theorem x191_651 : Rn S 191 651 [v0, .ref q, v2, v3] st I J Q = Rn S 191 652 [v0, .ref q, v2, v3] (.ref q :: st) I J Q := rL f191_651 rfl rfl
theorem x191_652 : Rn S 191 652 [.ref q, v1, v2, v3] st I J Q = Rn S 191 653 [.ref q, v1, v2, v3] (.ref q :: st) I J Q := rL f191_652 rfl rfl
theorem x191_653 : Rn S 191 653 [v0, v1, v2, .int a] st I J Q = Rn S 191 654 [v0, v1, v2, .int a] (.int a :: st) I J Q := rL f191_653 rfl rfl
theorem x191_654 : Rn S 191 654 [v0, v1, v2, v3] st I J Q = Rn S 191 655 [v0, v1, v2, v3] (.int 1 :: st) I J Q := rS f191_654 rfl
theorem x191_655 : Rn S 191 655 [v0, v1, v2, v3] (.int b :: .int a :: st) I J Q = Rn S 191 656 [v0, v1, v2, v3] (.int (a + b) :: st) I J Q := rS f191_655 rfl
theorem x191_656 : Rn S 191 656 [v0, v1, v2, v3] (.int a :: .ref q :: st) I J Q = (zai S q a ∧ Rn S 191 657 [v0, v1, v2, v3] (.int (I q a.toNatClampNeg) :: st) I J Q) := rIal f191_656
theorem x191_657 : Rn S 191 657 [v0, v1, v2, v3] (.int a0 :: .ref q :: st) I J Q = ((zcls S q = 5 ∧ zcs st ≤ 8) ∧ Rn S 54 0 [.ref q, .int a0] [] I J (fun v I' J' => Rn S 191 660 [v0, v1, v2, v3] (v.toList ++ st) I' J' Q)) := rCV (As := [.int a0]) f191_657 rfl rfl rfl rfl (Nat.le_of_ble_eq_true rfl)
theorem x191_660 : Rn S 191 660 [v0, v1, .ref q, v3] st I J Q = Rn S 191 661 [v0, v1, .ref q, v3] (.ref q :: st) I J Q := rL f191_660 rfl rfl
theorem x191_661 : Rn S 191 661 [.ref q, v1, v2, v3] st I J Q = Rn S 191 662 [.ref q, v1, v2, v3] (.ref q :: st) I J Q := rL f191_661 rfl rfl
theorem x191_662 : Rn S 191 662 [v0, v1, v2, .int a] st I J Q = Rn S 191 663 [v0, v1, v2, .int a] (.int a :: st) I J Q := rL f191_662 rfl rfl
theorem x191_663 : Rn S 191 663 [v0, v1, v2, v3] st I J Q = Rn S 191 664 [v0, v1, v2, v3] (.int 1 :: st) I J Q := rS f191_663 rfl
theorem x191_664 : Rn S 191 664 [v0, v1, v2, v3] (.int b :: .int a :: st) I J Q = Rn S 191 665 [v0, v1, v2, v3] (.int (a + b) :: st) I J Q := rS f191_664 rfl
theorem x191_665 : Rn S 191 665 [v0, v1, v2, v3] (.int a :: .ref q :: st) I J Q = (zai S q a ∧ Rn S 191 666 [v0, v1, v2, v3] (.int (I q a.toNatClampNeg) :: st) I J Q) := rIal f191_665
theorem x191_666 : Rn S 191 666 [v0, v1, v2, v3] (.int a0 :: .ref q :: st) I J Q = ((zcls S q = 6 ∧ zcs st ≤ 8) ∧ Rn S 155 0 [.ref q, .int a0] [] I J (fun v I' J' => Rn S 191 669 [v0, v1, v2, v3] (v.toList ++ st) I' J' Q)) := rCV (As := [.int a0]) f191_666 rfl rfl rfl rfl (Nat.le_of_ble_eq_true rfl)
theorem x191_669 : Rn S 191 669 [v0, v1, v2, v3] (.int b :: .int a :: st) I J Q = if a = b then Rn S 191 1266 [v0, v1, v2, v3] st I J Q else Rn S 191 672 [v0, v1, v2, v3] st I J Q := rCeq f191_669 rfl rfl
theorem x191_672 : Rn S 191 672 [v0, v1, v2, v3] st I J Q = Rn S 191 673 [v0, v1, v2, v3] (.int 0 :: st) I J Q := rS f191_672 rfl
theorem x191_673 : Rn S 191 673 [v0, v1, v2, v3] [.int a] I J Q = ((a = 0 ∨ a = 1) ∧ Q (some (.int a)) I J) := rRZ f191_673 rfl
theorem x191_674 : Rn S 191 674 [v0, .ref q, v2, v3] st I J Q = Rn S 191 675 [v0, .ref q, v2, v3] (.ref q :: st) I J Q := rL f191_674 rfl rfl
theorem x191_675 : Rn S 191 675 [.ref q, v1, v2, v3] st I J Q = Rn S 191 676 [.ref q, v1, v2, v3] (.ref q :: st) I J Q := rL f191_675 rfl rfl
theorem x191_676 : Rn S 191 676 [v0, v1, v2, .int a] st I J Q = Rn S 191 677 [v0, v1, v2, .int a] (.int a :: st) I J Q := rL f191_676 rfl rfl
theorem x191_677 : Rn S 191 677 [v0, v1, v2, v3] st I J Q = Rn S 191 678 [v0, v1, v2, v3] (.int 1 :: st) I J Q := rS f191_677 rfl
theorem x191_678 : Rn S 191 678 [v0, v1, v2, v3] (.int b :: .int a :: st) I J Q = Rn S 191 679 [v0, v1, v2, v3] (.int (a + b) :: st) I J Q := rS f191_678 rfl
theorem x191_679 : Rn S 191 679 [v0, v1, v2, v3] (.int a :: .ref q :: st) I J Q = (zai S q a ∧ Rn S 191 680 [v0, v1, v2, v3] (.int (I q a.toNatClampNeg) :: st) I J Q) := rIal f191_679
theorem x191_680 : Rn S 191 680 [v0, v1, v2, v3] (.int a0 :: .ref q :: st) I J Q = ((zcls S q = 5 ∧ zcs st ≤ 8) ∧ Rn S 55 0 [.ref q, .int a0] [] I J (fun v I' J' => Rn S 191 683 [v0, v1, v2, v3] (v.toList ++ st) I' J' Q)) := rCV (As := [.int a0]) f191_680 rfl rfl rfl rfl (Nat.le_of_ble_eq_true rfl)
theorem x191_683 : Rn S 191 683 [v0, v1, .ref q, v3] st I J Q = Rn S 191 684 [v0, v1, .ref q, v3] (.ref q :: st) I J Q := rL f191_683 rfl rfl
theorem x191_684 : Rn S 191 684 [.ref q, v1, v2, v3] st I J Q = Rn S 191 685 [.ref q, v1, v2, v3] (.ref q :: st) I J Q := rL f191_684 rfl rfl
theorem x191_685 : Rn S 191 685 [v0, v1, v2, .int a] st I J Q = Rn S 191 686 [v0, v1, v2, .int a] (.int a :: st) I J Q := rL f191_685 rfl rfl
theorem x191_686 : Rn S 191 686 [v0, v1, v2, v3] st I J Q = Rn S 191 687 [v0, v1, v2, v3] (.int 1 :: st) I J Q := rS f191_686 rfl
theorem x191_687 : Rn S 191 687 [v0, v1, v2, v3] (.int b :: .int a :: st) I J Q = Rn S 191 688 [v0, v1, v2, v3] (.int (a + b) :: st) I J Q := rS f191_687 rfl
theorem x191_688 : Rn S 191 688 [v0, v1, v2, v3] (.int a :: .ref q :: st) I J Q = (zai S q a ∧ Rn S 191 689 [v0, v1, v2, v3] (.int (I q a.toNatClampNeg) :: st) I J Q) := rIal f191_688
theorem x191_689 : Rn S 191 689 [v0, v1, v2, v3] (.int a0 :: .ref q :: st) I J Q = ((zcls S q = 6 ∧ zcs st ≤ 8) ∧ Rn S 157 0 [.ref q, .int a0] [] I J (fun v I' J' => Rn S 191 692 [v0, v1, v2, v3] (v.toList ++ st) I' J' Q)) := rCV (As := [.int a0]) f191_689 rfl rfl rfl rfl (Nat.le_of_ble_eq_true rfl)
theorem x191_692 : Rn S 191 692 [v0, v1, v2, v3] (.int b :: .int a :: st) I J Q = if a = b then Rn S 191 1266 [v0, v1, v2, v3] st I J Q else Rn S 191 695 [v0, v1, v2, v3] st I J Q := rCeq f191_692 rfl rfl
theorem x191_695 : Rn S 191 695 [v0, v1, v2, v3] st I J Q = Rn S 191 696 [v0, v1, v2, v3] (.int 0 :: st) I J Q := rS f191_695 rfl
theorem x191_696 : Rn S 191 696 [v0, v1, v2, v3] [.int a] I J Q = ((a = 0 ∨ a = 1) ∧ Q (some (.int a)) I J) := rRZ f191_696 rfl
theorem x191_697 : Rn S 191 697 [v0, .ref q, v2, v3] st I J Q = Rn S 191 698 [v0, .ref q, v2, v3] (.ref q :: st) I J Q := rL f191_697 rfl rfl
theorem x191_698 : Rn S 191 698 [v0, v1, v2, v3] (.ref q :: st) I J Q = ((zcls S q = 5 ∧ zcs st ≤ 8) ∧ Rn S 56 0 [.ref q, .null] [] I J (fun v I' J' => Rn S 191 701 [v0, v1, v2, v3] (v.toList ++ st) I' J' Q)) := rCV (As := []) f191_698 rfl rfl rfl rfl (Nat.le_of_ble_eq_true rfl)
theorem x191_701 : Rn S 191 701 [v0, v1, .ref q, v3] st I J Q = Rn S 191 702 [v0, v1, .ref q, v3] (.ref q :: st) I J Q := rL f191_701 rfl rfl
theorem x191_702 : Rn S 191 702 [v0, v1, v2, v3] (.ref q :: st) I J Q = ((zcls S q = 6 ∧ zcs st ≤ 8) ∧ Rn S 159 0 [.ref q] [] I J (fun v I' J' => Rn S 191 705 [v0, v1, v2, v3] (v.toList ++ st) I' J' Q)) := rCV (As := []) f191_702 rfl rfl rfl rfl (Nat.le_of_ble_eq_true rfl)
theorem x191_705 : Rn S 191 705 [v0, v1, v2, v3] (.int b :: .int a :: st) I J Q = if a = b then Rn S 191 1266 [v0, v1, v2, v3] st I J Q else Rn S 191 708 [v0, v1, v2, v3] st I J Q := rCeq f191_705 rfl rfl
theorem x191_708 : Rn S 191 708 [v0, v1, v2, v3] st I J Q = Rn S 191 709 [v0, v1, v2, v3] (.int 0 :: st) I J Q := rS f191_708 rfl
theorem x191_709 : Rn S 191 709 [v0, v1, v2, v3] [.int a] I J Q = ((a = 0 ∨ a = 1) ∧ Q (some (.int a)) I J) := rRZ f191_709 rfl
theorem x191_710 : Rn S 191 710 [v0, .ref q, v2, v3] st I J Q = Rn S 191 711 [v0, .ref q, v2, v3] (.ref q :: st) I J Q := rL f191_710 rfl rfl
theorem x191_711 : Rn S 191 711 [.ref q, v1, v2, v3] st I J Q = Rn S 191 712 [.ref q, v1, v2, v3] (.ref q :: st) I J Q := rL f191_711 rfl rfl
theorem x191_712 : Rn S 191 712 [v0, v1, v2, .int a] st I J Q = Rn S 191 713 [v0, v1, v2, .int a] (.int a :: st) I J Q := rL f191_712 rfl rfl
theorem x191_713 : Rn S 191 713 [v0, v1, v2, v3] st I J Q = Rn S 191 714 [v0, v1, v2, v3] (.int 1 :: st) I J Q := rS f191_713 rfl
theorem x191_714 : Rn S 191 714 [v0, v1, v2, v3] (.int b :: .int a :: st) I J Q = Rn S 191 715 [v0, v1, v2, v3] (.int (a + b) :: st) I J Q := rS f191_714 rfl
theorem x191_715 : Rn S 191 715 [v0, v1, v2, v3] (.int a :: .ref q :: st) I J Q = (zai S q a ∧ Rn S 191 716 [v0, v1, v2, v3] (.int (I q a.toNatClampNeg) :: st) I J Q) := rIal f191_715
theorem x191_716 : Rn S 191 716 [v0, v1, v2, v3] (.int a0 :: .ref q :: st) I J Q = ((zcls S q = 5 ∧ zcs st ≤ 8) ∧ Rn S 57 0 [.ref q, .int a0] [] I J (fun v I' J' => Rn S 191 719 [v0, v1, v2, v3] (v.toList ++ st) I' J' Q)) := rCV (As := [.int a0]) f191_716 rfl rfl rfl rfl (Nat.le_of_ble_eq_true rfl)
theorem x191_719 : Rn S 191 719 [v0, v1, .ref q, v3] st I J Q = Rn S 191 720 [v0, v1, .ref q, v3] (.ref q :: st) I J Q := rL f191_719 rfl rfl
theorem x191_720 : Rn S 191 720 [.ref q, v1, v2, v3] st I J Q = Rn S 191 721 [.ref q, v1, v2, v3] (.ref q :: st) I J Q := rL f191_720 rfl rfl
theorem x191_721 : Rn S 191 721 [v0, v1, v2, .int a] st I J Q = Rn S 191 722 [v0, v1, v2, .int a] (.int a :: st) I J Q := rL f191_721 rfl rfl
theorem x191_722 : Rn S 191 722 [v0, v1, v2, v3] st I J Q = Rn S 191 723 [v0, v1, v2, v3] (.int 1 :: st) I J Q := rS f191_722 rfl
theorem x191_723 : Rn S 191 723 [v0, v1, v2, v3] (.int b :: .int a :: st) I J Q = Rn S 191 724 [v0, v1, v2, v3] (.int (a + b) :: st) I J Q := rS f191_723 rfl
theorem x191_724 : Rn S 191 724 [v0, v1, v2, v3] (.int a :: .ref q :: st) I J Q = (zai S q a ∧ Rn S 191 725 [v0, v1, v2, v3] (.int (I q a.toNatClampNeg) :: st) I J Q) := rIal f191_724
theorem x191_725 : Rn S 191 725 [v0, v1, v2, v3] (.int a0 :: .ref q :: st) I J Q = ((zcls S q = 6 ∧ zcs st ≤ 8) ∧ Rn S 162 0 [.ref q, .int a0] [] I J (fun v I' J' => Rn S 191 728 [v0, v1, v2, v3] (v.toList ++ st) I' J' Q)) := rCV (As := [.int a0]) f191_725 rfl rfl rfl rfl (Nat.le_of_ble_eq_true rfl)
theorem x191_728 : Rn S 191 728 [v0, v1, v2, v3] (.int b :: .int a :: st) I J Q = if a = b then Rn S 191 1266 [v0, v1, v2, v3] st I J Q else Rn S 191 731 [v0, v1, v2, v3] st I J Q := rCeq f191_728 rfl rfl
theorem x191_731 : Rn S 191 731 [v0, v1, v2, v3] st I J Q = Rn S 191 732 [v0, v1, v2, v3] (.int 0 :: st) I J Q := rS f191_731 rfl
theorem x191_732 : Rn S 191 732 [v0, v1, v2, v3] [.int a] I J Q = ((a = 0 ∨ a = 1) ∧ Q (some (.int a)) I J) := rRZ f191_732 rfl
theorem x191_733 : Rn S 191 733 [v0, .ref q, v2, v3] st I J Q = Rn S 191 734 [v0, .ref q, v2, v3] (.ref q :: st) I J Q := rL f191_733 rfl rfl
theorem x191_734 : Rn S 191 734 [.ref q, v1, v2, v3] st I J Q = Rn S 191 735 [.ref q, v1, v2, v3] (.ref q :: st) I J Q := rL f191_734 rfl rfl
theorem x191_735 : Rn S 191 735 [v0, v1, v2, .int a] st I J Q = Rn S 191 736 [v0, v1, v2, .int a] (.int a :: st) I J Q := rL f191_735 rfl rfl
theorem x191_736 : Rn S 191 736 [v0, v1, v2, v3] st I J Q = Rn S 191 737 [v0, v1, v2, v3] (.int 1 :: st) I J Q := rS f191_736 rfl
theorem x191_737 : Rn S 191 737 [v0, v1, v2, v3] (.int b :: .int a :: st) I J Q = Rn S 191 738 [v0, v1, v2, v3] (.int (a + b) :: st) I J Q := rS f191_737 rfl
theorem x191_738 : Rn S 191 738 [v0, v1, v2, v3] (.int a :: .ref q :: st) I J Q = (zai S q a ∧ Rn S 191 739 [v0, v1, v2, v3] (.int (I q a.toNatClampNeg) :: st) I J Q) := rIal f191_738
theorem x191_739 : Rn S 191 739 [v0, v1, v2, v3] (.int a0 :: .ref q :: st) I J Q = ((zcls S q = 5 ∧ zcs st ≤ 8) ∧ Rn S 58 0 [.ref q, .int a0] [] I J (fun v I' J' => Rn S 191 742 [v0, v1, v2, v3] (v.toList ++ st) I' J' Q)) := rCV (As := [.int a0]) f191_739 rfl rfl rfl rfl (Nat.le_of_ble_eq_true rfl)
theorem x191_742 : Rn S 191 742 [v0, v1, .ref q, v3] st I J Q = Rn S 191 743 [v0, v1, .ref q, v3] (.ref q :: st) I J Q := rL f191_742 rfl rfl
theorem x191_743 : Rn S 191 743 [.ref q, v1, v2, v3] st I J Q = Rn S 191 744 [.ref q, v1, v2, v3] (.ref q :: st) I J Q := rL f191_743 rfl rfl
theorem x191_744 : Rn S 191 744 [v0, v1, v2, .int a] st I J Q = Rn S 191 745 [v0, v1, v2, .int a] (.int a :: st) I J Q := rL f191_744 rfl rfl
theorem x191_745 : Rn S 191 745 [v0, v1, v2, v3] st I J Q = Rn S 191 746 [v0, v1, v2, v3] (.int 1 :: st) I J Q := rS f191_745 rfl
theorem x191_746 : Rn S 191 746 [v0, v1, v2, v3] (.int b :: .int a :: st) I J Q = Rn S 191 747 [v0, v1, v2, v3] (.int (a + b) :: st) I J Q := rS f191_746 rfl
theorem x191_747 : Rn S 191 747 [v0, v1, v2, v3] (.int a :: .ref q :: st) I J Q = (zai S q a ∧ Rn S 191 748 [v0, v1, v2, v3] (.int (I q a.toNatClampNeg) :: st) I J Q) := rIal f191_747
theorem x191_748 : Rn S 191 748 [v0, v1, v2, v3] (.int a0 :: .ref q :: st) I J Q = ((zcls S q = 6 ∧ zcs st ≤ 8) ∧ Rn S 165 0 [.ref q, .int a0] [] I J (fun v I' J' => Rn S 191 751 [v0, v1, v2, v3] (v.toList ++ st) I' J' Q)) := rCV (As := [.int a0]) f191_748 rfl rfl rfl rfl (Nat.le_of_ble_eq_true rfl)
theorem x191_751 : Rn S 191 751 [v0, v1, v2, v3] (.int b :: .int a :: st) I J Q = if a = b then Rn S 191 1266 [v0, v1, v2, v3] st I J Q else Rn S 191 754 [v0, v1, v2, v3] st I J Q := rCeq f191_751 rfl rfl
theorem x191_754 : Rn S 191 754 [v0, v1, v2, v3] st I J Q = Rn S 191 755 [v0, v1, v2, v3] (.int 0 :: st) I J Q := rS f191_754 rfl
theorem x191_755 : Rn S 191 755 [v0, v1, v2, v3] [.int a] I J Q = ((a = 0 ∨ a = 1) ∧ Q (some (.int a)) I J) := rRZ f191_755 rfl
theorem x191_756 : Rn S 191 756 [v0, .ref q, v2, v3] st I J Q = Rn S 191 757 [v0, .ref q, v2, v3] (.ref q :: st) I J Q := rL f191_756 rfl rfl
theorem x191_757 : Rn S 191 757 [.ref q, v1, v2, v3] st I J Q = Rn S 191 758 [.ref q, v1, v2, v3] (.ref q :: st) I J Q := rL f191_757 rfl rfl
theorem x191_758 : Rn S 191 758 [v0, v1, v2, .int a] st I J Q = Rn S 191 759 [v0, v1, v2, .int a] (.int a :: st) I J Q := rL f191_758 rfl rfl
theorem x191_759 : Rn S 191 759 [v0, v1, v2, v3] st I J Q = Rn S 191 760 [v0, v1, v2, v3] (.int 1 :: st) I J Q := rS f191_759 rfl
theorem x191_760 : Rn S 191 760 [v0, v1, v2, v3] (.int b :: .int a :: st) I J Q = Rn S 191 761 [v0, v1, v2, v3] (.int (a + b) :: st) I J Q := rS f191_760 rfl
theorem x191_761 : Rn S 191 761 [v0, v1, v2, v3] (.int a :: .ref q :: st) I J Q = (zai S q a ∧ Rn S 191 762 [v0, v1, v2, v3] (.int (I q a.toNatClampNeg) :: st) I J Q) := rIal f191_761
theorem x191_762 : Rn S 191 762 [.ref q, v1, v2, v3] st I J Q = Rn S 191 763 [.ref q, v1, v2, v3] (.ref q :: st) I J Q := rL f191_762 rfl rfl
theorem x191_763 : Rn S 191 763 [v0, v1, v2, .int a] st I J Q = Rn S 191 764 [v0, v1, v2, .int a] (.int a :: st) I J Q := rL f191_763 rfl rfl
theorem x191_764 : Rn S 191 764 [v0, v1, v2, v3] st I J Q = Rn S 191 765 [v0, v1, v2, v3] (.int 2 :: st) I J Q := rS f191_764 rfl
theorem x191_765 : Rn S 191 765 [v0, v1, v2, v3] (.int b :: .int a :: st) I J Q = Rn S 191 766 [v0, v1, v2, v3] (.int (a + b) :: st) I J Q := rS f191_765 rfl
theorem x191_766 : Rn S 191 766 [v0, v1, v2, v3] (.int a :: .ref q :: st) I J Q = (zai S q a ∧ Rn S 191 767 [v0, v1, v2, v3] (.int (I q a.toNatClampNeg) :: st) I J Q) := rIal f191_766
theorem x191_767 : Rn S 191 767 [.ref q, v1, v2, v3] st I J Q = Rn S 191 768 [.ref q, v1, v2, v3] (.ref q :: st) I J Q := rL f191_767 rfl rfl
theorem x191_768 : Rn S 191 768 [v0, v1, v2, .int a] st I J Q = Rn S 191 769 [v0, v1, v2, .int a] (.int a :: st) I J Q := rL f191_768 rfl rfl
theorem x191_769 : Rn S 191 769 [v0, v1, v2, v3] st I J Q = Rn S 191 770 [v0, v1, v2, v3] (.int 3 :: st) I J Q := rS f191_769 rfl
theorem x191_770 : Rn S 191 770 [v0, v1, v2, v3] (.int b :: .int a :: st) I J Q = Rn S 191 771 [v0, v1, v2, v3] (.int (a + b) :: st) I J Q := rS f191_770 rfl
theorem x191_771 : Rn S 191 771 [v0, v1, v2, v3] (.int a :: .ref q :: st) I J Q = (zai S q a ∧ Rn S 191 772 [v0, v1, v2, v3] (.int (I q a.toNatClampNeg) :: st) I J Q) := rIal f191_771
theorem x191_772 : Rn S 191 772 [v0, v1, v2, v3] (.int a2 :: .int a1 :: .int a0 :: .ref q :: st) I J Q = ((zcls S q = 5 ∧ zcs st ≤ 8) ∧ Rn S 59 0 [.ref q, .int a0, .int a1, .int a2] [] I J (fun v I' J' => Rn S 191 775 [v0, v1, v2, v3] (v.toList ++ st) I' J' Q)) := rCV (As := [.int a0, .int a1, .int a2]) f191_772 rfl rfl rfl rfl (Nat.le_of_ble_eq_true rfl)
theorem x191_775 : Rn S 191 775 [v0, v1, .ref q, v3] st I J Q = Rn S 191 776 [v0, v1, .ref q, v3] (.ref q :: st) I J Q := rL f191_775 rfl rfl
theorem x191_776 : Rn S 191 776 [.ref q, v1, v2, v3] st I J Q = Rn S 191 777 [.ref q, v1, v2, v3] (.ref q :: st) I J Q := rL f191_776 rfl rfl
theorem x191_777 : Rn S 191 777 [v0, v1, v2, .int a] st I J Q = Rn S 191 778 [v0, v1, v2, .int a] (.int a :: st) I J Q := rL f191_777 rfl rfl
theorem x191_778 : Rn S 191 778 [v0, v1, v2, v3] st I J Q = Rn S 191 779 [v0, v1, v2, v3] (.int 1 :: st) I J Q := rS f191_778 rfl
theorem x191_779 : Rn S 191 779 [v0, v1, v2, v3] (.int b :: .int a :: st) I J Q = Rn S 191 780 [v0, v1, v2, v3] (.int (a + b) :: st) I J Q := rS f191_779 rfl
theorem x191_780 : Rn S 191 780 [v0, v1, v2, v3] (.int a :: .ref q :: st) I J Q = (zai S q a ∧ Rn S 191 781 [v0, v1, v2, v3] (.int (I q a.toNatClampNeg) :: st) I J Q) := rIal f191_780
theorem x191_781 : Rn S 191 781 [.ref q, v1, v2, v3] st I J Q = Rn S 191 782 [.ref q, v1, v2, v3] (.ref q :: st) I J Q := rL f191_781 rfl rfl
theorem x191_782 : Rn S 191 782 [v0, v1, v2, .int a] st I J Q = Rn S 191 783 [v0, v1, v2, .int a] (.int a :: st) I J Q := rL f191_782 rfl rfl
theorem x191_783 : Rn S 191 783 [v0, v1, v2, v3] st I J Q = Rn S 191 784 [v0, v1, v2, v3] (.int 2 :: st) I J Q := rS f191_783 rfl
theorem x191_784 : Rn S 191 784 [v0, v1, v2, v3] (.int b :: .int a :: st) I J Q = Rn S 191 785 [v0, v1, v2, v3] (.int (a + b) :: st) I J Q := rS f191_784 rfl
theorem x191_785 : Rn S 191 785 [v0, v1, v2, v3] (.int a :: .ref q :: st) I J Q = (zai S q a ∧ Rn S 191 786 [v0, v1, v2, v3] (.int (I q a.toNatClampNeg) :: st) I J Q) := rIal f191_785
theorem x191_786 : Rn S 191 786 [.ref q, v1, v2, v3] st I J Q = Rn S 191 787 [.ref q, v1, v2, v3] (.ref q :: st) I J Q := rL f191_786 rfl rfl
theorem x191_787 : Rn S 191 787 [v0, v1, v2, .int a] st I J Q = Rn S 191 788 [v0, v1, v2, .int a] (.int a :: st) I J Q := rL f191_787 rfl rfl
theorem x191_788 : Rn S 191 788 [v0, v1, v2, v3] st I J Q = Rn S 191 789 [v0, v1, v2, v3] (.int 3 :: st) I J Q := rS f191_788 rfl
theorem x191_789 : Rn S 191 789 [v0, v1, v2, v3] (.int b :: .int a :: st) I J Q = Rn S 191 790 [v0, v1, v2, v3] (.int (a + b) :: st) I J Q := rS f191_789 rfl
theorem x191_790 : Rn S 191 790 [v0, v1, v2, v3] (.int a :: .ref q :: st) I J Q = (zai S q a ∧ Rn S 191 791 [v0, v1, v2, v3] (.int (I q a.toNatClampNeg) :: st) I J Q) := rIal f191_790
theorem x191_791 : Rn S 191 791 [v0, v1, v2, v3] (.int a2 :: .int a1 :: .int a0 :: .ref q :: st) I J Q = ((zcls S q = 6 ∧ zcs st ≤ 8) ∧ Rn S 166 0 [.ref q, .int a0, .int a1, .int a2] [] I J (fun v I' J' => Rn S 191 794 [v0, v1, v2, v3] (v.toList ++ st) I' J' Q)) := rCV (As := [.int a0, .int a1, .int a2]) f191_791 rfl rfl rfl rfl (Nat.le_of_ble_eq_true rfl)
theorem x191_794 : Rn S 191 794 [v0, v1, v2, v3] (.int b :: .int a :: st) I J Q = if a = b then Rn S 191 1266 [v0, v1, v2, v3] st I J Q else Rn S 191 797 [v0, v1, v2, v3] st I J Q := rCeq f191_794 rfl rfl
theorem x191_797 : Rn S 191 797 [v0, v1, v2, v3] st I J Q = Rn S 191 798 [v0, v1, v2, v3] (.int 0 :: st) I J Q := rS f191_797 rfl
theorem x191_798 : Rn S 191 798 [v0, v1, v2, v3] [.int a] I J Q = ((a = 0 ∨ a = 1) ∧ Q (some (.int a)) I J) := rRZ f191_798 rfl
theorem x191_799 : Rn S 191 799 [v0, .ref q, v2, v3] st I J Q = Rn S 191 800 [v0, .ref q, v2, v3] (.ref q :: st) I J Q := rL f191_799 rfl rfl
theorem x191_800 : Rn S 191 800 [v0, v1, v2, v3] (.ref q :: st) I J Q = ((zcls S q = 5 ∧ zcs st ≤ 8) ∧ Rn S 60 0 [.ref q, .null] [] I J (fun v I' J' => Rn S 191 803 [v0, v1, v2, v3] (v.toList ++ st) I' J' Q)) := rCV (As := []) f191_800 rfl rfl rfl rfl (Nat.le_of_ble_eq_true rfl)
theorem x191_803 : Rn S 191 803 [v0, v1, .ref q, v3] st I J Q = Rn S 191 804 [v0, v1, .ref q, v3] (.ref q :: st) I J Q := rL f191_803 rfl rfl
theorem x191_804 : Rn S 191 804 [v0, v1, v2, v3] (.ref q :: st) I J Q = ((zcls S q = 6 ∧ zcs st ≤ 8) ∧ Rn S 167 0 [.ref q, .null] [] I J (fun v I' J' => Rn S 191 807 [v0, v1, v2, v3] (v.toList ++ st) I' J' Q)) := rCV (As := []) f191_804 rfl rfl rfl rfl (Nat.le_of_ble_eq_true rfl)
theorem x191_807 : Rn S 191 807 [v0, v1, v2, v3] (.int b :: .int a :: st) I J Q = if a = b then Rn S 191 1266 [v0, v1, v2, v3] st I J Q else Rn S 191 810 [v0, v1, v2, v3] st I J Q := rCeq f191_807 rfl rfl
theorem x191_810 : Rn S 191 810 [v0, v1, v2, v3] st I J Q = Rn S 191 811 [v0, v1, v2, v3] (.int 0 :: st) I J Q := rS f191_810 rfl
theorem x191_811 : Rn S 191 811 [v0, v1, v2, v3] [.int a] I J Q = ((a = 0 ∨ a = 1) ∧ Q (some (.int a)) I J) := rRZ f191_811 rfl
theorem x191_812 : Rn S 191 812 [v0, .ref q, v2, v3] st I J Q = Rn S 191 813 [v0, .ref q, v2, v3] (.ref q :: st) I J Q := rL f191_812 rfl rfl
theorem x191_813 : Rn S 191 813 [v0, v1, v2, v3] (.ref q :: st) I J Q = ((zcls S q = 5 ∧ zcs st ≤ 8) ∧ Rn S 61 0 [.ref q, .null, .null] [] I J (fun v I' J' => Rn S 191 816 [v0, v1, v2, v3] (v.toList ++ st) I' J' Q)) := rCV (As := []) f191_813 rfl rfl rfl rfl (Nat.le_of_ble_eq_true rfl)
theorem x191_816 : Rn S 191 816 [v0, v1, .ref q, v3] st I J Q = Rn S 191 817 [v0, v1, .ref q, v3] (.ref q :: st) I J Q := rL f191_816 rfl rfl
theorem x191_817 : Rn S 191 817 [v0, v1, v2, v3] (.ref q :: st) I J Q = ((zcls S q = 6 ∧ zcs st ≤ 8) ∧ Rn S 170 0 [.ref q] [] I J (fun v I' J' => Rn S 191 820 [v0, v1, v2, v3] (v.toList ++ st) I' J' Q)) := rCV (As := []) f191_817 rfl rfl rfl rfl (Nat.le_of_ble_eq_true rfl)
theorem x191_820 : Rn S 191 820 [v0, v1, v2, v3] (.int b :: .int a :: st) I J Q = if a = b then Rn S 191 1266 [v0, v1, v2, v3] st I J Q else Rn S 191 823 [v0, v1, v2, v3] st I J Q := rCeq f191_820 rfl rfl
theorem x191_823 : Rn S 191 823 [v0, v1, v2, v3] st I J Q = Rn S 191 824 [v0, v1, v2, v3] (.int 0 :: st) I J Q := rS f191_823 rfl
theorem x191_824 : Rn S 191 824 [v0, v1, v2, v3] [.int a] I J Q = ((a = 0 ∨ a = 1) ∧ Q (some (.int a)) I J) := rRZ f191_824 rfl
theorem x191_825 : Rn S 191 825 [v0, .ref q, v2, v3] st I J Q = Rn S 191 826 [v0, .ref q, v2, v3] (.ref q :: st) I J Q := rL f191_825 rfl rfl
theorem x191_826 : Rn S 191 826 [.ref q, v1, v2, v3] st I J Q = Rn S 191 827 [.ref q, v1, v2, v3] (.ref q :: st) I J Q := rL f191_826 rfl rfl
theorem x191_827 : Rn S 191 827 [v0, v1, v2, .int a] st I J Q = Rn S 191 828 [v0, v1, v2, .int a] (.int a :: st) I J Q := rL f191_827 rfl rfl
theorem x191_828 : Rn S 191 828 [v0, v1, v2, v3] st I J Q = Rn S 191 829 [v0, v1, v2, v3] (.int 1 :: st) I J Q := rS f191_828 rfl
theorem x191_829 : Rn S 191 829 [v0, v1, v2, v3] (.int b :: .int a :: st) I J Q = Rn S 191 830 [v0, v1, v2, v3] (.int (a + b) :: st) I J Q := rS f191_829 rfl
theorem x191_830 : Rn S 191 830 [v0, v1, v2, v3] (.int a :: .ref q :: st) I J Q = (zai S q a ∧ Rn S 191 831 [v0, v1, v2, v3] (.int (I q a.toNatClampNeg) :: st) I J Q) := rIal f191_830
theorem x191_831 : Rn S 191 831 [v0, v1, v2, v3] (.int a0 :: .ref q :: st) I J Q = ((zcls S q = 5 ∧ zcs st ≤ 8) ∧ Rn S 62 0 [.ref q, .int a0] [] I J (fun v I' J' => Rn S 191 834 [v0, v1, v2, v3] (v.toList ++ st) I' J' Q)) := rCV (As := [.int a0]) f191_831 rfl rfl rfl rfl (Nat.le_of_ble_eq_true rfl)
theorem x191_834 : Rn S 191 834 [v0, v1, .ref q, v3] st I J Q = Rn S 191 835 [v0, v1, .ref q, v3] (.ref q :: st) I J Q := rL f191_834 rfl rfl
theorem x191_835 : Rn S 191 835 [.ref q, v1, v2, v3] st I J Q = Rn S 191 836 [.ref q, v1, v2, v3] (.ref q :: st) I J Q := rL f191_835 rfl rfl
theorem x191_836 : Rn S 191 836 [v0, v1, v2, .int a] st I J Q = Rn S 191 837 [v0, v1, v2, .int a] (.int a :: st) I J Q := rL f191_836 rfl rfl
theorem x191_837 : Rn S 191 837 [v0, v1, v2, v3] st I J Q = Rn S 191 838 [v0, v1, v2, v3] (.int 1 :: st) I J Q := rS f191_837 rfl
theorem x191_838 : Rn S 191 838 [v0, v1, v2, v3] (.int b :: .int a :: st) I J Q = Rn S 191 839 [v0, v1, v2, v3] (.int (a + b) :: st) I J Q := rS f191_838 rfl
theorem x191_839 : Rn S 191 839 [v0, v1, v2, v3] (.int a :: .ref q :: st) I J Q = (zai S q a ∧ Rn S 191 840 [v0, v1, v2, v3] (.int (I q a.toNatClampNeg) :: st) I J Q) := rIal f191_839
theorem x191_840 : Rn S 191 840 [v0, v1, v2, v3] (.int a0 :: .ref q :: st) I J Q = ((zcls S q = 6 ∧ zcs st ≤ 8) ∧ Rn S 172 0 [.ref q, .int a0] [] I J (fun v I' J' => Rn S 191 843 [v0, v1, v2, v3] (v.toList ++ st) I' J' Q)) := rCV (As := [.int a0]) f191_840 rfl rfl rfl rfl (Nat.le_of_ble_eq_true rfl)
theorem x191_843 : Rn S 191 843 [v0, v1, v2, v3] (.int b :: .int a :: st) I J Q = if a = b then Rn S 191 1266 [v0, v1, v2, v3] st I J Q else Rn S 191 846 [v0, v1, v2, v3] st I J Q := rCeq f191_843 rfl rfl
theorem x191_846 : Rn S 191 846 [v0, v1, v2, v3] st I J Q = Rn S 191 847 [v0, v1, v2, v3] (.int 0 :: st) I J Q := rS f191_846 rfl
theorem x191_847 : Rn S 191 847 [v0, v1, v2, v3] [.int a] I J Q = ((a = 0 ∨ a = 1) ∧ Q (some (.int a)) I J) := rRZ f191_847 rfl
theorem x191_848 : Rn S 191 848 [v0, .ref q, v2, v3] st I J Q = Rn S 191 849 [v0, .ref q, v2, v3] (.ref q :: st) I J Q := rL f191_848 rfl rfl
theorem x191_849 : Rn S 191 849 [.ref q, v1, v2, v3] st I J Q = Rn S 191 850 [.ref q, v1, v2, v3] (.ref q :: st) I J Q := rL f191_849 rfl rfl
theorem x191_850 : Rn S 191 850 [v0, v1, v2, .int a] st I J Q = Rn S 191 851 [v0, v1, v2, .int a] (.int a :: st) I J Q := rL f191_850 rfl rfl
theorem x191_851 : Rn S 191 851 [v0, v1, v2, v3] st I J Q = Rn S 191 852 [v0, v1, v2, v3] (.int 1 :: st) I J Q := rS f191_851 rfl
theorem x191_852 : Rn S 191 852 [v0, v1, v2, v3] (.int b :: .int a :: st) I J Q = Rn S 191 853 [v0, v1, v2, v3] (.int (a + b) :: st) I J Q := rS f191_852 rfl
theorem x191_853 : Rn S 191 853 [v0, v1, v2, v3] (.int a :: .ref q :: st) I J Q = (zai S q a ∧ Rn S 191 854 [v0, v1, v2, v3] (.int (I q a.toNatClampNeg) :: st) I J Q) := rIal f191_853
theorem x191_854 : Rn S 191 854 [v0, v1, v2, v3] (.int a0 :: .ref q :: st) I J Q = ((zcls S q = 5 ∧ zcs st ≤ 8) ∧ Rn S 63 0 [.ref q, .int a0, .null, .null] [] I J (fun v I' J' => Rn S 191 857 [v0, v1, v2, v3] (v.toList ++ st) I' J' Q)) := rCV (As := [.int a0]) f191_854 rfl rfl rfl rfl (Nat.le_of_ble_eq_true rfl)
theorem x191_857 : Rn S 191 857 [v0, v1, .ref q, v3] st I J Q = Rn S 191 858 [v0, v1, .ref q, v3] (.ref q :: st) I J Q := rL f191_857 rfl rfl
theorem x191_858 : Rn S 191 858 [.ref q, v1, v2, v3] st I J Q = Rn S 191 859 [.ref q, v1, v2, v3] (.ref q :: st) I J Q := rL f191_858 rfl rfl
theorem x191_859 : Rn S 191 859 [v0, v1, v2, .int a] st I J Q = Rn S 191 860 [v0, v1, v2, .int a] (.int a :: st) I J Q := rL f191_859 rfl rfl
theorem x191_860 : Rn S 191 860 [v0, v1, v2, v3] st I J Q = Rn S 191 861 [v0, v1, v2, v3] (.int 1 :: st) I J Q := rS f191_860 rfl
theorem x191_861 : Rn S 191 861 [v0, v1, v2, v3] (.int b :: .int a :: st) I J Q = Rn S 191 862 [v0, v1, v2, v3] (.int (a + b) :: st) I J Q := rS f191_861 rfl
theorem x191_862 : Rn S 191 862 [v0, v1, v2, v3] (.int a :: .ref q :: st) I J Q = (zai S q a ∧ Rn S 191 863 [v0, v1, v2, v3] (.int (I q a.toNatClampNeg) :: st) I J Q) := rIal f191_862
theorem x191_863 : Rn S 191 863 [v0, v1, v2, v3] (.int a0 :: .ref q :: st) I J Q = ((zcls S q = 6 ∧ zcs st ≤ 8) ∧ Rn S 174 0 [.ref q, .int a0] [] I J (fun v I' J' => Rn S 191 866 [v0, v1, v2, v3] (v.toList ++ st) I' J' Q)) := rCV (As := [.int a0]) f191_863 rfl rfl rfl rfl (Nat.le_of_ble_eq_true rfl)
theorem x191_866 : Rn S 191 866 [v0, v1, v2, v3] (.int b :: .int a :: st) I J Q = if a = b then Rn S 191 1266 [v0, v1, v2, v3] st I J Q else Rn S 191 869 [v0, v1, v2, v3] st I J Q := rCeq f191_866 rfl rfl
theorem x191_869 : Rn S 191 869 [v0, v1, v2, v3] st I J Q = Rn S 191 870 [v0, v1, v2, v3] (.int 0 :: st) I J Q := rS f191_869 rfl
theorem x191_870 : Rn S 191 870 [v0, v1, v2, v3] [.int a] I J Q = ((a = 0 ∨ a = 1) ∧ Q (some (.int a)) I J) := rRZ f191_870 rfl
theorem x191_871 : Rn S 191 871 [v0, .ref q, v2, v3] st I J Q = Rn S 191 872 [v0, .ref q, v2, v3] (.ref q :: st) I J Q := rL f191_871 rfl rfl
theorem x191_872 : Rn S 191 872 [.ref q, v1, v2, v3] st I J Q = Rn S 191 873 [.ref q, v1, v2, v3] (.ref q :: st) I J Q := rL f191_872 rfl rfl
theorem x191_873 : Rn S 191 873 [v0, v1, v2, .int a] st I J Q = Rn S 191 874 [v0, v1, v2, .int a] (.int a :: st) I J Q := rL f191_873 rfl rfl
theorem x191_874 : Rn S 191 874 [v0, v1, v2, v3] st I J Q = Rn S 191 875 [v0, v1, v2, v3] (.int 1 :: st) I J Q := rS f191_874 rfl
theorem x191_875 : Rn S 191 875 [v0, v1, v2, v3] (.int b :: .int a :: st) I J Q = Rn S 191 876 [v0, v1, v2, v3] (.int (a + b) :: st) I J Q := rS f191_875 rfl
theorem x191_876 : Rn S 191 876 [v0, v1, v2, v3] (.int a :: .ref q :: st) I J Q = (zai S q a ∧ Rn S 191 877 [v0, v1, v2, v3] (.int (I q a.toNatClampNeg) :: st) I J Q) := rIal f191_876
theorem x191_877 : Rn S 191 877 [v0, v1, v2, v3] (.int a0 :: .ref q :: st) I J Q = ((zcls S q = 5 ∧ zcs st ≤ 8) ∧ Rn S 64 0 [.ref q, .int a0, .null, .null, .null, .null, .null] [] I J (fun v I' J' => Rn S 191 880 [v0, v1, v2, v3] (v.toList ++ st) I' J' Q)) := rCV (As := [.int a0]) f191_877 rfl rfl rfl rfl (Nat.le_of_ble_eq_true rfl)
theorem x191_880 : Rn S 191 880 [v0, v1, .ref q, v3] st I J Q = Rn S 191 881 [v0, v1, .ref q, v3] (.ref q :: st) I J Q := rL f191_880 rfl rfl
theorem x191_881 : Rn S 191 881 [.ref q, v1, v2, v3] st I J Q = Rn S 191 882 [.ref q, v1, v2, v3] (.ref q :: st) I J Q := rL f191_881 rfl rfl
theorem x191_882 : Rn S 191 882 [v0, v1, v2, .int a] st I J Q = Rn S 191 883 [v0, v1, v2, .int a] (.int a :: st) I J Q := rL f191_882 rfl rfl
theorem x191_883 : Rn S 191 883 [v0, v1, v2, v3] st I J Q = Rn S 191 884 [v0, v1, v2, v3] (.int 1 :: st) I J Q := rS f191_883 rfl
theorem x191_884 : Rn S 191 884 [v0, v1, v2, v3] (.int b :: .int a :: st) I J Q = Rn S 191 885 [v0, v1, v2, v3] (.int (a + b) :: st) I J Q := rS f191_884 rfl
theorem x191_885 : Rn S 191 885 [v0, v1, v2, v3] (.int a :: .ref q :: st) I J Q = (zai S q a ∧ Rn S 191 886 [v0, v1, v2, v3] (.int (I q a.toNatClampNeg) :: st) I J Q) := rIal f191_885
theorem x191_886 : Rn S 191 886 [v0, v1, v2, v3] (.int a0 :: .ref q :: st) I J Q = ((zcls S q = 6 ∧ zcs st ≤ 8) ∧ Rn S 177 0 [.ref q, .int a0] [] I J (fun v I' J' => Rn S 191 889 [v0, v1, v2, v3] (v.toList ++ st) I' J' Q)) := rCV (As := [.int a0]) f191_886 rfl rfl rfl rfl (Nat.le_of_ble_eq_true rfl)
theorem x191_889 : Rn S 191 889 [v0, v1, v2, v3] (.int b :: .int a :: st) I J Q = if a = b then Rn S 191 1266 [v0, v1, v2, v3] st I J Q else Rn S 191 892 [v0, v1, v2, v3] st I J Q := rCeq f191_889 rfl rfl
theorem x191_892 : Rn S 191 892 [v0, v1, v2, v3] st I J Q = Rn S 191 893 [v0, v1, v2, v3] (.int 0 :: st) I J Q := rS f191_892 rfl
theorem x191_893 : Rn S 191 893 [v0, v1, v2, v3] [.int a] I J Q = ((a = 0 ∨ a = 1) ∧ Q (some (.int a)) I J) := rRZ f191_893 rfl
theorem x191_894 : Rn S 191 894 [v0, .ref q, v2, v3] st I J Q = Rn S 191 895 [v0, .ref q, v2, v3] (.ref q :: st) I J Q := rL f191_894 rfl rfl
theorem x191_895 : Rn S 191 895 [.ref q, v1, v2, v3] st I J Q = Rn S 191 896 [.ref q, v1, v2, v3] (.ref q :: st) I J Q := rL f191_895 rfl rfl
theorem x191_896 : Rn S 191 896 [v0, v1, v2, .int a] st I J Q = Rn S 191 897 [v0, v1, v2, .int a] (.int a :: st) I J Q := rL f191_896 rfl rfl
theorem x191_897 : Rn S 191 897 [v0, v1, v2, v3] st I J Q = Rn S 191 898 [v0, v1, v2, v3] (.int 1 :: st) I J Q := rS f191_897 rfl
theorem x191_898 : Rn S 191 898 [v0, v1, v2, v3] (.int b :: .int a :: st) I J Q = Rn S 191 899 [v0, v1, v2, v3] (.int (a + b) :: st) I J Q := rS f191_898 rfl
theorem x191_899 : Rn S 191 899 [v0, v1, v2, v3] (.int a :: .ref q :: st) I J Q = (zai S q a ∧ Rn S 191 900 [v0, v1, v2, v3] (.int (I q a.toNatClampNeg) :: st) I J Q) := rIal f191_899
theorem x191_900 : Rn S 191 900 [.ref q, v1, v2, v3] st I J Q = Rn S 191 901 [.ref q, v1, v2, v3] (.ref q :: st) I J Q := rL f191_900 rfl rfl
theorem x191_901 : Rn S 191 901 [v0, v1, v2, .int a] st I J Q = Rn S 191 902 [v0, v1, v2, .int a] (.int a :: st) I J Q := rL f191_901 rfl rfl
theorem x191_902 : Rn S 191 902 [v0, v1, v2, v3] st I J Q = Rn S 191 903 [v0, v1, v2, v3] (.int 2 :: st) I J Q := rS f191_902 rfl
theorem x191_903 : Rn S 191 903 [v0, v1, v2, v3] (.int b :: .int a :: st) I J Q = Rn S 191 904 [v0, v1, v2, v3] (.int (a + b) :: st) I J Q := rS f191_903 rfl
theorem x191_904 : Rn S 191 904 [v0, v1, v2, v3] (.int a :: .ref q :: st) I J Q = (zai S q a ∧ Rn S 191 905 [v0, v1, v2, v3] (.int (I q a.toNatClampNeg) :: st) I J Q) := rIal f191_904
theorem x191_905 : Rn S 191 905 [.ref q, v1, v2, v3] st I J Q = Rn S 191 906 [.ref q, v1, v2, v3] (.ref q :: st) I J Q := rL f191_905 rfl rfl
theorem x191_906 : Rn S 191 906 [v0, v1, v2, .int a] st I J Q = Rn S 191 907 [v0, v1, v2, .int a] (.int a :: st) I J Q := rL f191_906 rfl rfl
theorem x191_907 : Rn S 191 907 [v0, v1, v2, v3] st I J Q = Rn S 191 908 [v0, v1, v2, v3] (.int 3 :: st) I J Q := rS f191_907 rfl
theorem x191_908 : Rn S 191 908 [v0, v1, v2, v3] (.int b :: .int a :: st) I J Q = Rn S 191 909 [v0, v1, v2, v3] (.int (a + b) :: st) I J Q := rS f191_908 rfl
theorem x191_909 : Rn S 191 909 [v0, v1, v2, v3] (.int a :: .ref q :: st) I J Q = (zai S q a ∧ Rn S 191 910 [v0, v1, v2, v3] (.int (I q a.toNatClampNeg) :: st) I J Q) := rIal f191_909
theorem x191_910 : Rn S 191 910 [v0, v1, v2, v3] (.int a2 :: .int a1 :: .int a0 :: .ref q :: st) I J Q = ((zcls S q = 5 ∧ zcs st ≤ 8) ∧ Rn S 65 0 [.ref q, .int a0, .int a1, .int a2] [] I J (fun v I' J' => Rn S 191 913 [v0, v1, v2, v3] (v.toList ++ st) I' J' Q)) := rCV (As := [.int a0, .int a1, .int a2]) f191_910 rfl rfl rfl rfl (Nat.le_of_ble_eq_true rfl)
theorem x191_913 : Rn S 191 913 [v0, v1, .ref q, v3] st I J Q = Rn S 191 914 [v0, v1, .ref q, v3] (.ref q :: st) I J Q := rL f191_913 rfl rfl
theorem x191_914 : Rn S 191 914 [.ref q, v1, v2, v3] st I J Q = Rn S 191 915 [.ref q, v1, v2, v3] (.ref q :: st) I J Q := rL f191_914 rfl rfl
theorem x191_915 : Rn S 191 915 [v0, v1, v2, .int a] st I J Q = Rn S 191 916 [v0, v1, v2, .int a] (.int a :: st) I J Q := rL f191_915 rfl rfl
theorem x191_916 : Rn S 191 916 [v0, v1, v2, v3] st I J Q = Rn S 191 917 [v0, v1, v2, v3] (.int 1 :: st) I J Q := rS f191_916 rfl
theorem x191_917 : Rn S 191 917 [v0, v1, v2, v3] (.int b :: .int a :: st) I J Q = Rn S 191 918 [v0, v1, v2, v3] (.int (a + b) :: st) I J Q := rS f191_917 rfl
theorem x191_918 : Rn S 191 918 [v0, v1, v2, v3] (.int a :: .ref q :: st) I J Q = (zai S q a ∧ Rn S 191 919 [v0, v1, v2, v3] (.int (I q a.toNatClampNeg) :: st) I J Q) := rIal f191_918
theorem x191_919 : Rn S 191 919 [.ref q, v1, v2, v3] st I J Q = Rn S 191 920 [.ref q, v1, v2, v3] (.ref q :: st) I J Q := rL f191_919 rfl rfl
theorem x191_920 : Rn S 191 920 [v0, v1, v2, .int a] st I J Q = Rn S 191 921 [v0, v1, v2, .int a] (.int a :: st) I J Q := rL f191_920 rfl rfl
theorem x191_921 : Rn S 191 921 [v0, v1, v2, v3] st I J Q = Rn S 191 922 [v0, v1, v2, v3] (.int 2 :: st) I J Q := rS f191_921 rfl
theorem x191_922 : Rn S 191 922 [v0, v1, v2, v3] (.int b :: .int a :: st) I J Q = Rn S 191 923 [v0, v1, v2, v3] (.int (a + b) :: st) I J Q := rS f191_922 rfl
theorem x191_923 : Rn S 191 923 [v0, v1, v2, v3] (.int a :: .ref q :: st) I J Q = (zai S q a ∧ Rn S 191 924 [v0, v1, v2, v3] (.int (I q a.toNatClampNeg) :: st) I J Q) := rIal f191_923
theorem x191_924 : Rn S 191 924 [.ref q, v1, v2, v3] st I J Q = Rn S 191 925 [.ref q, v1, v2, v3] (.ref q :: st) I J Q := rL f191_924 rfl rfl
theorem x191_925 : Rn S 191 925 [v0, v1, v2, .int a] st I J Q = Rn S 191 926 [v0, v1, v2, .int a] (.int a :: st) I J Q := rL f191_925 rfl rfl
theorem x191_926 : Rn S 191 926 [v0, v1, v2, v3] st I J Q = Rn S 191 927 [v0, v1, v2, v3] (.int 3 :: st) I J Q := rS f191_926 rfl
theorem x191_927 : Rn S 191 927 [v0, v1, v2, v3] (.int b :: .int a :: st) I J Q = Rn S 191 928 [v0, v1, v2, v3] (.int (a + b) :: st) I J Q := rS f191_927 rfl
theorem x191_928 : Rn S 191 928 [v0, v1, v2, v3] (.int a :: .ref q :: st) I J Q = (zai S q a ∧ Rn S 191 929 [v0, v1, v2, v3] (.int (I q a.toNatClampNeg) :: st) I J Q) := rIal f191_928
theorem x191_929 : Rn S 191 929 [v0, v1, v2, v3] (.int a2 :: .int a1 :: .int a0 :: .ref q :: st) I J Q = ((zcls S q = 6 ∧ zcs st ≤ 8) ∧ Rn S 179 0 [.ref q, .int a0, .int a1, .int a2] [] I J (fun v I' J' => Rn S 191 932 [v0, v1, v2, v3] (v.toList ++ st) I' J' Q)) := rCV (As := [.int a0, .int a1, .int a2]) f191_929 rfl rfl rfl rfl (Nat.le_of_ble_eq_true rfl)
theorem x191_932 : Rn S 191 932 [v0, v1, v2, v3] (.long w :: .long u :: st) I J Q = Rn S 191 933 [v0, v1, v2, v3] (.int (lg_cmp u w) :: st) I J Q := rS f191_932 rfl
theorem x191_933 : Rn S 191 933 [v0, v1, v2, v3] (.int a :: st) I J Q = if a = 0 then Rn S 191 1266 [v0, v1, v2, v3] st I J Q else Rn S 191 936 [v0, v1, v2, v3] st I J Q := rIeq f191_933 rfl rfl
theorem x191_936 : Rn S 191 936 [v0, v1, v2, v3] st I J Q = Rn S 191 937 [v0, v1, v2, v3] (.int 0 :: st) I J Q := rS f191_936 rfl
theorem x191_937 : Rn S 191 937 [v0, v1, v2, v3] [.int a] I J Q = ((a = 0 ∨ a = 1) ∧ Q (some (.int a)) I J) := rRZ f191_937 rfl
theorem x191_938 : Rn S 191 938 [v0, .ref q, v2, v3] st I J Q = Rn S 191 939 [v0, .ref q, v2, v3] (.ref q :: st) I J Q := rL f191_938 rfl rfl
theorem x191_939 : Rn S 191 939 [.ref q, v1, v2, v3] st I J Q = Rn S 191 940 [.ref q, v1, v2, v3] (.ref q :: st) I J Q := rL f191_939 rfl rfl
theorem x191_940 : Rn S 191 940 [v0, v1, v2, .int a] st I J Q = Rn S 191 941 [v0, v1, v2, .int a] (.int a :: st) I J Q := rL f191_940 rfl rfl
theorem x191_941 : Rn S 191 941 [v0, v1, v2, v3] st I J Q = Rn S 191 942 [v0, v1, v2, v3] (.int 1 :: st) I J Q := rS f191_941 rfl
theorem x191_942 : Rn S 191 942 [v0, v1, v2, v3] (.int b :: .int a :: st) I J Q = Rn S 191 943 [v0, v1, v2, v3] (.int (a + b) :: st) I J Q := rS f191_942 rfl
theorem x191_943 : Rn S 191 943 [v0, v1, v2, v3] (.int a :: .ref q :: st) I J Q = (zai S q a ∧ Rn S 191 944 [v0, v1, v2, v3] (.int (I q a.toNatClampNeg) :: st) I J Q) := rIal f191_943
theorem x191_944 : Rn S 191 944 [.ref q, v1, v2, v3] st I J Q = Rn S 191 945 [.ref q, v1, v2, v3] (.ref q :: st) I J Q := rL f191_944 rfl rfl
theorem x191_945 : Rn S 191 945 [v0, v1, v2, .int a] st I J Q = Rn S 191 946 [v0, v1, v2, .int a] (.int a :: st) I J Q := rL f191_945 rfl rfl
theorem x191_946 : Rn S 191 946 [v0, v1, v2, v3] st I J Q = Rn S 191 947 [v0, v1, v2, v3] (.int 2 :: st) I J Q := rS f191_946 rfl
theorem x191_947 : Rn S 191 947 [v0, v1, v2, v3] (.int b :: .int a :: st) I J Q = Rn S 191 948 [v0, v1, v2, v3] (.int (a + b) :: st) I J Q := rS f191_947 rfl
theorem x191_948 : Rn S 191 948 [v0, v1, v2, v3] (.int a :: .ref q :: st) I J Q = (zai S q a ∧ Rn S 191 949 [v0, v1, v2, v3] (.int (I q a.toNatClampNeg) :: st) I J Q) := rIal f191_948
theorem x191_949 : Rn S 191 949 [.ref q, v1, v2, v3] st I J Q = Rn S 191 950 [.ref q, v1, v2, v3] (.ref q :: st) I J Q := rL f191_949 rfl rfl
theorem x191_950 : Rn S 191 950 [v0, v1, v2, .int a] st I J Q = Rn S 191 951 [v0, v1, v2, .int a] (.int a :: st) I J Q := rL f191_950 rfl rfl
theorem x191_951 : Rn S 191 951 [v0, v1, v2, v3] st I J Q = Rn S 191 952 [v0, v1, v2, v3] (.int 3 :: st) I J Q := rS f191_951 rfl
theorem x191_952 : Rn S 191 952 [v0, v1, v2, v3] (.int b :: .int a :: st) I J Q = Rn S 191 953 [v0, v1, v2, v3] (.int (a + b) :: st) I J Q := rS f191_952 rfl
theorem x191_953 : Rn S 191 953 [v0, v1, v2, v3] (.int a :: .ref q :: st) I J Q = (zai S q a ∧ Rn S 191 954 [v0, v1, v2, v3] (.int (I q a.toNatClampNeg) :: st) I J Q) := rIal f191_953
theorem x191_954 : Rn S 191 954 [v0, v1, v2, v3] (.int a2 :: .int a1 :: .int a0 :: .ref q :: st) I J Q = ((zcls S q = 5 ∧ zcs st ≤ 8) ∧ Rn S 66 0 [.ref q, .int a0, .int a1, .int a2] [] I J (fun v I' J' => Rn S 191 957 [v0, v1, v2, v3] (v.toList ++ st) I' J' Q)) := rCV (As := [.int a0, .int a1, .int a2]) f191_954 rfl rfl rfl rfl (Nat.le_of_ble_eq_true rfl)
theorem x191_957 : Rn S 191 957 [v0, v1, .ref q, v3] st I J Q = Rn S 191 958 [v0, v1, .ref q, v3] (.ref q :: st) I J Q := rL f191_957 rfl rfl
theorem x191_958 : Rn S 191 958 [.ref q, v1, v2, v3] st I J Q = Rn S 191 959 [.ref q, v1, v2, v3] (.ref q :: st) I J Q := rL f191_958 rfl rfl
theorem x191_959 : Rn S 191 959 [v0, v1, v2, .int a] st I J Q = Rn S 191 960 [v0, v1, v2, .int a] (.int a :: st) I J Q := rL f191_959 rfl rfl
theorem x191_960 : Rn S 191 960 [v0, v1, v2, v3] st I J Q = Rn S 191 961 [v0, v1, v2, v3] (.int 1 :: st) I J Q := rS f191_960 rfl
theorem x191_961 : Rn S 191 961 [v0, v1, v2, v3] (.int b :: .int a :: st) I J Q = Rn S 191 962 [v0, v1, v2, v3] (.int (a + b) :: st) I J Q := rS f191_961 rfl
theorem x191_962 : Rn S 191 962 [v0, v1, v2, v3] (.int a :: .ref q :: st) I J Q = (zai S q a ∧ Rn S 191 963 [v0, v1, v2, v3] (.int (I q a.toNatClampNeg) :: st) I J Q) := rIal f191_962
theorem x191_963 : Rn S 191 963 [.ref q, v1, v2, v3] st I J Q = Rn S 191 964 [.ref q, v1, v2, v3] (.ref q :: st) I J Q := rL f191_963 rfl rfl
theorem x191_964 : Rn S 191 964 [v0, v1, v2, .int a] st I J Q = Rn S 191 965 [v0, v1, v2, .int a] (.int a :: st) I J Q := rL f191_964 rfl rfl
theorem x191_965 : Rn S 191 965 [v0, v1, v2, v3] st I J Q = Rn S 191 966 [v0, v1, v2, v3] (.int 2 :: st) I J Q := rS f191_965 rfl
theorem x191_966 : Rn S 191 966 [v0, v1, v2, v3] (.int b :: .int a :: st) I J Q = Rn S 191 967 [v0, v1, v2, v3] (.int (a + b) :: st) I J Q := rS f191_966 rfl
theorem x191_967 : Rn S 191 967 [v0, v1, v2, v3] (.int a :: .ref q :: st) I J Q = (zai S q a ∧ Rn S 191 968 [v0, v1, v2, v3] (.int (I q a.toNatClampNeg) :: st) I J Q) := rIal f191_967
theorem x191_968 : Rn S 191 968 [.ref q, v1, v2, v3] st I J Q = Rn S 191 969 [.ref q, v1, v2, v3] (.ref q :: st) I J Q := rL f191_968 rfl rfl
theorem x191_969 : Rn S 191 969 [v0, v1, v2, .int a] st I J Q = Rn S 191 970 [v0, v1, v2, .int a] (.int a :: st) I J Q := rL f191_969 rfl rfl
theorem x191_970 : Rn S 191 970 [v0, v1, v2, v3] st I J Q = Rn S 191 971 [v0, v1, v2, v3] (.int 3 :: st) I J Q := rS f191_970 rfl
theorem x191_971 : Rn S 191 971 [v0, v1, v2, v3] (.int b :: .int a :: st) I J Q = Rn S 191 972 [v0, v1, v2, v3] (.int (a + b) :: st) I J Q := rS f191_971 rfl
theorem x191_972 : Rn S 191 972 [v0, v1, v2, v3] (.int a :: .ref q :: st) I J Q = (zai S q a ∧ Rn S 191 973 [v0, v1, v2, v3] (.int (I q a.toNatClampNeg) :: st) I J Q) := rIal f191_972
theorem x191_973 : Rn S 191 973 [v0, v1, v2, v3] (.int a2 :: .int a1 :: .int a0 :: .ref q :: st) I J Q = ((zcls S q = 6 ∧ zcs st ≤ 8) ∧ Rn S 182 0 [.ref q, .int a0, .int a1, .int a2] [] I J (fun v I' J' => Rn S 191 976 [v0, v1, v2, v3] (v.toList ++ st) I' J' Q)) := rCV (As := [.int a0, .int a1, .int a2]) f191_973 rfl rfl rfl rfl (Nat.le_of_ble_eq_true rfl)
theorem x191_976 : Rn S 191 976 [v0, v1, v2, v3] (.int b :: .int a :: st) I J Q = if a = b then Rn S 191 1266 [v0, v1, v2, v3] st I J Q else Rn S 191 979 [v0, v1, v2, v3] st I J Q := rCeq f191_976 rfl rfl
theorem x191_979 : Rn S 191 979 [v0, v1, v2, v3] st I J Q = Rn S 191 980 [v0, v1, v2, v3] (.int 0 :: st) I J Q := rS f191_979 rfl
theorem x191_980 : Rn S 191 980 [v0, v1, v2, v3] [.int a] I J Q = ((a = 0 ∨ a = 1) ∧ Q (some (.int a)) I J) := rRZ f191_980 rfl
theorem x191_981 : Rn S 191 981 [v0, .ref q, v2, v3] st I J Q = Rn S 191 982 [v0, .ref q, v2, v3] (.ref q :: st) I J Q := rL f191_981 rfl rfl
theorem x191_982 : Rn S 191 982 [.ref q, v1, v2, v3] st I J Q = Rn S 191 983 [.ref q, v1, v2, v3] (.ref q :: st) I J Q := rL f191_982 rfl rfl
theorem x191_983 : Rn S 191 983 [v0, v1, v2, .int a] st I J Q = Rn S 191 984 [v0, v1, v2, .int a] (.int a :: st) I J Q := rL f191_983 rfl rfl
theorem x191_984 : Rn S 191 984 [v0, v1, v2, v3] st I J Q = Rn S 191 985 [v0, v1, v2, v3] (.int 1 :: st) I J Q := rS f191_984 rfl
theorem x191_985 : Rn S 191 985 [v0, v1, v2, v3] (.int b :: .int a :: st) I J Q = Rn S 191 986 [v0, v1, v2, v3] (.int (a + b) :: st) I J Q := rS f191_985 rfl
theorem x191_986 : Rn S 191 986 [v0, v1, v2, v3] (.int a :: .ref q :: st) I J Q = (zai S q a ∧ Rn S 191 987 [v0, v1, v2, v3] (.int (I q a.toNatClampNeg) :: st) I J Q) := rIal f191_986
theorem x191_987 : Rn S 191 987 [.ref q, v1, v2, v3] st I J Q = Rn S 191 988 [.ref q, v1, v2, v3] (.ref q :: st) I J Q := rL f191_987 rfl rfl
theorem x191_988 : Rn S 191 988 [v0, v1, v2, .int a] st I J Q = Rn S 191 989 [v0, v1, v2, .int a] (.int a :: st) I J Q := rL f191_988 rfl rfl
theorem x191_989 : Rn S 191 989 [v0, v1, v2, v3] st I J Q = Rn S 191 990 [v0, v1, v2, v3] (.int 2 :: st) I J Q := rS f191_989 rfl
theorem x191_990 : Rn S 191 990 [v0, v1, v2, v3] (.int b :: .int a :: st) I J Q = Rn S 191 991 [v0, v1, v2, v3] (.int (a + b) :: st) I J Q := rS f191_990 rfl
theorem x191_991 : Rn S 191 991 [v0, v1, v2, v3] (.int a :: .ref q :: st) I J Q = (zai S q a ∧ Rn S 191 992 [v0, v1, v2, v3] (.int (I q a.toNatClampNeg) :: st) I J Q) := rIal f191_991
theorem x191_992 : Rn S 191 992 [.ref q, v1, v2, v3] st I J Q = Rn S 191 993 [.ref q, v1, v2, v3] (.ref q :: st) I J Q := rL f191_992 rfl rfl
theorem x191_993 : Rn S 191 993 [v0, v1, v2, .int a] st I J Q = Rn S 191 994 [v0, v1, v2, .int a] (.int a :: st) I J Q := rL f191_993 rfl rfl
theorem x191_994 : Rn S 191 994 [v0, v1, v2, v3] st I J Q = Rn S 191 995 [v0, v1, v2, v3] (.int 3 :: st) I J Q := rS f191_994 rfl
theorem x191_995 : Rn S 191 995 [v0, v1, v2, v3] (.int b :: .int a :: st) I J Q = Rn S 191 996 [v0, v1, v2, v3] (.int (a + b) :: st) I J Q := rS f191_995 rfl
theorem x191_996 : Rn S 191 996 [v0, v1, v2, v3] (.int a :: .ref q :: st) I J Q = (zai S q a ∧ Rn S 191 997 [v0, v1, v2, v3] (.int (I q a.toNatClampNeg) :: st) I J Q) := rIal f191_996
theorem x191_997 : Rn S 191 997 [v0, v1, v2, v3] (.int a2 :: .int a1 :: .int a0 :: .ref q :: st) I J Q = ((zcls S q = 5 ∧ zcs st ≤ 8) ∧ Rn S 67 0 [.ref q, .int a0, .int a1, .int a2] [] I J (fun v I' J' => Rn S 191 1000 [v0, v1, v2, v3] (v.toList ++ st) I' J' Q)) := rCV (As := [.int a0, .int a1, .int a2]) f191_997 rfl rfl rfl rfl (Nat.le_of_ble_eq_true rfl)
theorem x191_1000 : Rn S 191 1000 [v0, v1, .ref q, v3] st I J Q = Rn S 191 1001 [v0, v1, .ref q, v3] (.ref q :: st) I J Q := rL f191_1000 rfl rfl
theorem x191_1001 : Rn S 191 1001 [.ref q, v1, v2, v3] st I J Q = Rn S 191 1002 [.ref q, v1, v2, v3] (.ref q :: st) I J Q := rL f191_1001 rfl rfl
theorem x191_1002 : Rn S 191 1002 [v0, v1, v2, .int a] st I J Q = Rn S 191 1003 [v0, v1, v2, .int a] (.int a :: st) I J Q := rL f191_1002 rfl rfl
theorem x191_1003 : Rn S 191 1003 [v0, v1, v2, v3] st I J Q = Rn S 191 1004 [v0, v1, v2, v3] (.int 1 :: st) I J Q := rS f191_1003 rfl
theorem x191_1004 : Rn S 191 1004 [v0, v1, v2, v3] (.int b :: .int a :: st) I J Q = Rn S 191 1005 [v0, v1, v2, v3] (.int (a + b) :: st) I J Q := rS f191_1004 rfl
theorem x191_1005 : Rn S 191 1005 [v0, v1, v2, v3] (.int a :: .ref q :: st) I J Q = (zai S q a ∧ Rn S 191 1006 [v0, v1, v2, v3] (.int (I q a.toNatClampNeg) :: st) I J Q) := rIal f191_1005
theorem x191_1006 : Rn S 191 1006 [.ref q, v1, v2, v3] st I J Q = Rn S 191 1007 [.ref q, v1, v2, v3] (.ref q :: st) I J Q := rL f191_1006 rfl rfl
theorem x191_1007 : Rn S 191 1007 [v0, v1, v2, .int a] st I J Q = Rn S 191 1008 [v0, v1, v2, .int a] (.int a :: st) I J Q := rL f191_1007 rfl rfl
theorem x191_1008 : Rn S 191 1008 [v0, v1, v2, v3] st I J Q = Rn S 191 1009 [v0, v1, v2, v3] (.int 2 :: st) I J Q := rS f191_1008 rfl
theorem x191_1009 : Rn S 191 1009 [v0, v1, v2, v3] (.int b :: .int a :: st) I J Q = Rn S 191 1010 [v0, v1, v2, v3] (.int (a + b) :: st) I J Q := rS f191_1009 rfl
theorem x191_1010 : Rn S 191 1010 [v0, v1, v2, v3] (.int a :: .ref q :: st) I J Q = (zai S q a ∧ Rn S 191 1011 [v0, v1, v2, v3] (.int (I q a.toNatClampNeg) :: st) I J Q) := rIal f191_1010
theorem x191_1011 : Rn S 191 1011 [.ref q, v1, v2, v3] st I J Q = Rn S 191 1012 [.ref q, v1, v2, v3] (.ref q :: st) I J Q := rL f191_1011 rfl rfl
theorem x191_1012 : Rn S 191 1012 [v0, v1, v2, .int a] st I J Q = Rn S 191 1013 [v0, v1, v2, .int a] (.int a :: st) I J Q := rL f191_1012 rfl rfl
theorem x191_1013 : Rn S 191 1013 [v0, v1, v2, v3] st I J Q = Rn S 191 1014 [v0, v1, v2, v3] (.int 3 :: st) I J Q := rS f191_1013 rfl
theorem x191_1014 : Rn S 191 1014 [v0, v1, v2, v3] (.int b :: .int a :: st) I J Q = Rn S 191 1015 [v0, v1, v2, v3] (.int (a + b) :: st) I J Q := rS f191_1014 rfl
theorem x191_1015 : Rn S 191 1015 [v0, v1, v2, v3] (.int a :: .ref q :: st) I J Q = (zai S q a ∧ Rn S 191 1016 [v0, v1, v2, v3] (.int (I q a.toNatClampNeg) :: st) I J Q) := rIal f191_1015
theorem x191_1016 : Rn S 191 1016 [v0, v1, v2, v3] (.int a2 :: .int a1 :: .int a0 :: .ref q :: st) I J Q = ((zcls S q = 6 ∧ zcs st ≤ 8) ∧ Rn S 106 0 [.ref q, .int a0, .int a1, .int a2, .null] [] I J (fun v I' J' => Rn S 191 1019 [v0, v1, v2, v3] (v.toList ++ st) I' J' Q)) := rCV (As := [.int a0, .int a1, .int a2]) f191_1016 rfl rfl rfl rfl (Nat.le_of_ble_eq_true rfl)
theorem x191_1019 : Rn S 191 1019 [v0, v1, v2, v3] (.int b :: .int a :: st) I J Q = if a = b then Rn S 191 1266 [v0, v1, v2, v3] st I J Q else Rn S 191 1022 [v0, v1, v2, v3] st I J Q := rCeq f191_1019 rfl rfl
theorem x191_1022 : Rn S 191 1022 [v0, v1, v2, v3] st I J Q = Rn S 191 1023 [v0, v1, v2, v3] (.int 0 :: st) I J Q := rS f191_1022 rfl
theorem x191_1023 : Rn S 191 1023 [v0, v1, v2, v3] [.int a] I J Q = ((a = 0 ∨ a = 1) ∧ Q (some (.int a)) I J) := rRZ f191_1023 rfl
theorem x191_1024 : Rn S 191 1024 [v0, .ref q, v2, v3] st I J Q = Rn S 191 1025 [v0, .ref q, v2, v3] (.ref q :: st) I J Q := rL f191_1024 rfl rfl
theorem x191_1025 : Rn S 191 1025 [.ref q, v1, v2, v3] st I J Q = Rn S 191 1026 [.ref q, v1, v2, v3] (.ref q :: st) I J Q := rL f191_1025 rfl rfl
theorem x191_1026 : Rn S 191 1026 [v0, v1, v2, .int a] st I J Q = Rn S 191 1027 [v0, v1, v2, .int a] (.int a :: st) I J Q := rL f191_1026 rfl rfl
theorem x191_1027 : Rn S 191 1027 [v0, v1, v2, v3] st I J Q = Rn S 191 1028 [v0, v1, v2, v3] (.int 1 :: st) I J Q := rS f191_1027 rfl
theorem x191_1028 : Rn S 191 1028 [v0, v1, v2, v3] (.int b :: .int a :: st) I J Q = Rn S 191 1029 [v0, v1, v2, v3] (.int (a + b) :: st) I J Q := rS f191_1028 rfl
theorem x191_1029 : Rn S 191 1029 [v0, v1, v2, v3] (.int a :: .ref q :: st) I J Q = (zai S q a ∧ Rn S 191 1030 [v0, v1, v2, v3] (.int (I q a.toNatClampNeg) :: st) I J Q) := rIal f191_1029
theorem x191_1030 : Rn S 191 1030 [v0, v1, v2, v3] (.int a0 :: .ref q :: st) I J Q = ((zcls S q = 5 ∧ zcs st ≤ 8) ∧ Rn S 68 0 [.ref q, .int a0] [] I J (fun v I' J' => Rn S 191 1033 [v0, v1, v2, v3] (v.toList ++ st) I' J' Q)) := rCV (As := [.int a0]) f191_1030 rfl rfl rfl rfl (Nat.le_of_ble_eq_true rfl)
theorem x191_1033 : Rn S 191 1033 [v0, v1, .ref q, v3] st I J Q = Rn S 191 1034 [v0, v1, .ref q, v3] (.ref q :: st) I J Q := rL f191_1033 rfl rfl
theorem x191_1034 : Rn S 191 1034 [.ref q, v1, v2, v3] st I J Q = Rn S 191 1035 [.ref q, v1, v2, v3] (.ref q :: st) I J Q := rL f191_1034 rfl rfl
theorem x191_1035 : Rn S 191 1035 [v0, v1, v2, .int a] st I J Q = Rn S 191 1036 [v0, v1, v2, .int a] (.int a :: st) I J Q := rL f191_1035 rfl rfl
theorem x191_1036 : Rn S 191 1036 [v0, v1, v2, v3] st I J Q = Rn S 191 1037 [v0, v1, v2, v3] (.int 1 :: st) I J Q := rS f191_1036 rfl
theorem x191_1037 : Rn S 191 1037 [v0, v1, v2, v3] (.int b :: .int a :: st) I J Q = Rn S 191 1038 [v0, v1, v2, v3] (.int (a + b) :: st) I J Q := rS f191_1037 rfl
theorem x191_1038 : Rn S 191 1038 [v0, v1, v2, v3] (.int a :: .ref q :: st) I J Q = (zai S q a ∧ Rn S 191 1039 [v0, v1, v2, v3] (.int (I q a.toNatClampNeg) :: st) I J Q) := rIal f191_1038
theorem x191_1039 : Rn S 191 1039 [v0, v1, v2, v3] (.int a0 :: .ref q :: st) I J Q = ((zcls S q = 6 ∧ zcs st ≤ 8) ∧ Rn S 107 0 [.ref q, .int a0] [] I J (fun v I' J' => Rn S 191 1042 [v0, v1, v2, v3] (v.toList ++ st) I' J' Q)) := rCV (As := [.int a0]) f191_1039 rfl rfl rfl rfl (Nat.le_of_ble_eq_true rfl)
theorem x191_1042 : Rn S 191 1042 [v0, v1, v2, v3] (.int b :: .int a :: st) I J Q = if a = b then Rn S 191 1266 [v0, v1, v2, v3] st I J Q else Rn S 191 1045 [v0, v1, v2, v3] st I J Q := rCeq f191_1042 rfl rfl
theorem x191_1045 : Rn S 191 1045 [v0, v1, v2, v3] st I J Q = Rn S 191 1046 [v0, v1, v2, v3] (.int 0 :: st) I J Q := rS f191_1045 rfl
theorem x191_1046 : Rn S 191 1046 [v0, v1, v2, v3] [.int a] I J Q = ((a = 0 ∨ a = 1) ∧ Q (some (.int a)) I J) := rRZ f191_1046 rfl
theorem x191_1047 : Rn S 191 1047 [v0, .ref q, v2, v3] st I J Q = Rn S 191 1048 [v0, .ref q, v2, v3] (.ref q :: st) I J Q := rL f191_1047 rfl rfl
theorem x191_1048 : Rn S 191 1048 [.ref q, v1, v2, v3] st I J Q = Rn S 191 1049 [.ref q, v1, v2, v3] (.ref q :: st) I J Q := rL f191_1048 rfl rfl
theorem x191_1049 : Rn S 191 1049 [v0, v1, v2, .int a] st I J Q = Rn S 191 1050 [v0, v1, v2, .int a] (.int a :: st) I J Q := rL f191_1049 rfl rfl
theorem x191_1050 : Rn S 191 1050 [v0, v1, v2, v3] st I J Q = Rn S 191 1051 [v0, v1, v2, v3] (.int 1 :: st) I J Q := rS f191_1050 rfl
theorem x191_1051 : Rn S 191 1051 [v0, v1, v2, v3] (.int b :: .int a :: st) I J Q = Rn S 191 1052 [v0, v1, v2, v3] (.int (a + b) :: st) I J Q := rS f191_1051 rfl
theorem x191_1052 : Rn S 191 1052 [v0, v1, v2, v3] (.int a :: .ref q :: st) I J Q = (zai S q a ∧ Rn S 191 1053 [v0, v1, v2, v3] (.int (I q a.toNatClampNeg) :: st) I J Q) := rIal f191_1052
theorem x191_1053 : Rn S 191 1053 [.ref q, v1, v2, v3] st I J Q = Rn S 191 1054 [.ref q, v1, v2, v3] (.ref q :: st) I J Q := rL f191_1053 rfl rfl
theorem x191_1054 : Rn S 191 1054 [v0, v1, v2, .int a] st I J Q = Rn S 191 1055 [v0, v1, v2, .int a] (.int a :: st) I J Q := rL f191_1054 rfl rfl
theorem x191_1055 : Rn S 191 1055 [v0, v1, v2, v3] st I J Q = Rn S 191 1056 [v0, v1, v2, v3] (.int 2 :: st) I J Q := rS f191_1055 rfl
theorem x191_1056 : Rn S 191 1056 [v0, v1, v2, v3] (.int b :: .int a :: st) I J Q = Rn S 191 1057 [v0, v1, v2, v3] (.int (a + b) :: st) I J Q := rS f191_1056 rfl
theorem x191_1057 : Rn S 191 1057 [v0, v1, v2, v3] (.int a :: .ref q :: st) I J Q = (zai S q a ∧ Rn S 191 1058 [v0, v1, v2, v3] (.int (I q a.toNatClampNeg) :: st) I J Q) := rIal f191_1057
theorem x191_1058 : Rn S 191 1058 [.ref q, v1, v2, v3] st I J Q = Rn S 191 1059 [.ref q, v1, v2, v3] (.ref q :: st) I J Q := rL f191_1058 rfl rfl
theorem x191_1059 : Rn S 191 1059 [v0, v1, v2, .int a] st I J Q = Rn S 191 1060 [v0, v1, v2, .int a] (.int a :: st) I J Q := rL f191_1059 rfl rfl
theorem x191_1060 : Rn S 191 1060 [v0, v1, v2, v3] st I J Q = Rn S 191 1061 [v0, v1, v2, v3] (.int 3 :: st) I J Q := rS f191_1060 rfl
theorem x191_1061 : Rn S 191 1061 [v0, v1, v2, v3] (.int b :: .int a :: st) I J Q = Rn S 191 1062 [v0, v1, v2, v3] (.int (a + b) :: st) I J Q := rS f191_1061 rfl
theorem x191_1062 : Rn S 191 1062 [v0, v1, v2, v3] (.int a :: .ref q :: st) I J Q = (zai S q a ∧ Rn S 191 1063 [v0, v1, v2, v3] (.int (I q a.toNatClampNeg) :: st) I J Q) := rIal f191_1062
theorem x191_1063 : Rn S 191 1063 [.ref q, v1, v2, v3] st I J Q = Rn S 191 1064 [.ref q, v1, v2, v3] (.ref q :: st) I J Q := rL f191_1063 rfl rfl
theorem x191_1064 : Rn S 191 1064 [v0, v1, v2, .int a] st I J Q = Rn S 191 1065 [v0, v1, v2, .int a] (.int a :: st) I J Q := rL f191_1064 rfl rfl
theorem x191_1065 : Rn S 191 1065 [v0, v1, v2, v3] st I J Q = Rn S 191 1066 [v0, v1, v2, v3] (.int 4 :: st) I J Q := rS f191_1065 rfl
theorem x191_1066 : Rn S 191 1066 [v0, v1, v2, v3] (.int b :: .int a :: st) I J Q = Rn S 191 1067 [v0, v1, v2, v3] (.int (a + b) :: st) I J Q := rS f191_1066 rfl
theorem x191_1067 : Rn S 191 1067 [v0, v1, v2, v3] (.int a :: .ref q :: st) I J Q = (zai S q a ∧ Rn S 191 1068 [v0, v1, v2, v3] (.int (I q a.toNatClampNeg) :: st) I J Q) := rIal f191_1067
theorem x191_1068 : Rn S 191 1068 [v0, v1, v2, v3] (.int a3 :: .int a2 :: .int a1 :: .int a0 :: .ref q :: st) I J Q = ((zcls S q = 5 ∧ zcs st ≤ 8) ∧ Rn S 69 0 [.ref q, .int a0, .int a1, .int a2, .int a3, .null] [] I J (fun v I' J' => Rn S 191 1071 [v0, v1, v2, v3] (v.toList ++ st) I' J' Q)) := rCV (As := [.int a0, .int a1, .int a2, .int a3]) f191_1068 rfl rfl rfl rfl (Nat.le_of_ble_eq_true rfl)
theorem x191_1071 : Rn S 191 1071 [v0, v1, .ref q, v3] st I J Q = Rn S 191 1072 [v0, v1, .ref q, v3] (.ref q :: st) I J Q := rL f191_1071 rfl rfl
theorem x191_1072 : Rn S 191 1072 [.ref q, v1, v2, v3] st I J Q = Rn S 191 1073 [.ref q, v1, v2, v3] (.ref q :: st) I J Q := rL f191_1072 rfl rfl
theorem x191_1073 : Rn S 191 1073 [v0, v1, v2, .int a] st I J Q = Rn S 191 1074 [v0, v1, v2, .int a] (.int a :: st) I J Q := rL f191_1073 rfl rfl
theorem x191_1074 : Rn S 191 1074 [v0, v1, v2, v3] st I J Q = Rn S 191 1075 [v0, v1, v2, v3] (.int 1 :: st) I J Q := rS f191_1074 rfl
theorem x191_1075 : Rn S 191 1075 [v0, v1, v2, v3] (.int b :: .int a :: st) I J Q = Rn S 191 1076 [v0, v1, v2, v3] (.int (a + b) :: st) I J Q := rS f191_1075 rfl
theorem x191_1076 : Rn S 191 1076 [v0, v1, v2, v3] (.int a :: .ref q :: st) I J Q = (zai S q a ∧ Rn S 191 1077 [v0, v1, v2, v3] (.int (I q a.toNatClampNeg) :: st) I J Q) := rIal f191_1076
theorem x191_1077 : Rn S 191 1077 [.ref q, v1, v2, v3] st I J Q = Rn S 191 1078 [.ref q, v1, v2, v3] (.ref q :: st) I J Q := rL f191_1077 rfl rfl
theorem x191_1078 : Rn S 191 1078 [v0, v1, v2, .int a] st I J Q = Rn S 191 1079 [v0, v1, v2, .int a] (.int a :: st) I J Q := rL f191_1078 rfl rfl
theorem x191_1079 : Rn S 191 1079 [v0, v1, v2, v3] st I J Q = Rn S 191 1080 [v0, v1, v2, v3] (.int 2 :: st) I J Q := rS f191_1079 rfl
theorem x191_1080 : Rn S 191 1080 [v0, v1, v2, v3] (.int b :: .int a :: st) I J Q = Rn S 191 1081 [v0, v1, v2, v3] (.int (a + b) :: st) I J Q := rS f191_1080 rfl
theorem x191_1081 : Rn S 191 1081 [v0, v1, v2, v3] (.int a :: .ref q :: st) I J Q = (zai S q a ∧ Rn S 191 1082 [v0, v1, v2, v3] (.int (I q a.toNatClampNeg) :: st) I J Q) := rIal f191_1081
theorem x191_1082 : Rn S 191 1082 [.ref q, v1, v2, v3] st I J Q = Rn S 191 1083 [.ref q, v1, v2, v3] (.ref q :: st) I J Q := rL f191_1082 rfl rfl
theorem x191_1083 : Rn S 191 1083 [v0, v1, v2, .int a] st I J Q = Rn S 191 1084 [v0, v1, v2, .int a] (.int a :: st) I J Q := rL f191_1083 rfl rfl
theorem x191_1084 : Rn S 191 1084 [v0, v1, v2, v3] st I J Q = Rn S 191 1085 [v0, v1, v2, v3] (.int 3 :: st) I J Q := rS f191_1084 rfl
theorem x191_1085 : Rn S 191 1085 [v0, v1, v2, v3] (.int b :: .int a :: st) I J Q = Rn S 191 1086 [v0, v1, v2, v3] (.int (a + b) :: st) I J Q := rS f191_1085 rfl
theorem x191_1086 : Rn S 191 1086 [v0, v1, v2, v3] (.int a :: .ref q :: st) I J Q = (zai S q a ∧ Rn S 191 1087 [v0, v1, v2, v3] (.int (I q a.toNatClampNeg) :: st) I J Q) := rIal f191_1086
theorem x191_1087 : Rn S 191 1087 [.ref q, v1, v2, v3] st I J Q = Rn S 191 1088 [.ref q, v1, v2, v3] (.ref q :: st) I J Q := rL f191_1087 rfl rfl
theorem x191_1088 : Rn S 191 1088 [v0, v1, v2, .int a] st I J Q = Rn S 191 1089 [v0, v1, v2, .int a] (.int a :: st) I J Q := rL f191_1088 rfl rfl
theorem x191_1089 : Rn S 191 1089 [v0, v1, v2, v3] st I J Q = Rn S 191 1090 [v0, v1, v2, v3] (.int 4 :: st) I J Q := rS f191_1089 rfl
theorem x191_1090 : Rn S 191 1090 [v0, v1, v2, v3] (.int b :: .int a :: st) I J Q = Rn S 191 1091 [v0, v1, v2, v3] (.int (a + b) :: st) I J Q := rS f191_1090 rfl
theorem x191_1091 : Rn S 191 1091 [v0, v1, v2, v3] (.int a :: .ref q :: st) I J Q = (zai S q a ∧ Rn S 191 1092 [v0, v1, v2, v3] (.int (I q a.toNatClampNeg) :: st) I J Q) := rIal f191_1091
theorem x191_1092 : Rn S 191 1092 [v0, v1, v2, v3] (.int a3 :: .int a2 :: .int a1 :: .int a0 :: .ref q :: st) I J Q = ((zcls S q = 6 ∧ zcs st ≤ 8) ∧ Rn S 110 0 [.ref q, .int a0, .int a1, .int a2, .int a3, .null] [] I J (fun v I' J' => Rn S 191 1095 [v0, v1, v2, v3] (v.toList ++ st) I' J' Q)) := rCV (As := [.int a0, .int a1, .int a2, .int a3]) f191_1092 rfl rfl rfl rfl (Nat.le_of_ble_eq_true rfl)
theorem x191_1095 : Rn S 191 1095 [v0, v1, v2, v3] (.int b :: .int a :: st) I J Q = if a = b then Rn S 191 1266 [v0, v1, v2, v3] st I J Q else Rn S 191 1098 [v0, v1, v2, v3] st I J Q := rCeq f191_1095 rfl rfl
theorem x191_1098 : Rn S 191 1098 [v0, v1, v2, v3] st I J Q = Rn S 191 1099 [v0, v1, v2, v3] (.int 0 :: st) I J Q := rS f191_1098 rfl
theorem x191_1099 : Rn S 191 1099 [v0, v1, v2, v3] [.int a] I J Q = ((a = 0 ∨ a = 1) ∧ Q (some (.int a)) I J) := rRZ f191_1099 rfl
theorem x191_1100 : Rn S 191 1100 [v0, .ref q, v2, v3] st I J Q = Rn S 191 1101 [v0, .ref q, v2, v3] (.ref q :: st) I J Q := rL f191_1100 rfl rfl
theorem x191_1101 : Rn S 191 1101 [.ref q, v1, v2, v3] st I J Q = Rn S 191 1102 [.ref q, v1, v2, v3] (.ref q :: st) I J Q := rL f191_1101 rfl rfl
theorem x191_1102 : Rn S 191 1102 [v0, v1, v2, .int a] st I J Q = Rn S 191 1103 [v0, v1, v2, .int a] (.int a :: st) I J Q := rL f191_1102 rfl rfl
theorem x191_1103 : Rn S 191 1103 [v0, v1, v2, v3] st I J Q = Rn S 191 1104 [v0, v1, v2, v3] (.int 1 :: st) I J Q := rS f191_1103 rfl
theorem x191_1104 : Rn S 191 1104 [v0, v1, v2, v3] (.int b :: .int a :: st) I J Q = Rn S 191 1105 [v0, v1, v2, v3] (.int (a + b) :: st) I J Q := rS f191_1104 rfl
theorem x191_1105 : Rn S 191 1105 [v0, v1, v2, v3] (.int a :: .ref q :: st) I J Q = (zai S q a ∧ Rn S 191 1106 [v0, v1, v2, v3] (.int (I q a.toNatClampNeg) :: st) I J Q) := rIal f191_1105
theorem x191_1106 : Rn S 191 1106 [.ref q, v1, v2, v3] st I J Q = Rn S 191 1107 [.ref q, v1, v2, v3] (.ref q :: st) I J Q := rL f191_1106 rfl rfl
theorem x191_1107 : Rn S 191 1107 [v0, v1, v2, .int a] st I J Q = Rn S 191 1108 [v0, v1, v2, .int a] (.int a :: st) I J Q := rL f191_1107 rfl rfl
theorem x191_1108 : Rn S 191 1108 [v0, v1, v2, v3] st I J Q = Rn S 191 1109 [v0, v1, v2, v3] (.int 2 :: st) I J Q := rS f191_1108 rfl
theorem x191_1109 : Rn S 191 1109 [v0, v1, v2, v3] (.int b :: .int a :: st) I J Q = Rn S 191 1110 [v0, v1, v2, v3] (.int (a + b) :: st) I J Q := rS f191_1109 rfl
theorem x191_1110 : Rn S 191 1110 [v0, v1, v2, v3] (.int a :: .ref q :: st) I J Q = (zai S q a ∧ Rn S 191 1111 [v0, v1, v2, v3] (.int (I q a.toNatClampNeg) :: st) I J Q) := rIal f191_1110
theorem x191_1111 : Rn S 191 1111 [.ref q, v1, v2, v3] st I J Q = Rn S 191 1112 [.ref q, v1, v2, v3] (.ref q :: st) I J Q := rL f191_1111 rfl rfl
theorem x191_1112 : Rn S 191 1112 [v0, v1, v2, .int a] st I J Q = Rn S 191 1113 [v0, v1, v2, .int a] (.int a :: st) I J Q := rL f191_1112 rfl rfl
theorem x191_1113 : Rn S 191 1113 [v0, v1, v2, v3] st I J Q = Rn S 191 1114 [v0, v1, v2, v3] (.int 3 :: st) I J Q := rS f191_1113 rfl
theorem x191_1114 : Rn S 191 1114 [v0, v1, v2, v3] (.int b :: .int a :: st) I J Q = Rn S 191 1115 [v0, v1, v2, v3] (.int (a + b) :: st) I J Q := rS f191_1114 rfl
theorem x191_1115 : Rn S 191 1115 [v0, v1, v2, v3] (.int a :: .ref q :: st) I J Q = (zai S q a ∧ Rn S 191 1116 [v0, v1, v2, v3] (.int (I q a.toNatClampNeg) :: st) I J Q) := rIal f191_1115
theorem x191_1116 : Rn S 191 1116 [v0, v1, v2, v3] (.int a2 :: .int a1 :: .int a0 :: .ref q :: st) I J Q = ((zcls S q = 5 ∧ zcs st ≤ 8) ∧ Rn S 70 0 [.ref q, .int a0, .int a1, .int a2, .null] [] I J (fun v I' J' => Rn S 191 1119 [v0, v1, v2, v3] (v.toList ++ st) I' J' Q)) := rCV (As := [.int a0, .int a1, .int a2]) f191_1116 rfl rfl rfl rfl (Nat.le_of_ble_eq_true rfl)
theorem x191_1119 : Rn S 191 1119 [v0, v1, .ref q, v3] st I J Q = Rn S 191 1120 [v0, v1, .ref q, v3] (.ref q :: st) I J Q := rL f191_1119 rfl rfl
theorem x191_1120 : Rn S 191 1120 [.ref q, v1, v2, v3] st I J Q = Rn S 191 1121 [.ref q, v1, v2, v3] (.ref q :: st) I J Q := rL f191_1120 rfl rfl
theorem x191_1121 : Rn S 191 1121 [v0, v1, v2, .int a] st I J Q = Rn S 191 1122 [v0, v1, v2, .int a] (.int a :: st) I J Q := rL f191_1121 rfl rfl
theorem x191_1122 : Rn S 191 1122 [v0, v1, v2, v3] st I J Q = Rn S 191 1123 [v0, v1, v2, v3] (.int 1 :: st) I J Q := rS f191_1122 rfl
theorem x191_1123 : Rn S 191 1123 [v0, v1, v2, v3] (.int b :: .int a :: st) I J Q = Rn S 191 1124 [v0, v1, v2, v3] (.int (a + b) :: st) I J Q := rS f191_1123 rfl
theorem x191_1124 : Rn S 191 1124 [v0, v1, v2, v3] (.int a :: .ref q :: st) I J Q = (zai S q a ∧ Rn S 191 1125 [v0, v1, v2, v3] (.int (I q a.toNatClampNeg) :: st) I J Q) := rIal f191_1124
theorem x191_1125 : Rn S 191 1125 [.ref q, v1, v2, v3] st I J Q = Rn S 191 1126 [.ref q, v1, v2, v3] (.ref q :: st) I J Q := rL f191_1125 rfl rfl
theorem x191_1126 : Rn S 191 1126 [v0, v1, v2, .int a] st I J Q = Rn S 191 1127 [v0, v1, v2, .int a] (.int a :: st) I J Q := rL f191_1126 rfl rfl
theorem x191_1127 : Rn S 191 1127 [v0, v1, v2, v3] st I J Q = Rn S 191 1128 [v0, v1, v2, v3] (.int 2 :: st) I J Q := rS f191_1127 rfl
theorem x191_1128 : Rn S 191 1128 [v0, v1, v2, v3] (.int b :: .int a :: st) I J Q = Rn S 191 1129 [v0, v1, v2, v3] (.int (a + b) :: st) I J Q := rS f191_1128 rfl
theorem x191_1129 : Rn S 191 1129 [v0, v1, v2, v3] (.int a :: .ref q :: st) I J Q = (zai S q a ∧ Rn S 191 1130 [v0, v1, v2, v3] (.int (I q a.toNatClampNeg) :: st) I J Q) := rIal f191_1129
theorem x191_1130 : Rn S 191 1130 [.ref q, v1, v2, v3] st I J Q = Rn S 191 1131 [.ref q, v1, v2, v3] (.ref q :: st) I J Q := rL f191_1130 rfl rfl
theorem x191_1131 : Rn S 191 1131 [v0, v1, v2, .int a] st I J Q = Rn S 191 1132 [v0, v1, v2, .int a] (.int a :: st) I J Q := rL f191_1131 rfl rfl
theorem x191_1132 : Rn S 191 1132 [v0, v1, v2, v3] st I J Q = Rn S 191 1133 [v0, v1, v2, v3] (.int 3 :: st) I J Q := rS f191_1132 rfl
theorem x191_1133 : Rn S 191 1133 [v0, v1, v2, v3] (.int b :: .int a :: st) I J Q = Rn S 191 1134 [v0, v1, v2, v3] (.int (a + b) :: st) I J Q := rS f191_1133 rfl
theorem x191_1134 : Rn S 191 1134 [v0, v1, v2, v3] (.int a :: .ref q :: st) I J Q = (zai S q a ∧ Rn S 191 1135 [v0, v1, v2, v3] (.int (I q a.toNatClampNeg) :: st) I J Q) := rIal f191_1134
theorem x191_1135 : Rn S 191 1135 [v0, v1, v2, v3] (.int a2 :: .int a1 :: .int a0 :: .ref q :: st) I J Q = ((zcls S q = 6 ∧ zcs st ≤ 8) ∧ Rn S 111 0 [.ref q, .int a0, .int a1, .int a2] [] I J (fun v I' J' => Rn S 191 1138 [v0, v1, v2, v3] (v.toList ++ st) I' J' Q)) := rCV (As := [.int a0, .int a1, .int a2]) f191_1135 rfl rfl rfl rfl (Nat.le_of_ble_eq_true rfl)
theorem x191_1138 : Rn S 191 1138 [v0, v1, v2, v3] (.int b :: .int a :: st) I J Q = if a = b then Rn S 191 1266 [v0, v1, v2, v3] st I J Q else Rn S 191 1141 [v0, v1, v2, v3] st I J Q := rCeq f191_1138 rfl rfl
theorem x191_1141 : Rn S 191 1141 [v0, v1, v2, v3] st I J Q = Rn S 191 1142 [v0, v1, v2, v3] (.int 0 :: st) I J Q := rS f191_1141 rfl
theorem x191_1142 : Rn S 191 1142 [v0, v1, v2, v3] [.int a] I J Q = ((a = 0 ∨ a = 1) ∧ Q (some (.int a)) I J) := rRZ f191_1142 rfl
theorem x191_1143 : Rn S 191 1143 [v0, .ref q, v2, v3] st I J Q = Rn S 191 1144 [v0, .ref q, v2, v3] (.ref q :: st) I J Q := rL f191_1143 rfl rfl
theorem x191_1144 : Rn S 191 1144 [.ref q, v1, v2, v3] st I J Q = Rn S 191 1145 [.ref q, v1, v2, v3] (.ref q :: st) I J Q := rL f191_1144 rfl rfl
theorem x191_1145 : Rn S 191 1145 [v0, v1, v2, .int a] st I J Q = Rn S 191 1146 [v0, v1, v2, .int a] (.int a :: st) I J Q := rL f191_1145 rfl rfl
theorem x191_1146 : Rn S 191 1146 [v0, v1, v2, v3] st I J Q = Rn S 191 1147 [v0, v1, v2, v3] (.int 1 :: st) I J Q := rS f191_1146 rfl
theorem x191_1147 : Rn S 191 1147 [v0, v1, v2, v3] (.int b :: .int a :: st) I J Q = Rn S 191 1148 [v0, v1, v2, v3] (.int (a + b) :: st) I J Q := rS f191_1147 rfl
theorem x191_1148 : Rn S 191 1148 [v0, v1, v2, v3] (.int a :: .ref q :: st) I J Q = (zai S q a ∧ Rn S 191 1149 [v0, v1, v2, v3] (.int (I q a.toNatClampNeg) :: st) I J Q) := rIal f191_1148
theorem x191_1149 : Rn S 191 1149 [.ref q, v1, v2, v3] st I J Q = Rn S 191 1150 [.ref q, v1, v2, v3] (.ref q :: st) I J Q := rL f191_1149 rfl rfl
theorem x191_1150 : Rn S 191 1150 [v0, v1, v2, .int a] st I J Q = Rn S 191 1151 [v0, v1, v2, .int a] (.int a :: st) I J Q := rL f191_1150 rfl rfl
theorem x191_1151 : Rn S 191 1151 [v0, v1, v2, v3] st I J Q = Rn S 191 1152 [v0, v1, v2, v3] (.int 2 :: st) I J Q := rS f191_1151 rfl
theorem x191_1152 : Rn S 191 1152 [v0, v1, v2, v3] (.int b :: .int a :: st) I J Q = Rn S 191 1153 [v0, v1, v2, v3] (.int (a + b) :: st) I J Q := rS f191_1152 rfl
theorem x191_1153 : Rn S 191 1153 [v0, v1, v2, v3] (.int a :: .ref q :: st) I J Q = (zai S q a ∧ Rn S 191 1154 [v0, v1, v2, v3] (.int (I q a.toNatClampNeg) :: st) I J Q) := rIal f191_1153
theorem x191_1154 : Rn S 191 1154 [.ref q, v1, v2, v3] st I J Q = Rn S 191 1155 [.ref q, v1, v2, v3] (.ref q :: st) I J Q := rL f191_1154 rfl rfl
theorem x191_1155 : Rn S 191 1155 [v0, v1, v2, .int a] st I J Q = Rn S 191 1156 [v0, v1, v2, .int a] (.int a :: st) I J Q := rL f191_1155 rfl rfl
theorem x191_1156 : Rn S 191 1156 [v0, v1, v2, v3] st I J Q = Rn S 191 1157 [v0, v1, v2, v3] (.int 3 :: st) I J Q := rS f191_1156 rfl
theorem x191_1157 : Rn S 191 1157 [v0, v1, v2, v3] (.int b :: .int a :: st) I J Q = Rn S 191 1158 [v0, v1, v2, v3] (.int (a + b) :: st) I J Q := rS f191_1157 rfl
theorem x191_1158 : Rn S 191 1158 [v0, v1, v2, v3] (.int a :: .ref q :: st) I J Q = (zai S q a ∧ Rn S 191 1159 [v0, v1, v2, v3] (.int (I q a.toNatClampNeg) :: st) I J Q) := rIal f191_1158
theorem x191_1159 : Rn S 191 1159 [.ref q, v1, v2, v3] st I J Q = Rn S 191 1160 [.ref q, v1, v2, v3] (.ref q :: st) I J Q := rL f191_1159 rfl rfl
theorem x191_1160 : Rn S 191 1160 [v0, v1, v2, .int a] st I J Q = Rn S 191 1161 [v0, v1, v2, .int a] (.int a :: st) I J Q := rL f191_1160 rfl rfl
theorem x191_1161 : Rn S 191 1161 [v0, v1, v2, v3] st I J Q = Rn S 191 1162 [v0, v1, v2, v3] (.int 4 :: st) I J Q := rS f191_1161 rfl
theorem x191_1162 : Rn S 191 1162 [v0, v1, v2, v3] (.int b :: .int a :: st) I J Q = Rn S 191 1163 [v0, v1, v2, v3] (.int (a + b) :: st) I J Q := rS f191_1162 rfl
theorem x191_1163 : Rn S 191 1163 [v0, v1, v2, v3] (.int a :: .ref q :: st) I J Q = (zai S q a ∧ Rn S 191 1164 [v0, v1, v2, v3] (.int (I q a.toNatClampNeg) :: st) I J Q) := rIal f191_1163
theorem x191_1164 : Rn S 191 1164 [.ref q, v1, v2, v3] st I J Q = Rn S 191 1165 [.ref q, v1, v2, v3] (.ref q :: st) I J Q := rL f191_1164 rfl rfl
theorem x191_1165 : Rn S 191 1165 [v0, v1, v2, .int a] st I J Q = Rn S 191 1166 [v0, v1, v2, .int a] (.int a :: st) I J Q := rL f191_1165 rfl rfl
theorem x191_1166 : Rn S 191 1166 [v0, v1, v2, v3] st I J Q = Rn S 191 1167 [v0, v1, v2, v3] (.int 5 :: st) I J Q := rS f191_1166 rfl
theorem x191_1167 : Rn S 191 1167 [v0, v1, v2, v3] (.int b :: .int a :: st) I J Q = Rn S 191 1168 [v0, v1, v2, v3] (.int (a + b) :: st) I J Q := rS f191_1167 rfl
theorem x191_1168 : Rn S 191 1168 [v0, v1, v2, v3] (.int a :: .ref q :: st) I J Q = (zai S q a ∧ Rn S 191 1169 [v0, v1, v2, v3] (.int (I q a.toNatClampNeg) :: st) I J Q) := rIal f191_1168
theorem x191_1169 : Rn S 191 1169 [v0, v1, v2, v3] (.int a4 :: .int a3 :: .int a2 :: .int a1 :: .int a0 :: .ref q :: st) I J Q = ((zcls S q = 5 ∧ zcs st ≤ 8) ∧ Rn S 71 0 [.ref q, .int a0, .int a1, .int a2, .int a3, .int a4, .null, .null] [] I J (fun v I' J' => Rn S 191 1172 [v0, v1, v2, v3] (v.toList ++ st) I' J' Q)) := rCV (As := [.int a0, .int a1, .int a2, .int a3, .int a4]) f191_1169 rfl rfl rfl rfl (Nat.le_of_ble_eq_true rfl)
theorem x191_1172 : Rn S 191 1172 [v0, v1, .ref q, v3] st I J Q = Rn S 191 1173 [v0, v1, .ref q, v3] (.ref q :: st) I J Q := rL f191_1172 rfl rfl
theorem x191_1173 : Rn S 191 1173 [.ref q, v1, v2, v3] st I J Q = Rn S 191 1174 [.ref q, v1, v2, v3] (.ref q :: st) I J Q := rL f191_1173 rfl rfl
theorem x191_1174 : Rn S 191 1174 [v0, v1, v2, .int a] st I J Q = Rn S 191 1175 [v0, v1, v2, .int a] (.int a :: st) I J Q := rL f191_1174 rfl rfl
theorem x191_1175 : Rn S 191 1175 [v0, v1, v2, v3] st I J Q = Rn S 191 1176 [v0, v1, v2, v3] (.int 1 :: st) I J Q := rS f191_1175 rfl
theorem x191_1176 : Rn S 191 1176 [v0, v1, v2, v3] (.int b :: .int a :: st) I J Q = Rn S 191 1177 [v0, v1, v2, v3] (.int (a + b) :: st) I J Q := rS f191_1176 rfl
theorem x191_1177 : Rn S 191 1177 [v0, v1, v2, v3] (.int a :: .ref q :: st) I J Q = (zai S q a ∧ Rn S 191 1178 [v0, v1, v2, v3] (.int (I q a.toNatClampNeg) :: st) I J Q) := rIal f191_1177
theorem x191_1178 : Rn S 191 1178 [.ref q, v1, v2, v3] st I J Q = Rn S 191 1179 [.ref q, v1, v2, v3] (.ref q :: st) I J Q := rL f191_1178 rfl rfl
theorem x191_1179 : Rn S 191 1179 [v0, v1, v2, .int a] st I J Q = Rn S 191 1180 [v0, v1, v2, .int a] (.int a :: st) I J Q := rL f191_1179 rfl rfl
theorem x191_1180 : Rn S 191 1180 [v0, v1, v2, v3] st I J Q = Rn S 191 1181 [v0, v1, v2, v3] (.int 2 :: st) I J Q := rS f191_1180 rfl
theorem x191_1181 : Rn S 191 1181 [v0, v1, v2, v3] (.int b :: .int a :: st) I J Q = Rn S 191 1182 [v0, v1, v2, v3] (.int (a + b) :: st) I J Q := rS f191_1181 rfl
theorem x191_1182 : Rn S 191 1182 [v0, v1, v2, v3] (.int a :: .ref q :: st) I J Q = (zai S q a ∧ Rn S 191 1183 [v0, v1, v2, v3] (.int (I q a.toNatClampNeg) :: st) I J Q) := rIal f191_1182
theorem x191_1183 : Rn S 191 1183 [.ref q, v1, v2, v3] st I J Q = Rn S 191 1184 [.ref q, v1, v2, v3] (.ref q :: st) I J Q := rL f191_1183 rfl rfl
theorem x191_1184 : Rn S 191 1184 [v0, v1, v2, .int a] st I J Q = Rn S 191 1185 [v0, v1, v2, .int a] (.int a :: st) I J Q := rL f191_1184 rfl rfl
theorem x191_1185 : Rn S 191 1185 [v0, v1, v2, v3] st I J Q = Rn S 191 1186 [v0, v1, v2, v3] (.int 3 :: st) I J Q := rS f191_1185 rfl
theorem x191_1186 : Rn S 191 1186 [v0, v1, v2, v3] (.int b :: .int a :: st) I J Q = Rn S 191 1187 [v0, v1, v2, v3] (.int (a + b) :: st) I J Q := rS f191_1186 rfl
theorem x191_1187 : Rn S 191 1187 [v0, v1, v2, v3] (.int a :: .ref q :: st) I J Q = (zai S q a ∧ Rn S 191 1188 [v0, v1, v2, v3] (.int (I q a.toNatClampNeg) :: st) I J Q) := rIal f191_1187
theorem x191_1188 : Rn S 191 1188 [.ref q, v1, v2, v3] st I J Q = Rn S 191 1189 [.ref q, v1, v2, v3] (.ref q :: st) I J Q := rL f191_1188 rfl rfl
theorem x191_1189 : Rn S 191 1189 [v0, v1, v2, .int a] st I J Q = Rn S 191 1190 [v0, v1, v2, .int a] (.int a :: st) I J Q := rL f191_1189 rfl rfl
theorem x191_1190 : Rn S 191 1190 [v0, v1, v2, v3] st I J Q = Rn S 191 1191 [v0, v1, v2, v3] (.int 4 :: st) I J Q := rS f191_1190 rfl
theorem x191_1191 : Rn S 191 1191 [v0, v1, v2, v3] (.int b :: .int a :: st) I J Q = Rn S 191 1192 [v0, v1, v2, v3] (.int (a + b) :: st) I J Q := rS f191_1191 rfl
theorem x191_1192 : Rn S 191 1192 [v0, v1, v2, v3] (.int a :: .ref q :: st) I J Q = (zai S q a ∧ Rn S 191 1193 [v0, v1, v2, v3] (.int (I q a.toNatClampNeg) :: st) I J Q) := rIal f191_1192
theorem x191_1193 : Rn S 191 1193 [.ref q, v1, v2, v3] st I J Q = Rn S 191 1194 [.ref q, v1, v2, v3] (.ref q :: st) I J Q := rL f191_1193 rfl rfl
theorem x191_1194 : Rn S 191 1194 [v0, v1, v2, .int a] st I J Q = Rn S 191 1195 [v0, v1, v2, .int a] (.int a :: st) I J Q := rL f191_1194 rfl rfl
theorem x191_1195 : Rn S 191 1195 [v0, v1, v2, v3] st I J Q = Rn S 191 1196 [v0, v1, v2, v3] (.int 5 :: st) I J Q := rS f191_1195 rfl
theorem x191_1196 : Rn S 191 1196 [v0, v1, v2, v3] (.int b :: .int a :: st) I J Q = Rn S 191 1197 [v0, v1, v2, v3] (.int (a + b) :: st) I J Q := rS f191_1196 rfl
theorem x191_1197 : Rn S 191 1197 [v0, v1, v2, v3] (.int a :: .ref q :: st) I J Q = (zai S q a ∧ Rn S 191 1198 [v0, v1, v2, v3] (.int (I q a.toNatClampNeg) :: st) I J Q) := rIal f191_1197
theorem x191_1198 : Rn S 191 1198 [v0, v1, v2, v3] (.int a4 :: .int a3 :: .int a2 :: .int a1 :: .int a0 :: .ref q :: st) I J Q = ((zcls S q = 6 ∧ zcs st ≤ 8) ∧ Rn S 112 0 [.ref q, .int a0, .int a1, .int a2, .int a3, .int a4, .null] [] I J (fun v I' J' => Rn S 191 1201 [v0, v1, v2, v3] (v.toList ++ st) I' J' Q)) := rCV (As := [.int a0, .int a1, .int a2, .int a3, .int a4]) f191_1198 rfl rfl rfl rfl (Nat.le_of_ble_eq_true rfl)
theorem x191_1201 : Rn S 191 1201 [v0, v1, v2, v3] (.int b :: .int a :: st) I J Q = if a = b then Rn S 191 1266 [v0, v1, v2, v3] st I J Q else Rn S 191 1204 [v0, v1, v2, v3] st I J Q := rCeq f191_1201 rfl rfl
theorem x191_1204 : Rn S 191 1204 [v0, v1, v2, v3] st I J Q = Rn S 191 1205 [v0, v1, v2, v3] (.int 0 :: st) I J Q := rS f191_1204 rfl
theorem x191_1205 : Rn S 191 1205 [v0, v1, v2, v3] [.int a] I J Q = ((a = 0 ∨ a = 1) ∧ Q (some (.int a)) I J) := rRZ f191_1205 rfl
theorem x191_1206 : Rn S 191 1206 [v0, .ref q, v2, v3] st I J Q = Rn S 191 1207 [v0, .ref q, v2, v3] (.ref q :: st) I J Q := rL f191_1206 rfl rfl
theorem x191_1207 : Rn S 191 1207 [.ref q, v1, v2, v3] st I J Q = Rn S 191 1208 [.ref q, v1, v2, v3] (.ref q :: st) I J Q := rL f191_1207 rfl rfl
theorem x191_1208 : Rn S 191 1208 [v0, v1, v2, .int a] st I J Q = Rn S 191 1209 [v0, v1, v2, .int a] (.int a :: st) I J Q := rL f191_1208 rfl rfl
theorem x191_1209 : Rn S 191 1209 [v0, v1, v2, v3] st I J Q = Rn S 191 1210 [v0, v1, v2, v3] (.int 1 :: st) I J Q := rS f191_1209 rfl
theorem x191_1210 : Rn S 191 1210 [v0, v1, v2, v3] (.int b :: .int a :: st) I J Q = Rn S 191 1211 [v0, v1, v2, v3] (.int (a + b) :: st) I J Q := rS f191_1210 rfl
theorem x191_1211 : Rn S 191 1211 [v0, v1, v2, v3] (.int a :: .ref q :: st) I J Q = (zai S q a ∧ Rn S 191 1212 [v0, v1, v2, v3] (.int (I q a.toNatClampNeg) :: st) I J Q) := rIal f191_1211
theorem x191_1212 : Rn S 191 1212 [v0, v1, v2, v3] (.int a0 :: .ref q :: st) I J Q = ((zcls S q = 5 ∧ zcs st ≤ 8) ∧ Rn S 72 0 [.ref q, .int a0, .null, .null, .null] [] I J (fun v I' J' => Rn S 191 1215 [v0, v1, v2, v3] (v.toList ++ st) I' J' Q)) := rCV (As := [.int a0]) f191_1212 rfl rfl rfl rfl (Nat.le_of_ble_eq_true rfl)
theorem x191_1215 : Rn S 191 1215 [v0, v1, .ref q, v3] st I J Q = Rn S 191 1216 [v0, v1, .ref q, v3] (.ref q :: st) I J Q := rL f191_1215 rfl rfl
theorem x191_1216 : Rn S 191 1216 [.ref q, v1, v2, v3] st I J Q = Rn S 191 1217 [.ref q, v1, v2, v3] (.ref q :: st) I J Q := rL f191_1216 rfl rfl
theorem x191_1217 : Rn S 191 1217 [v0, v1, v2, .int a] st I J Q = Rn S 191 1218 [v0, v1, v2, .int a] (.int a :: st) I J Q := rL f191_1217 rfl rfl
theorem x191_1218 : Rn S 191 1218 [v0, v1, v2, v3] st I J Q = Rn S 191 1219 [v0, v1, v2, v3] (.int 1 :: st) I J Q := rS f191_1218 rfl
theorem x191_1219 : Rn S 191 1219 [v0, v1, v2, v3] (.int b :: .int a :: st) I J Q = Rn S 191 1220 [v0, v1, v2, v3] (.int (a + b) :: st) I J Q := rS f191_1219 rfl
theorem x191_1220 : Rn S 191 1220 [v0, v1, v2, v3] (.int a :: .ref q :: st) I J Q = (zai S q a ∧ Rn S 191 1221 [v0, v1, v2, v3] (.int (I q a.toNatClampNeg) :: st) I J Q) := rIal f191_1220
theorem x191_1221 : Rn S 191 1221 [v0, v1, v2, v3] (.int a0 :: .ref q :: st) I J Q = ((zcls S q = 6 ∧ zcs st ≤ 8) ∧ Rn S 183 0 [.ref q, .int a0, .null, .null] [] I J (fun v I' J' => Rn S 191 1224 [v0, v1, v2, v3] (v.toList ++ st) I' J' Q)) := rCV (As := [.int a0]) f191_1221 rfl rfl rfl rfl (Nat.le_of_ble_eq_true rfl)
theorem x191_1224 : Rn S 191 1224 [v0, v1, v2, v3] (.int b :: .int a :: st) I J Q = if a = b then Rn S 191 1266 [v0, v1, v2, v3] st I J Q else Rn S 191 1227 [v0, v1, v2, v3] st I J Q := rCeq f191_1224 rfl rfl
theorem x191_1227 : Rn S 191 1227 [v0, v1, v2, v3] st I J Q = Rn S 191 1228 [v0, v1, v2, v3] (.int 0 :: st) I J Q := rS f191_1227 rfl
theorem x191_1228 : Rn S 191 1228 [v0, v1, v2, v3] [.int a] I J Q = ((a = 0 ∨ a = 1) ∧ Q (some (.int a)) I J) := rRZ f191_1228 rfl
theorem x191_1229 : Rn S 191 1229 [v0, .ref q, v2, v3] st I J Q = Rn S 191 1230 [v0, .ref q, v2, v3] (.ref q :: st) I J Q := rL f191_1229 rfl rfl
theorem x191_1230 : Rn S 191 1230 [.ref q, v1, v2, v3] st I J Q = Rn S 191 1231 [.ref q, v1, v2, v3] (.ref q :: st) I J Q := rL f191_1230 rfl rfl
theorem x191_1231 : Rn S 191 1231 [v0, v1, v2, .int a] st I J Q = Rn S 191 1232 [v0, v1, v2, .int a] (.int a :: st) I J Q := rL f191_1231 rfl rfl
theorem x191_1232 : Rn S 191 1232 [v0, v1, v2, v3] st I J Q = Rn S 191 1233 [v0, v1, v2, v3] (.int 1 :: st) I J Q := rS f191_1232 rfl
theorem x191_1233 : Rn S 191 1233 [v0, v1, v2, v3] (.int b :: .int a :: st) I J Q = Rn S 191 1234 [v0, v1, v2, v3] (.int (a + b) :: st) I J Q := rS f191_1233 rfl
theorem x191_1234 : Rn S 191 1234 [v0, v1, v2, v3] (.int a :: .ref q :: st) I J Q = (zai S q a ∧ Rn S 191 1235 [v0, v1, v2, v3] (.int (I q a.toNatClampNeg) :: st) I J Q) := rIal f191_1234
theorem x191_1235 : Rn S 191 1235 [v0, v1, v2, v3] (.int a0 :: .ref q :: st) I J Q = ((zcls S q = 5 ∧ zcs st ≤ 8) ∧ Rn S 73 0 [.ref q, .int a0] [] I J (fun v I' J' => Rn S 191 1238 [v0, v1, v2, v3] (v.toList ++ st) I' J' Q)) := rCV (As := [.int a0]) f191_1235 rfl rfl rfl rfl (Nat.le_of_ble_eq_true rfl)
theorem x191_1238 : Rn S 191 1238 [v0, v1, .ref q, v3] st I J Q = Rn S 191 1239 [v0, v1, .ref q, v3] (.ref q :: st) I J Q := rL f191_1238 rfl rfl
theorem x191_1239 : Rn S 191 1239 [.ref q, v1, v2, v3] st I J Q = Rn S 191 1240 [.ref q, v1, v2, v3] (.ref q :: st) I J Q := rL f191_1239 rfl rfl
theorem x191_1240 : Rn S 191 1240 [v0, v1, v2, .int a] st I J Q = Rn S 191 1241 [v0, v1, v2, .int a] (.int a :: st) I J Q := rL f191_1240 rfl rfl
theorem x191_1241 : Rn S 191 1241 [v0, v1, v2, v3] st I J Q = Rn S 191 1242 [v0, v1, v2, v3] (.int 1 :: st) I J Q := rS f191_1241 rfl
theorem x191_1242 : Rn S 191 1242 [v0, v1, v2, v3] (.int b :: .int a :: st) I J Q = Rn S 191 1243 [v0, v1, v2, v3] (.int (a + b) :: st) I J Q := rS f191_1242 rfl
theorem x191_1243 : Rn S 191 1243 [v0, v1, v2, v3] (.int a :: .ref q :: st) I J Q = (zai S q a ∧ Rn S 191 1244 [v0, v1, v2, v3] (.int (I q a.toNatClampNeg) :: st) I J Q) := rIal f191_1243
theorem x191_1244 : Rn S 191 1244 [v0, v1, v2, v3] (.int a0 :: .ref q :: st) I J Q = ((zcls S q = 6 ∧ zcs st ≤ 8) ∧ Rn S 184 0 [.ref q, .int a0] [] I J (fun v I' J' => Rn S 191 1247 [v0, v1, v2, v3] (v.toList ++ st) I' J' Q)) := rCV (As := [.int a0]) f191_1244 rfl rfl rfl rfl (Nat.le_of_ble_eq_true rfl)
theorem x191_1247 : Rn S 191 1247 [v0, v1, v2, v3] (.int b :: .int a :: st) I J Q = if a = b then Rn S 191 1266 [v0, v1, v2, v3] st I J Q else Rn S 191 1250 [v0, v1, v2, v3] st I J Q := rCeq f191_1247 rfl rfl
theorem x191_1250 : Rn S 191 1250 [v0, v1, v2, v3] st I J Q = Rn S 191 1251 [v0, v1, v2, v3] (.int 0 :: st) I J Q := rS f191_1250 rfl
theorem x191_1251 : Rn S 191 1251 [v0, v1, v2, v3] [.int a] I J Q = ((a = 0 ∨ a = 1) ∧ Q (some (.int a)) I J) := rRZ f191_1251 rfl
theorem x191_1252 : Rn S 191 1252 [v0, .ref q, v2, v3] st I J Q = Rn S 191 1253 [v0, .ref q, v2, v3] (.ref q :: st) I J Q := rL f191_1252 rfl rfl
theorem x191_1253 : Rn S 191 1253 [v0, v1, v2, v3] (.ref q :: st) I J Q = ((zcls S q = 5 ∧ zcs st ≤ 8) ∧ Rn S 74 0 [.ref q, .null, .null, .null] [] I J (fun v I' J' => Rn S 191 1256 [v0, v1, v2, v3] (v.toList ++ st) I' J' Q)) := rCV (As := []) f191_1253 rfl rfl rfl rfl (Nat.le_of_ble_eq_true rfl)
theorem x191_1256 : Rn S 191 1256 [v0, v1, .ref q, v3] st I J Q = Rn S 191 1257 [v0, v1, .ref q, v3] (.ref q :: st) I J Q := rL f191_1256 rfl rfl
theorem x191_1257 : Rn S 191 1257 [v0, v1, v2, v3] (.ref q :: st) I J Q = ((zcls S q = 6 ∧ zcs st ≤ 8) ∧ Rn S 187 0 [.ref q, .null, .null, .null] [] I J (fun v I' J' => Rn S 191 1260 [v0, v1, v2, v3] (v.toList ++ st) I' J' Q)) := rCV (As := []) f191_1257 rfl rfl rfl rfl (Nat.le_of_ble_eq_true rfl)
theorem x191_1260 : Rn S 191 1260 [v0, v1, v2, v3] (.long w :: .long u :: st) I J Q = Rn S 191 1261 [v0, v1, v2, v3] (.int (lg_cmp u w) :: st) I J Q := rS f191_1260 rfl
theorem x191_1261 : Rn S 191 1261 [v0, v1, v2, v3] (.int a :: st) I J Q = if a = 0 then Rn S 191 1266 [v0, v1, v2, v3] st I J Q else Rn S 191 1264 [v0, v1, v2, v3] st I J Q := rIeq f191_1261 rfl rfl
theorem x191_1264 : Rn S 191 1264 [v0, v1, v2, v3] st I J Q = Rn S 191 1265 [v0, v1, v2, v3] (.int 0 :: st) I J Q := rS f191_1264 rfl
theorem x191_1265 : Rn S 191 1265 [v0, v1, v2, v3] [.int a] I J Q = ((a = 0 ∨ a = 1) ∧ Q (some (.int a)) I J) := rRZ f191_1265 rfl
theorem x191_1266 : Rn S 191 1266 [v0, v1, v2, .int a] st I J Q = Rn S 191 1269 [v0, v1, zkl v2, .int (a + 6)] st I J Q := rL f191_1266 rfl rfl
theorem x191_1269 : Rn S 191 1269 [v0, v1, v2, v3] st I J Q = Rn S 191 18 [v0, v1, v2, v3] st I J Q := rB f191_1269 rfl rfl rfl
theorem x191_1272 : Rn S 191 1272 [v0, v1, v2, v3] st I J Q = Rn S 191 1273 [v0, v1, v2, v3] (.int 1 :: st) I J Q := rS f191_1272 rfl
theorem x191_1273 : Rn S 191 1273 [v0, v1, v2, v3] [.int a] I J Q = ((a = 0 ∨ a = 1) ∧ Q (some (.int a)) I J) := rRZ f191_1273 rfl
end
