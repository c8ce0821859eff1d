theorem dL_isWorldSo_214 : decode cL_isWorldSo 214 = .ok (.aload_n 0, 1) := by decide +kernel
theorem dL_isWorldSo_215 : decode cL_isWorldSo 215 = .ok (.iload 5, 2) := by decide +kernel
theorem dL_isWorldSo_217 : decode cL_isWorldSo 217 = .ok (.iconst 5, 1) := by decide +kernel
theorem dL_isWorldSo_218 : decode cL_isWorldSo 218 = .ok (.isub, 1) := by decide +kernel
theorem dL_isWorldSo_219 : decode cL_isWorldSo 219 = .ok (.invokevirtual 56, 3) := by decide +kernel
theorem dL_isWorldSo_222 : decode cL_isWorldSo 222 = .ok (.ifCond .eq 7, 3) := by decide +kernel
theorem dL_isWorldSo_225 : decode cL_isWorldSo 225 = .ok (.iconst 1, 1) := by decide +kernel
theorem dL_isWorldSo_226 : decode cL_isWorldSo 226 = .ok (.goto 4, 3) := by decide +kernel
theorem dL_isWorldSo_229 : decode cL_isWorldSo 229 = .ok (.iconst 0, 1) := by decide +kernel
theorem dL_isWorldSo_230 : decode cL_isWorldSo 230 = .ok (.istore 8, 2) := by decide +kernel
theorem dL_isWorldSo_232 : decode cL_isWorldSo 232 = .ok (.iload_n 1, 1) := by decide +kernel
theorem dL_isWorldSo_233 : decode cL_isWorldSo 233 = .ok (.iload 8, 2) := by decide +kernel
theorem dL_isWorldSo_235 : decode cL_isWorldSo 235 = .ok (.ifCond .eq 10, 3) := by decide +kernel
theorem dL_isWorldSo_238 : decode cL_isWorldSo 238 = .ok (.iconst 1, 1) := by decide +kernel
theorem dL_isWorldSo_239 : decode cL_isWorldSo 239 = .ok (.iload 4, 2) := by decide +kernel
theorem dL_isWorldSo_241 : decode cL_isWorldSo 241 = .ok (.ishl, 1) := by decide +kernel
theorem dL_isWorldSo_242 : decode cL_isWorldSo 242 = .ok (.goto 4, 3) := by decide +kernel
theorem dL_isWorldSo_245 : decode cL_isWorldSo 245 = .ok (.iconst 0, 1) := by decide +kernel
theorem dL_isWorldSo_246 : decode cL_isWorldSo 246 = .ok (.ior, 1) := by decide +kernel
theorem dL_isWorldSo_247 : decode cL_isWorldSo 247 = .ok (.istore_n 1, 1) := by decide +kernel
theorem dL_isWorldSo_248 : decode cL_isWorldSo 248 = .ok (.iload_n 2, 1) := by decide +kernel
theorem dL_isWorldSo_249 : decode cL_isWorldSo 249 = .ok (.iload 5, 2) := by decide +kernel
theorem dL_isWorldSo_251 : decode cL_isWorldSo 251 = .ok (.iconst 4, 1) := by decide +kernel
theorem dL_isWorldSo_252 : decode cL_isWorldSo 252 = .ok (.if_icmp .ne 10, 3) := by decide +kernel
theorem dL_isWorldSo_255 : decode cL_isWorldSo 255 = .ok (.iconst 1, 1) := by decide +kernel
theorem dL_isWorldSo_256 : decode cL_isWorldSo 256 = .ok (.iload 4, 2) := by decide +kernel
theorem dL_isWorldSo_258 : decode cL_isWorldSo 258 = .ok (.ishl, 1) := by decide +kernel
theorem dL_isWorldSo_259 : decode cL_isWorldSo 259 = .ok (.goto 4, 3) := by decide +kernel
theorem dL_isWorldSo_262 : decode cL_isWorldSo 262 = .ok (.iconst 0, 1) := by decide +kernel
theorem dL_isWorldSo_263 : decode cL_isWorldSo 263 = .ok (.ior, 1) := by decide +kernel
theorem dL_isWorldSo_264 : decode cL_isWorldSo 264 = .ok (.istore_n 2, 1) := by decide +kernel
theorem dL_isWorldSo_265 : decode cL_isWorldSo 265 = .ok (.iinc 4 1, 3) := by decide +kernel
theorem dL_isWorldSo_268 : decode cL_isWorldSo 268 = .ok (.goto (-245), 3) := by decide +kernel
theorem dL_isWorldSo_271 : decode cL_isWorldSo 271 = .ok (.aload_n 0, 1) := by decide +kernel
theorem dL_isWorldSo_272 : decode cL_isWorldSo 272 = .ok (.iconst 1, 1) := by decide +kernel
theorem dL_isWorldSo_273 : decode cL_isWorldSo 273 = .ok (.iconst (-1), 1) := by decide +kernel
theorem dL_isWorldSo_274 : decode cL_isWorldSo 274 = .ok (.invokevirtual 24, 3) := by decide +kernel
theorem dL_isWorldSo_277 : decode cL_isWorldSo 277 = .ok (.aload_n 0, 1) := by decide +kernel
theorem dL_isWorldSo_278 : decode cL_isWorldSo 278 = .ok (.iconst 5, 1) := by decide +kernel
theorem dL_isWorldSo_279 : decode cL_isWorldSo 279 = .ok (.iconst (-1), 1) := by decide +kernel
theorem dL_isWorldSo_280 : decode cL_isWorldSo 280 = .ok (.invokevirtual 24, 3) := by decide +kernel
theorem dL_isWorldSo_283 : decode cL_isWorldSo 283 = .ok (.ior, 1) := by decide +kernel
theorem dL_isWorldSo_284 : decode cL_isWorldSo 284 = .ok (.istore 4, 2) := by decide +kernel
theorem dL_isWorldSo_286 : decode cL_isWorldSo 286 = .ok (.aload_n 0, 1) := by decide +kernel
theorem dL_isWorldSo_287 : decode cL_isWorldSo 287 = .ok (.iconst 4, 1) := by decide +kernel
theorem dL_isWorldSo_288 : decode cL_isWorldSo 288 = .ok (.invokevirtual 60, 3) := by decide +kernel
theorem dL_isWorldSo_291 : decode cL_isWorldSo 291 = .ok (.istore 5, 2) := by decide +kernel
theorem dL_isWorldSo_293 : decode cL_isWorldSo 293 = .ok (.iload_n 3, 1) := by decide +kernel
theorem dL_isWorldSo_294 : decode cL_isWorldSo 294 = .ok (.ifCond .eq 80, 3) := by decide +kernel
theorem dL_isWorldSo_297 : decode cL_isWorldSo 297 = .ok (.aload_n 0, 1) := by decide +kernel
theorem dL_isWorldSo_298 : decode cL_isWorldSo 298 = .ok (.invokevirtual 63, 3) := by decide +kernel
theorem dL_isWorldSo_301 : decode cL_isWorldSo 301 = .ok (.iload_n 1, 1) := by decide +kernel
theorem dL_isWorldSo_302 : decode cL_isWorldSo 302 = .ok (.if_icmp .ne 72, 3) := by decide +kernel
theorem dL_isWorldSo_305 : decode cL_isWorldSo 305 = .ok (.aload_n 0, 1) := by decide +kernel
theorem dL_isWorldSo_306 : decode cL_isWorldSo 306 = .ok (.iconst 1, 1) := by decide +kernel
theorem dL_isWorldSo_307 : decode cL_isWorldSo 307 = .ok (.invokevirtual 60, 3) := by decide +kernel
theorem dL_isWorldSo_310 : decode cL_isWorldSo 310 = .ok (.iload_n 2, 1) := by decide +kernel
theorem dL_isWorldSo_311 : decode cL_isWorldSo 311 = .ok (.if_icmp .ne 63, 3) := by decide +kernel
theorem dL_isWorldSo_314 : decode cL_isWorldSo 314 = .ok (.aload_n 0, 1) := by decide +kernel
theorem dL_isWorldSo_315 : decode cL_isWorldSo 315 = .ok (.iconst 0, 1) := by decide +kernel
theorem dL_isWorldSo_316 : decode cL_isWorldSo 316 = .ok (.invokevirtual 60, 3) := by decide +kernel
theorem dL_isWorldSo_319 : decode cL_isWorldSo 319 = .ok (.iload_n 1, 1) := by decide +kernel
theorem dL_isWorldSo_320 : decode cL_isWorldSo 320 = .ok (.iload_n 2, 1) := by decide +kernel
theorem dL_isWorldSo_321 : decode cL_isWorldSo 321 = .ok (.iconst (-1), 1) := by decide +kernel
theorem dL_isWorldSo_322 : decode cL_isWorldSo 322 = .ok (.ixor, 1) := by decide +kernel
theorem dL_isWorldSo_323 : decode cL_isWorldSo 323 = .ok (.iand, 1) := by decide +kernel
theorem dL_isWorldSo_324 : decode cL_isWorldSo 324 = .ok (.if_icmp .ne 50, 3) := by decide +kernel
theorem dL_isWorldSo_327 : decode cL_isWorldSo 327 = .ok (.aload_n 0, 1) := by decide +kernel
theorem dL_isWorldSo_328 : decode cL_isWorldSo 328 = .ok (.iconst 2, 1) := by decide +kernel
theorem dL_isWorldSo_329 : decode cL_isWorldSo 329 = .ok (.invokevirtual 60, 3) := by decide +kernel
theorem dL_isWorldSo_332 : decode cL_isWorldSo 332 = .ok (.iload_n 2, 1) := by decide +kernel
theorem dL_isWorldSo_333 : decode cL_isWorldSo 333 = .ok (.iload 4, 2) := by decide +kernel
theorem dL_isWorldSo_335 : decode cL_isWorldSo 335 = .ok (.iconst (-1), 1) := by decide +kernel
theorem dL_isWorldSo_336 : decode cL_isWorldSo 336 = .ok (.ixor, 1) := by decide +kernel
theorem dL_isWorldSo_337 : decode cL_isWorldSo 337 = .ok (.iand, 1) := by decide +kernel
theorem dL_isWorldSo_338 : decode cL_isWorldSo 338 = .ok (.if_icmp .ne 36, 3) := by decide +kernel
theorem dL_isWorldSo_341 : decode cL_isWorldSo 341 = .ok (.aload_n 0, 1) := by decide +kernel
theorem dL_isWorldSo_342 : decode cL_isWorldSo 342 = .ok (.iconst 3, 1) := by decide +kernel
theorem dL_isWorldSo_343 : decode cL_isWorldSo 343 = .ok (.invokevirtual 60, 3) := by decide +kernel
theorem dL_isWorldSo_346 : decode cL_isWorldSo 346 = .ok (.iload_n 1, 1) := by decide +kernel
theorem dL_isWorldSo_347 : decode cL_isWorldSo 347 = .ok (.iload 4, 2) := by decide +kernel
theorem dL_isWorldSo_349 : decode cL_isWorldSo 349 = .ok (.iand, 1) := by decide +kernel
theorem dL_isWorldSo_350 : decode cL_isWorldSo 350 = .ok (.iload 5, 2) := by decide +kernel
theorem dL_isWorldSo_352 : decode cL_isWorldSo 352 = .ok (.iconst (-1), 1) := by decide +kernel
theorem dL_isWorldSo_353 : decode cL_isWorldSo 353 = .ok (.ixor, 1) := by decide +kernel
theorem dL_isWorldSo_354 : decode cL_isWorldSo 354 = .ok (.iand, 1) := by decide +kernel
theorem dL_isWorldSo_355 : decode cL_isWorldSo 355 = .ok (.if_icmp .ne 19, 3) := by decide +kernel
theorem dL_isWorldSo_358 : decode cL_isWorldSo 358 = .ok (.iload 5, 2) := by decide +kernel
theorem dL_isWorldSo_360 : decode cL_isWorldSo 360 = .ok (.iload_n 1, 1) := by decide +kernel
theorem dL_isWorldSo_361 : decode cL_isWorldSo 361 = .ok (.iload 4, 2) := by decide +kernel
theorem dL_isWorldSo_363 : decode cL_isWorldSo 363 = .ok (.iand, 1) := by decide +kernel
theorem dL_isWorldSo_364 : decode cL_isWorldSo 364 = .ok (.iconst (-1), 1) := by decide +kernel
theorem dL_isWorldSo_365 : decode cL_isWorldSo 365 = .ok (.ixor, 1) := by decide +kernel
theorem dL_isWorldSo_366 : decode cL_isWorldSo 366 = .ok (.iand, 1) := by decide +kernel
theorem dL_isWorldSo_367 : decode cL_isWorldSo 367 = .ok (.ifCond .ne 7, 3) := by decide +kernel
theorem dL_isWorldSo_370 : decode cL_isWorldSo 370 = .ok (.iconst 1, 1) := by decide +kernel
theorem dL_isWorldSo_371 : decode cL_isWorldSo 371 = .ok (.goto 4, 3) := by decide +kernel
theorem dL_isWorldSo_374 : decode cL_isWorldSo 374 = .ok (.iconst 0, 1) := by decide +kernel
theorem dL_isWorldSo_375 : decode cL_isWorldSo 375 = .ok (.istore_n 3, 1) := by decide +kernel
theorem dL_isWorldSo_376 : decode cL_isWorldSo 376 = .ok (.iload_n 3, 1) := by decide +kernel
theorem dL_isWorldSo_377 : decode cL_isWorldSo 377 = .ok (.ifCond .eq 70, 3) := by decide +kernel
theorem dL_isWorldSo_380 : decode cL_isWorldSo 380 = .ok (.aload_n 0, 1) := by decide +kernel
theorem dL_isWorldSo_381 : decode cL_isWorldSo 381 = .ok (.invokevirtual 66, 3) := by decide +kernel
theorem dL_isWorldSo_384 : decode cL_isWorldSo 384 = .ok (.invokestatic 69, 3) := by decide +kernel
theorem dL_isWorldSo_387 : decode cL_isWorldSo 387 = .ok (.iconst 1, 1) := by decide +kernel
theorem dL_isWorldSo_388 : decode cL_isWorldSo 388 = .ok (.if_icmp .eq 59, 3) := by decide +kernel
theorem dL_isWorldSo_391 : decode cL_isWorldSo 391 = .ok (.aload_n 0, 1) := by decide +kernel
theorem dL_isWorldSo_392 : decode cL_isWorldSo 392 = .ok (.invokevirtual 72, 3) := by decide +kernel
theorem dL_isWorldSo_395 : decode cL_isWorldSo 395 = .ok (.iload_n 1, 1) := by decide +kernel
theorem dL_isWorldSo_396 : decode cL_isWorldSo 396 = .ok (.iconst (-1), 1) := by decide +kernel
theorem dL_isWorldSo_397 : decode cL_isWorldSo 397 = .ok (.ixor, 1) := by decide +kernel
theorem dL_isWorldSo_398 : decode cL_isWorldSo 398 = .ok (.iand, 1) := by decide +kernel
theorem dL_isWorldSo_399 : decode cL_isWorldSo 399 = .ok (.ifCond .ne 48, 3) := by decide +kernel
theorem dL_isWorldSo_402 : decode cL_isWorldSo 402 = .ok (.aload_n 0, 1) := by decide +kernel
theorem dL_isWorldSo_403 : decode cL_isWorldSo 403 = .ok (.invokevirtual 72, 3) := by decide +kernel
theorem dL_isWorldSo_406 : decode cL_isWorldSo 406 = .ok (.invokestatic 69, 3) := by decide +kernel
theorem dL_isWorldSo_409 : decode cL_isWorldSo 409 = .ok (.iconst 1, 1) := by decide +kernel
theorem dL_isWorldSo_410 : decode cL_isWorldSo 410 = .ok (.if_icmp .eq 37, 3) := by decide +kernel
theorem dL_isWorldSo_413 : decode cL_isWorldSo 413 = .ok (.aload_n 0, 1) := by decide +kernel
theorem dL_isWorldSo_414 : decode cL_isWorldSo 414 = .ok (.invokevirtual 75, 3) := by decide +kernel
theorem dL_isWorldSo_417 : decode cL_isWorldSo 417 = .ok (.iconst (-1), 1) := by decide +kernel
theorem dL_isWorldSo_418 : decode cL_isWorldSo 418 = .ok (.if_icmp .lt 29, 3) := by decide +kernel
theorem dL_isWorldSo_421 : decode cL_isWorldSo 421 = .ok (.aload_n 0, 1) := by decide +kernel
theorem dL_isWorldSo_422 : decode cL_isWorldSo 422 = .ok (.invokevirtual 75, 3) := by decide +kernel
theorem dL_isWorldSo_425 : decode cL_isWorldSo 425 = .ok (.aload_n 0, 1) := by decide +kernel
theorem dL_isWorldSo_426 : decode cL_isWorldSo 426 = .ok (.invokevirtual 20, 3) := by decide +kernel
theorem dL_isWorldSo_429 : decode cL_isWorldSo 429 = .ok (.ifCond .ne 7, 3) := by decide +kernel
theorem dL_isWorldSo_432 : decode cL_isWorldSo 432 = .ok (.iconst 1, 1) := by decide +kernel
theorem dL_isWorldSo_433 : decode cL_isWorldSo 433 = .ok (.goto 7, 3) := by decide +kernel
theorem dL_isWorldSo_436 : decode cL_isWorldSo 436 = .ok (.aload_n 0, 1) := by decide +kernel
theorem dL_isWorldSo_437 : decode cL_isWorldSo 437 = .ok (.invokevirtual 20, 3) := by decide +kernel
theorem dL_isWorldSo_440 : decode cL_isWorldSo 440 = .ok (.if_icmp .ge 7, 3) := by decide +kernel
theorem dL_isWorldSo_443 : decode cL_isWorldSo 443 = .ok (.iconst 1, 1) := by decide +kernel
theorem dL_isWorldSo_444 : decode cL_isWorldSo 444 = .ok (.goto 4, 3) := by decide +kernel
theorem dL_isWorldSo_447 : decode cL_isWorldSo 447 = .ok (.iconst 0, 1) := by decide +kernel
theorem dL_isWorldSo_448 : decode cL_isWorldSo 448 = .ok (.ireturn, 1) := by decide +kernel
set_option maxRecDepth 20000 in
theorem ggL_isEnterSo_X5_digest : GoodIn wsL_isEnterSo wsX5_digest := goodIn_r _ [5, 6, 7, 8, 9, 10, 11, 12, 13, 14, 15, 16, 4, 17, 18, 19, 20, 21, 22, 23, 24, 25, 26, 27, 28, 29, 30, 31, 32, 33, 34, 35, 36, 37, 38, 39, 40, 41, 42, 43, 44, 45, 46, 47, 48, 49, 50, 51, 52, 53, 54, 55, 56, 57, 58, 59, 60, 61, 62, 63, 64, 65, 66, 67, 68, 69, 70, 71, 72, 73, 74, 75, 76, 77, 78, 79, 80, 81, 82, 83, 84, 85, 86, 87, 88, 387, 388, 389, 390, 391, 392, 393, 394, 395, 396, 397, 398, 399, 400, 401, 402, 403, 404, 405, 406, 407, 408] (by decide +kernel) (by decide +kernel)
set_option maxRecDepth 20000 in
theorem gL_isEnterSo_X5_digest : GoodIn wsL_isEnterSo (wsV RL 78 RX5 yX5_digest wsX5_digest) := goodIn_app (goodIn_of _ (by decide +kernel)) ggL_isEnterSo_X5_digest
set_option maxRecDepth 20000 in
theorem ggL_isEnterSo_L_world : GoodIn wsL_isEnterSo wsL_world := goodIn_ca (goodIn_r _ [92, 93, 94, 23, 24, 4, 25, 7, 8, 26, 95, 15, 16, 17, 9, 96, 97, 98, 99, 100, 101, 12, 102, 103, 104, 34, 105, 42, 106, 107, 108, 109, 13, 387, 388, 389, 390, 391, 392, 393, 394, 395, 396, 397, 398, 399, 400, 401, 402, 403, 404, 405, 406, 407, 408] (by decide +kernel) (by decide +kernel)) (goodIn_sub (fun _ h => List.mem_cons_of_mem _ (List.mem_append_left _ (List.mem_append_left _ (List.mem_append_right _ h)))) (by decide +kernel))
set_option maxRecDepth 20000 in
theorem gL_isEnterSo_L_world : GoodIn wsL_isEnterSo (va_wsS RL 82 yL_world wsL_world) := goodIn_app (goodIn_of _ (by decide +kernel)) ggL_isEnterSo_L_world
set_option maxRecDepth 20000 in
theorem ggL_isEnterSo_X5_asked : GoodIn wsL_isEnterSo wsX5_asked := goodIn_r _ [72, 7, 73, 387, 388, 389, 390, 391, 392, 393, 394, 395, 396, 397, 398, 399, 400, 401, 402] (by decide +kernel) (by decide +kernel)
set_option maxRecDepth 20000 in
theorem gL_isEnterSo_X5_asked : GoodIn wsL_isEnterSo (wsV RL 86 RX5 yX5_asked wsX5_asked) := goodIn_app (goodIn_of _ (by decide +kernel)) ggL_isEnterSo_X5_asked
set_option maxRecDepth 20000 in
theorem ggL_isEnterSo_X5_executed : GoodIn wsL_isEnterSo wsX5_executed := goodIn_r _ [62, 7, 63, 387, 388, 389, 390, 391, 392, 393, 394, 395, 396, 397, 398, 399, 400, 401, 402] (by decide +kernel) (by decide +kernel)
set_option maxRecDepth 20000 in
theorem gL_isEnterSo_X5_executed : GoodIn wsL_isEnterSo (wsV RL 89 RX5 yX5_executed wsX5_executed) := goodIn_app (goodIn_of _ (by decide +kernel)) ggL_isEnterSo_X5_executed
set_option maxRecDepth 20000 in
theorem ggL_isEnterSo_X5_failed : GoodIn wsL_isEnterSo wsX5_failed := goodIn_r _ [67, 7, 68, 387, 388, 389, 390, 391, 392, 393, 394, 395, 396, 397, 398, 399, 400, 401, 402] (by decide +kernel) (by decide +kernel)
set_option maxRecDepth 20000 in
theorem gL_isEnterSo_X5_failed : GoodIn wsL_isEnterSo (wsV RL 92 RX5 yX5_failed wsX5_failed) := goodIn_app (goodIn_of _ (by decide +kernel)) ggL_isEnterSo_X5_failed
set_option maxRecDepth 20000 in
theorem ggL_isEnterSo_X5_savedStates : GoodIn wsL_isEnterSo wsX5_savedStates := goodIn_r _ [116, 117, 387, 388, 389, 390, 391, 392, 393] (by decide +kernel) (by decide +kernel)
set_option maxRecDepth 20000 in
theorem gL_isEnterSo_X5_savedStates : GoodIn wsL_isEnterSo (wsV RL 95 RX5 yX5_savedStates wsX5_savedStates) := goodIn_app (goodIn_of _ (by decide +kernel)) ggL_isEnterSo_X5_savedStates
set_option maxRecDepth 20000 in
theorem ggL_isEnterSo_X5_ifEntered : GoodIn wsL_isEnterSo wsX5_ifEntered := goodIn_ca (goodIn_r _ [121, 122, 123, 124, 7, 125, 126, 127, 128, 129, 4, 130, 131, 132, 133, 134, 135, 136, 137, 138, 139, 140, 141, 142, 143, 144, 145, 146, 147, 148, 149, 150, 151, 152, 153, 154, 155, 156, 157, 158, 159, 160, 161, 162, 163, 164, 165, 166, 167, 168, 169, 170, 171, 172, 173, 174, 175, 176, 177, 178, 179, 180, 181, 182, 183, 184, 185, 186, 187, 188, 189, 190, 191, 192, 193, 194, 195, 196, 197, 198, 199, 200, 201, 202, 203, 204, 205, 206, 207, 208, 209, 210, 211, 212, 213, 214, 215, 216, 217, 218, 219, 220, 221, 222, 223, 224, 225, 226, 227, 228, 229, 230, 231, 232, 233, 234, 235, 236, 237, 238, 239, 240, 241, 242, 243, 244, 245, 246, 247, 248, 249, 250, 251, 252, 253, 254, 255, 256, 257, 34, 258, 87, 88, 43, 42, 36, 37, 259, 260, 261, 262, 263, 264, 265, 266, 267, 268, 269, 270, 271, 272, 273, 84, 85, 86, 274, 275, 276, 277, 278, 279, 280, 281, 282, 283, 284, 285, 286, 287, 288, 289, 290, 291, 292, 293, 294, 295, 296, 297, 298, 299, 300, 32, 33, 35, 38, 39, 40, 41, 301, 75, 76, 77, 78, 79, 80, 81, 82, 83, 302, 303, 304, 305, 306, 307, 308, 309, 310, 311, 312, 313, 314, 315, 316, 317, 318, 319, 320, 321, 322, 323, 324, 325, 326, 327, 328, 329, 330, 331, 332, 333, 334, 335, 336, 337, 338, 339, 340, 341, 342, 343, 344, 345, 346, 347, 348, 349, 103, 104, 105, 350, 351, 352, 353, 354, 355, 356, 357, 358, 387, 388, 389, 390, 391, 392, 393, 409, 410, 411, 412, 413, 394, 395, 396, 397, 398, 399, 400, 401, 402, 414, 415, 416, 417, 418, 419, 420, 421, 403, 404, 405, 406, 407, 408] (by decide +kernel) (by decide +kernel)) (goodIn_sub (fun _ h => List.mem_cons_of_mem _ (List.mem_append_left _ (List.mem_append_right _ h))) (by decide +kernel))
set_option maxRecDepth 20000 in
theorem gL_isEnterSo_X5_ifEntered : GoodIn wsL_isEnterSo (wsV RL 98 RX5 yX5_ifEntered wsX5_ifEntered) := goodIn_app (goodIn_of _ (by decide +kernel)) ggL_isEnterSo_X5_ifEntered
set_option maxRecDepth 20000 in
theorem ggL_isEnterSo_X5_enter : GoodIn wsL_isEnterSo wsX5_enter := goodIn_ca (goodIn_r _ [362, 122, 123, 131, 132, 7, 125, 126, 127, 128, 129, 4, 130, 133, 134, 135, 136, 137, 138, 139, 140, 141, 142, 143, 144, 145, 146, 147, 148, 149, 150, 151, 152, 153, 154, 155, 156, 157, 158, 159, 160, 161, 162, 163, 164, 165, 166, 167, 168, 169, 170, 171, 172, 173, 174, 175, 176, 177, 178, 179, 180, 181, 182, 183, 184, 185, 186, 187, 188, 189, 190, 191, 192, 193, 194, 195, 196, 197, 198, 199, 200, 201, 202, 203, 204, 205, 206, 207, 208, 209, 210, 211, 212, 213, 214, 215, 216, 217, 218, 219, 220, 221, 222, 223, 224, 225, 226, 227, 228, 229, 230, 231, 232, 233, 234, 235, 236, 237, 238, 239, 240, 241, 242, 363, 364, 365, 366, 367, 368, 117, 369, 370, 371, 372, 243, 244, 245, 246, 247, 248, 249, 250, 251, 252, 253, 254, 255, 256, 257, 34, 258, 87, 88, 43, 42, 36, 37, 259, 260, 261, 262, 263, 264, 265, 266, 267, 268, 269, 270, 271, 272, 273, 84, 85, 86, 274, 275, 276, 277, 278, 279, 280, 281, 282, 283, 284, 285, 286, 287, 288, 289, 290, 291, 292, 293, 294, 295, 296, 297, 298, 299, 300, 32, 33, 35, 38, 39, 40, 41, 301, 75, 76, 77, 78, 79, 80, 81, 82, 83, 302, 303, 304, 305, 306, 307, 308, 309, 310, 311, 312, 313, 314, 315, 316, 317, 318, 319, 320, 321, 322, 323, 324, 325, 326, 327, 328, 329, 330, 331, 332, 333, 334, 335, 336, 337, 338, 339, 340, 341, 342, 343, 344, 345, 346, 347, 348, 349, 103, 104, 105, 350, 351, 352, 353, 354, 355, 356, 357, 358, 387, 388, 389, 390, 391, 392, 393, 412, 413, 409, 410, 411, 394, 395, 396, 397, 398, 399, 400, 401, 402, 414, 415, 416, 417, 418, 419, 420, 421, 403, 404, 405, 406, 407, 408] (by decide +kernel) (by decide +kernel)) (goodIn_sub (fun _ h => List.mem_cons_of_mem _ (List.mem_append_left _ (List.mem_append_right _ h))) (by decide +kernel))
set_option maxRecDepth 20000 in
theorem gL_isEnterSo_X5_enter : GoodIn wsL_isEnterSo (wsV RL 101 RX5 yX5_enter wsX5_enter) := goodIn_app (goodIn_of _ (by decide +kernel)) ggL_isEnterSo_X5_enter
set_option maxRecDepth 20000 in
theorem ggL_isEnterSo_X5_candidates : GoodIn wsL_isEnterSo wsX5_candidates := goodIn_r _ [47, 7, 48, 387, 388, 389, 390, 391, 392, 393, 394, 395, 396, 397, 398, 399, 400, 401, 402] (by decide +kernel) (by decide +kernel)
set_option maxRecDepth 20000 in
theorem gL_isEnterSo_X5_candidates : GoodIn wsL_isEnterSo (wsV RL 72 RX5 yX5_candidates wsX5_candidates) := goodIn_app (goodIn_of _ (by decide +kernel)) ggL_isEnterSo_X5_candidates
set_option maxRecDepth 20000 in
theorem ggL_isEnterSo_L_size : GoodIn wsL_isEnterSo wsL_size := goodIn_r _ [376] (by decide +kernel) (by decide +kernel)
set_option maxRecDepth 20000 in
theorem gL_isEnterSo_L_size : GoodIn wsL_isEnterSo (va_wsS RL 69 yL_size wsL_size) := goodIn_app (goodIn_of _ (by decide +kernel)) ggL_isEnterSo_L_size
set_option maxRecDepth 20000 in
theorem ggL_isEnterSo_X5_clearBuffer : GoodIn wsL_isEnterSo wsX5_clearBuffer := goodIn_r _ [380, 131, 132, 387, 388, 389, 390, 391, 392, 393, 412, 413] (by decide +kernel) (by decide +kernel)
set_option maxRecDepth 20000 in
theorem gL_isEnterSo_X5_clearBuffer : GoodIn wsL_isEnterSo (wsV RL 104 RX5 yX5_clearBuffer wsX5_clearBuffer) := goodIn_app (goodIn_of _ (by decide +kernel)) ggL_isEnterSo_X5_clearBuffer
set_option maxRecDepth 20000 in
theorem ggL_isEnterSo_X5_undo : GoodIn wsL_isEnterSo wsX5_undo := goodIn_ca (goodIn_r _ [384, 385, 386, 117, 367, 7, 368, 369, 370, 371, 4, 372, 243, 244, 245, 136, 246, 247, 248, 249, 250, 251, 252, 253, 254, 138, 255, 256, 257, 34, 258, 87, 88, 43, 42, 36, 37, 259, 260, 261, 150, 262, 152, 153, 154, 155, 156, 157, 158, 159, 387, 388, 389, 390, 391, 392, 393, 394, 395, 396, 397, 398, 399, 400, 401, 402, 403, 404, 405, 406, 407, 408, 414, 415, 416, 417, 418, 419, 420, 421] (by decide +kernel) (by decide +kernel)) (goodIn_sub (fun _ h => List.mem_cons_of_mem _ (List.mem_append_right _ h)) (by decide +kernel))
set_option maxRecDepth 20000 in
theorem gL_isEnterSo_X5_undo : GoodIn wsL_isEnterSo (wsV RL 107 RX5 yX5_undo wsX5_undo) := goodIn_app (goodIn_of _ (by decide +kernel)) ggL_isEnterSo_X5_undo
theorem dL_isEnterSo_0 : decode cL_isEnterSo 0 = .ok (.aload_n 0, 1) := by decide +kernel
theorem dL_isEnterSo_1 : decode cL_isEnterSo 1 = .ok (.invokevirtual 78, 3) := by decide +kernel
theorem dL_isEnterSo_4 : decode cL_isEnterSo 4 = .ok (.lstore_n 2, 1) := by decide +kernel
theorem dL_isEnterSo_5 : decode cL_isEnterSo 5 = .ok (.aload_n 0, 1) := by decide +kernel
theorem dL_isEnterSo_6 : decode cL_isEnterSo 6 = .ok (.invokestatic 82, 3) := by decide +kernel
theorem dL_isEnterSo_9 : decode cL_isEnterSo 9 = .ok (.lstore 4, 2) := by decide +kernel
theorem dL_isEnterSo_11 : decode cL_isEnterSo 11 = .ok (.aload_n 0, 1) := by decide +kernel
theorem dL_isEnterSo_12 : decode cL_isEnterSo 12 = .ok (.invokevirtual 86, 3) := by decide +kernel
theorem dL_isEnterSo_15 : decode cL_isEnterSo 15 = .ok (.istore 6, 2) := by decide +kernel
theorem dL_isEnterSo_17 : decode cL_isEnterSo 17 = .ok (.aload_n 0, 1) := by decide +kernel
theorem dL_isEnterSo_18 : decode cL_isEnterSo 18 = .ok (.invokevirtual 89, 3) := by decide +kernel
theorem dL_isEnterSo_21 : decode cL_isEnterSo 21 = .ok (.istore 7, 2) := by decide +kernel
theorem dL_isEnterSo_23 : decode cL_isEnterSo 23 = .ok (.aload_n 0, 1) := by decide +kernel
theorem dL_isEnterSo_24 : decode cL_isEnterSo 24 = .ok (.invokevirtual 92, 3) := by decide +kernel
theorem dL_isEnterSo_27 : decode cL_isEnterSo 27 = .ok (.istore 8, 2) := by decide +kernel
theorem dL_isEnterSo_29 : decode cL_isEnterSo 29 = .ok (.aload_n 0, 1) := by decide +kernel
