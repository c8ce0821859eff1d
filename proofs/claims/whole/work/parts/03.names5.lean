theorem dX6_init_129 : decode cX6_init 129 = .ok (.dup, 1) := by decide +kernel
theorem dX6_init_130 : decode cX6_init 130 = .ok (.bipush 21, 2) := by decide +kernel
theorem dX6_init_132 : decode cX6_init 132 = .ok (.bipush 114, 2) := by decide +kernel
theorem dX6_init_134 : decode cX6_init 134 = .ok (.iastore, 1) := by decide +kernel
theorem dX6_init_135 : decode cX6_init 135 = .ok (.dup, 1) := by decide +kernel
theorem dX6_init_136 : decode cX6_init 136 = .ok (.bipush 22, 2) := by decide +kernel
theorem dX6_init_138 : decode cX6_init 138 = .ok (.bipush 101, 2) := by decide +kernel
theorem dX6_init_140 : decode cX6_init 140 = .ok (.iastore, 1) := by decide +kernel
theorem dX6_init_141 : decode cX6_init 141 = .ok (.dup, 1) := by decide +kernel
theorem dX6_init_142 : decode cX6_init 142 = .ok (.bipush 23, 2) := by decide +kernel
theorem dX6_init_144 : decode cX6_init 144 = .ok (.bipush 100, 2) := by decide +kernel
theorem dX6_init_146 : decode cX6_init 146 = .ok (.iastore, 1) := by decide +kernel
theorem dX6_init_147 : decode cX6_init 147 = .ok (.dup, 1) := by decide +kernel
theorem dX6_init_148 : decode cX6_init 148 = .ok (.bipush 24, 2) := by decide +kernel
theorem dX6_init_150 : decode cX6_init 150 = .ok (.bipush 98, 2) := by decide +kernel
theorem dX6_init_152 : decode cX6_init 152 = .ok (.iastore, 1) := by decide +kernel
theorem dX6_init_153 : decode cX6_init 153 = .ok (.dup, 1) := by decide +kernel
theorem dX6_init_154 : decode cX6_init 154 = .ok (.bipush 25, 2) := by decide +kernel
theorem dX6_init_156 : decode cX6_init 156 = .ok (.bipush 108, 2) := by decide +kernel
theorem dX6_init_158 : decode cX6_init 158 = .ok (.iastore, 1) := by decide +kernel
theorem dX6_init_159 : decode cX6_init 159 = .ok (.dup, 1) := by decide +kernel
theorem dX6_init_160 : decode cX6_init 160 = .ok (.bipush 26, 2) := by decide +kernel
theorem dX6_init_162 : decode cX6_init 162 = .ok (.bipush 117, 2) := by decide +kernel
theorem dX6_init_164 : decode cX6_init 164 = .ok (.iastore, 1) := by decide +kernel
theorem dX6_init_165 : decode cX6_init 165 = .ok (.dup, 1) := by decide +kernel
theorem dX6_init_166 : decode cX6_init 166 = .ok (.bipush 27, 2) := by decide +kernel
theorem dX6_init_168 : decode cX6_init 168 = .ok (.bipush 101, 2) := by decide +kernel
theorem dX6_init_170 : decode cX6_init 170 = .ok (.iastore, 1) := by decide +kernel
theorem dX6_init_171 : decode cX6_init 171 = .ok (.dup, 1) := by decide +kernel
theorem dX6_init_172 : decode cX6_init 172 = .ok (.bipush 28, 2) := by decide +kernel
theorem dX6_init_174 : decode cX6_init 174 = .ok (.bipush 111, 2) := by decide +kernel
theorem dX6_init_176 : decode cX6_init 176 = .ok (.iastore, 1) := by decide +kernel
theorem dX6_init_177 : decode cX6_init 177 = .ok (.dup, 1) := by decide +kernel
theorem dX6_init_178 : decode cX6_init 178 = .ok (.bipush 29, 2) := by decide +kernel
theorem dX6_init_180 : decode cX6_init 180 = .ok (.bipush 108, 2) := by decide +kernel
theorem dX6_init_182 : decode cX6_init 182 = .ok (.iastore, 1) := by decide +kernel
theorem dX6_init_183 : decode cX6_init 183 = .ok (.dup, 1) := by decide +kernel
theorem dX6_init_184 : decode cX6_init 184 = .ok (.bipush 30, 2) := by decide +kernel
theorem dX6_init_186 : decode cX6_init 186 = .ok (.bipush 100, 2) := by decide +kernel
theorem dX6_init_188 : decode cX6_init 188 = .ok (.iastore, 1) := by decide +kernel
theorem dX6_init_189 : decode cX6_init 189 = .ok (.dup, 1) := by decide +kernel
theorem dX6_init_190 : decode cX6_init 190 = .ok (.bipush 31, 2) := by decide +kernel
theorem dX6_init_192 : decode cX6_init 192 = .ok (.bipush 98, 2) := by decide +kernel
theorem dX6_init_194 : decode cX6_init 194 = .ok (.iastore, 1) := by decide +kernel
theorem dX6_init_195 : decode cX6_init 195 = .ok (.dup, 1) := by decide +kernel
theorem dX6_init_196 : decode cX6_init 196 = .ok (.bipush 32, 2) := by decide +kernel
theorem dX6_init_198 : decode cX6_init 198 = .ok (.bipush 105, 2) := by decide +kernel
theorem dX6_init_200 : decode cX6_init 200 = .ok (.iastore, 1) := by decide +kernel
theorem dX6_init_201 : decode cX6_init 201 = .ok (.dup, 1) := by decide +kernel
theorem dX6_init_202 : decode cX6_init 202 = .ok (.bipush 33, 2) := by decide +kernel
theorem dX6_init_204 : decode cX6_init 204 = .ok (.bipush 103, 2) := by decide +kernel
theorem dX6_init_206 : decode cX6_init 206 = .ok (.iastore, 1) := by decide +kernel
theorem dX6_init_207 : decode cX6_init 207 = .ok (.dup, 1) := by decide +kernel
theorem dX6_init_208 : decode cX6_init 208 = .ok (.bipush 34, 2) := by decide +kernel
theorem dX6_init_210 : decode cX6_init 210 = .ok (.bipush 116, 2) := by decide +kernel
theorem dX6_init_212 : decode cX6_init 212 = .ok (.iastore, 1) := by decide +kernel
theorem dX6_init_213 : decode cX6_init 213 = .ok (.dup, 1) := by decide +kernel
theorem dX6_init_214 : decode cX6_init 214 = .ok (.bipush 35, 2) := by decide +kernel
theorem dX6_init_216 : decode cX6_init 216 = .ok (.bipush 97, 2) := by decide +kernel
theorem dX6_init_218 : decode cX6_init 218 = .ok (.iastore, 1) := by decide +kernel
theorem dX6_init_219 : decode cX6_init 219 = .ok (.dup, 1) := by decide +kernel
theorem dX6_init_220 : decode cX6_init 220 = .ok (.bipush 36, 2) := by decide +kernel
theorem dX6_init_222 : decode cX6_init 222 = .ok (.bipush 107, 2) := by decide +kernel
theorem dX6_init_224 : decode cX6_init 224 = .ok (.iastore, 1) := by decide +kernel
theorem dX6_init_225 : decode cX6_init 225 = .ok (.dup, 1) := by decide +kernel
theorem dX6_init_226 : decode cX6_init 226 = .ok (.bipush 37, 2) := by decide +kernel
theorem dX6_init_228 : decode cX6_init 228 = .ok (.bipush 101, 2) := by decide +kernel
theorem dX6_init_230 : decode cX6_init 230 = .ok (.iastore, 1) := by decide +kernel
theorem dX6_init_231 : decode cX6_init 231 = .ok (.dup, 1) := by decide +kernel
theorem dX6_init_232 : decode cX6_init 232 = .ok (.bipush 38, 2) := by decide +kernel
theorem dX6_init_234 : decode cX6_init 234 = .ok (.bipush 100, 2) := by decide +kernel
theorem dX6_init_236 : decode cX6_init 236 = .ok (.iastore, 1) := by decide +kernel
theorem dX6_init_237 : decode cX6_init 237 = .ok (.dup, 1) := by decide +kernel
theorem dX6_init_238 : decode cX6_init 238 = .ok (.bipush 39, 2) := by decide +kernel
theorem dX6_init_240 : decode cX6_init 240 = .ok (.bipush 114, 2) := by decide +kernel
theorem dX6_init_242 : decode cX6_init 242 = .ok (.iastore, 1) := by decide +kernel
theorem dX6_init_243 : decode cX6_init 243 = .ok (.dup, 1) := by decide +kernel
theorem dX6_init_244 : decode cX6_init 244 = .ok (.bipush 40, 2) := by decide +kernel
theorem dX6_init_246 : decode cX6_init 246 = .ok (.bipush 111, 2) := by decide +kernel
theorem dX6_init_248 : decode cX6_init 248 = .ok (.iastore, 1) := by decide +kernel
theorem dX6_init_249 : decode cX6_init 249 = .ok (.dup, 1) := by decide +kernel
theorem dX6_init_250 : decode cX6_init 250 = .ok (.bipush 41, 2) := by decide +kernel
theorem dX6_init_252 : decode cX6_init 252 = .ok (.bipush 112, 2) := by decide +kernel
theorem dX6_init_254 : decode cX6_init 254 = .ok (.iastore, 1) := by decide +kernel
theorem dX6_init_255 : decode cX6_init 255 = .ok (.dup, 1) := by decide +kernel
theorem dX6_init_256 : decode cX6_init 256 = .ok (.bipush 42, 2) := by decide +kernel
theorem dX6_init_258 : decode cX6_init 258 = .ok (.bipush 112, 2) := by decide +kernel
theorem dX6_init_260 : decode cX6_init 260 = .ok (.iastore, 1) := by decide +kernel
theorem dX6_init_261 : decode cX6_init 261 = .ok (.dup, 1) := by decide +kernel
theorem dX6_init_262 : decode cX6_init 262 = .ok (.bipush 43, 2) := by decide +kernel
theorem dX6_init_264 : decode cX6_init 264 = .ok (.bipush 117, 2) := by decide +kernel
theorem dX6_init_266 : decode cX6_init 266 = .ok (.iastore, 1) := by decide +kernel
theorem dX6_init_267 : decode cX6_init 267 = .ok (.dup, 1) := by decide +kernel
theorem dX6_init_268 : decode cX6_init 268 = .ok (.bipush 44, 2) := by decide +kernel
theorem dX6_init_270 : decode cX6_init 270 = .ok (.bipush 116, 2) := by decide +kernel
theorem dX6_init_272 : decode cX6_init 272 = .ok (.iastore, 1) := by decide +kernel
theorem dX6_init_273 : decode cX6_init 273 = .ok (.dup, 1) := by decide +kernel
theorem dX6_init_274 : decode cX6_init 274 = .ok (.bipush 45, 2) := by decide +kernel
theorem dX6_init_276 : decode cX6_init 276 = .ok (.bipush 111, 2) := by decide +kernel
theorem dX6_init_278 : decode cX6_init 278 = .ok (.iastore, 1) := by decide +kernel
theorem dX6_init_279 : decode cX6_init 279 = .ok (.dup, 1) := by decide +kernel
theorem dX6_init_280 : decode cX6_init 280 = .ok (.bipush 46, 2) := by decide +kernel
theorem dX6_init_282 : decode cX6_init 282 = .ok (.bipush 112, 2) := by decide +kernel
theorem dX6_init_284 : decode cX6_init 284 = .ok (.iastore, 1) := by decide +kernel
theorem dX6_init_285 : decode cX6_init 285 = .ok (.dup, 1) := by decide +kernel
theorem dX6_init_286 : decode cX6_init 286 = .ok (.bipush 47, 2) := by decide +kernel
theorem dX6_init_288 : decode cX6_init 288 = .ok (.bipush 101, 2) := by decide +kernel
theorem dX6_init_290 : decode cX6_init 290 = .ok (.iastore, 1) := by decide +kernel
theorem dX6_init_291 : decode cX6_init 291 = .ok (.dup, 1) := by decide +kernel
theorem dX6_init_292 : decode cX6_init 292 = .ok (.bipush 48, 2) := by decide +kernel
theorem dX6_init_294 : decode cX6_init 294 = .ok (.bipush 110, 2) := by decide +kernel
theorem dX6_init_296 : decode cX6_init 296 = .ok (.iastore, 1) := by decide +kernel
theorem dX6_init_297 : decode cX6_init 297 = .ok (.dup, 1) := by decide +kernel
theorem dX6_init_298 : decode cX6_init 298 = .ok (.bipush 49, 2) := by decide +kernel
theorem dX6_init_300 : decode cX6_init 300 = .ok (.bipush 99, 2) := by decide +kernel
theorem dX6_init_302 : decode cX6_init 302 = .ok (.iastore, 1) := by decide +kernel
theorem dX6_init_303 : decode cX6_init 303 = .ok (.dup, 1) := by decide +kernel
theorem dX6_init_304 : decode cX6_init 304 = .ok (.bipush 50, 2) := by decide +kernel
theorem dX6_init_306 : decode cX6_init 306 = .ok (.bipush 108, 2) := by decide +kernel
theorem dX6_init_308 : decode cX6_init 308 = .ok (.iastore, 1) := by decide +kernel
theorem dX6_init_309 : decode cX6_init 309 = .ok (.dup, 1) := by decide +kernel
theorem dX6_init_310 : decode cX6_init 310 = .ok (.bipush 51, 2) := by decide +kernel
theorem dX6_init_312 : decode cX6_init 312 = .ok (.bipush 111, 2) := by decide +kernel
theorem dX6_init_314 : decode cX6_init 314 = .ok (.iastore, 1) := by decide +kernel
theorem dX6_init_315 : decode cX6_init 315 = .ok (.dup, 1) := by decide +kernel
theorem dX6_init_316 : decode cX6_init 316 = .ok (.bipush 52, 2) := by decide +kernel
theorem dX6_init_318 : decode cX6_init 318 = .ok (.bipush 115, 2) := by decide +kernel
theorem dX6_init_320 : decode cX6_init 320 = .ok (.iastore, 1) := by decide +kernel
theorem dX6_init_321 : decode cX6_init 321 = .ok (.dup, 1) := by decide +kernel
theorem dX6_init_322 : decode cX6_init 322 = .ok (.bipush 53, 2) := by decide +kernel
theorem dX6_init_324 : decode cX6_init 324 = .ok (.bipush 101, 2) := by decide +kernel
theorem dX6_init_326 : decode cX6_init 326 = .ok (.iastore, 1) := by decide +kernel
theorem dX6_init_327 : decode cX6_init 327 = .ok (.dup, 1) := by decide +kernel
theorem dX6_init_328 : decode cX6_init 328 = .ok (.bipush 54, 2) := by decide +kernel
theorem dX6_init_330 : decode cX6_init 330 = .ok (.bipush 101, 2) := by decide +kernel
theorem dX6_init_332 : decode cX6_init 332 = .ok (.iastore, 1) := by decide +kernel
theorem dX6_init_333 : decode cX6_init 333 = .ok (.dup, 1) := by decide +kernel
theorem dX6_init_334 : decode cX6_init 334 = .ok (.bipush 55, 2) := by decide +kernel
theorem dX6_init_336 : decode cX6_init 336 = .ok (.bipush 97, 2) := by decide +kernel
theorem dX6_init_338 : decode cX6_init 338 = .ok (.iastore, 1) := by decide +kernel
theorem dX6_init_339 : decode cX6_init 339 = .ok (.dup, 1) := by decide +kernel
theorem dX6_init_340 : decode cX6_init 340 = .ok (.bipush 56, 2) := by decide +kernel
theorem dX6_init_342 : decode cX6_init 342 = .ok (.bipush 115, 2) := by decide +kernel
theorem dX6_init_344 : decode cX6_init 344 = .ok (.iastore, 1) := by decide +kernel
theorem dX6_init_345 : decode cX6_init 345 = .ok (.dup, 1) := by decide +kernel
theorem dX6_init_346 : decode cX6_init 346 = .ok (.bipush 57, 2) := by decide +kernel
theorem dX6_init_348 : decode cX6_init 348 = .ok (.bipush 116, 2) := by decide +kernel
theorem dX6_init_350 : decode cX6_init 350 = .ok (.iastore, 1) := by decide +kernel
theorem dX6_init_351 : decode cX6_init 351 = .ok (.dup, 1) := by decide +kernel
theorem dX6_init_352 : decode cX6_init 352 = .ok (.bipush 58, 2) := by decide +kernel
theorem dX6_init_354 : decode cX6_init 354 = .ok (.bipush 119, 2) := by decide +kernel
theorem dX6_init_356 : decode cX6_init 356 = .ok (.iastore, 1) := by decide +kernel
theorem dX6_init_357 : decode cX6_init 357 = .ok (.dup, 1) := by decide +kernel
theorem dX6_init_358 : decode cX6_init 358 = .ok (.bipush 59, 2) := by decide +kernel
theorem dX6_init_360 : decode cX6_init 360 = .ok (.bipush 101, 2) := by decide +kernel
theorem dX6_init_362 : decode cX6_init 362 = .ok (.iastore, 1) := by decide +kernel
theorem dX6_init_363 : decode cX6_init 363 = .ok (.dup, 1) := by decide +kernel
theorem dX6_init_364 : decode cX6_init 364 = .ok (.bipush 60, 2) := by decide +kernel
theorem dX6_init_366 : decode cX6_init 366 = .ok (.bipush 115, 2) := by decide +kernel
theorem dX6_init_368 : decode cX6_init 368 = .ok (.iastore, 1) := by decide +kernel
theorem dX6_init_369 : decode cX6_init 369 = .ok (.dup, 1) := by decide +kernel
theorem dX6_init_370 : decode cX6_init 370 = .ok (.bipush 61, 2) := by decide +kernel
theorem dX6_init_372 : decode cX6_init 372 = .ok (.bipush 116, 2) := by decide +kernel
theorem dX6_init_374 : decode cX6_init 374 = .ok (.iastore, 1) := by decide +kernel
theorem dX6_init_375 : decode cX6_init 375 = .ok (.dup, 1) := by decide +kernel
theorem dX6_init_376 : decode cX6_init 376 = .ok (.bipush 62, 2) := by decide +kernel
theorem dX6_init_378 : decode cX6_init 378 = .ok (.bipush 97, 2) := by decide +kernel
theorem dX6_init_380 : decode cX6_init 380 = .ok (.iastore, 1) := by decide +kernel
theorem dX6_init_381 : decode cX6_init 381 = .ok (.dup, 1) := by decide +kernel
theorem dX6_init_382 : decode cX6_init 382 = .ok (.bipush 63, 2) := by decide +kernel
theorem dX6_init_384 : decode cX6_init 384 = .ok (.bipush 108, 2) := by decide +kernel
theorem dX6_init_386 : decode cX6_init 386 = .ok (.iastore, 1) := by decide +kernel
theorem dX6_init_387 : decode cX6_init 387 = .ok (.dup, 1) := by decide +kernel
theorem dX6_init_388 : decode cX6_init 388 = .ok (.bipush 64, 2) := by decide +kernel
theorem dX6_init_390 : decode cX6_init 390 = .ok (.bipush 108, 2) := by decide +kernel
theorem dX6_init_392 : decode cX6_init 392 = .ok (.iastore, 1) := by decide +kernel
theorem dX6_init_393 : decode cX6_init 393 = .ok (.dup, 1) := by decide +kernel
theorem dX6_init_394 : decode cX6_init 394 = .ok (.bipush 65, 2) := by decide +kernel
theorem dX6_init_396 : decode cX6_init 396 = .ok (.bipush 98, 2) := by decide +kernel
theorem dX6_init_398 : decode cX6_init 398 = .ok (.iastore, 1) := by decide +kernel
theorem dX6_init_399 : decode cX6_init 399 = .ok (.dup, 1) := by decide +kernel
theorem dX6_init_400 : decode cX6_init 400 = .ok (.bipush 66, 2) := by decide +kernel
theorem dX6_init_402 : decode cX6_init 402 = .ok (.bipush 117, 2) := by decide +kernel
theorem dX6_init_404 : decode cX6_init 404 = .ok (.iastore, 1) := by decide +kernel
theorem dX6_init_405 : decode cX6_init 405 = .ok (.dup, 1) := by decide +kernel
theorem dX6_init_406 : decode cX6_init 406 = .ok (.bipush 67, 2) := by decide +kernel
theorem dX6_init_408 : decode cX6_init 408 = .ok (.bipush 116, 2) := by decide +kernel
theorem dX6_init_410 : decode cX6_init 410 = .ok (.iastore, 1) := by decide +kernel
theorem dX6_init_411 : decode cX6_init 411 = .ok (.dup, 1) := by decide +kernel
theorem dX6_init_412 : decode cX6_init 412 = .ok (.bipush 68, 2) := by decide +kernel
theorem dX6_init_414 : decode cX6_init 414 = .ok (.bipush 97, 2) := by decide +kernel
theorem dX6_init_416 : decode cX6_init 416 = .ok (.iastore, 1) := by decide +kernel
theorem dX6_init_417 : decode cX6_init 417 = .ok (.dup, 1) := by decide +kernel
theorem dX6_init_418 : decode cX6_init 418 = .ok (.bipush 69, 2) := by decide +kernel
theorem dX6_init_420 : decode cX6_init 420 = .ok (.bipush 110, 2) := by decide +kernel
theorem dX6_init_422 : decode cX6_init 422 = .ok (.iastore, 1) := by decide +kernel
theorem dX6_init_423 : decode cX6_init 423 = .ok (.dup, 1) := by decide +kernel
theorem dX6_init_424 : decode cX6_init 424 = .ok (.bipush 70, 2) := by decide +kernel
theorem dX6_init_426 : decode cX6_init 426 = .ok (.bipush 100, 2) := by decide +kernel
theorem dX6_init_428 : decode cX6_init 428 = .ok (.iastore, 1) := by decide +kernel
theorem dX6_init_429 : decode cX6_init 429 = .ok (.dup, 1) := by decide +kernel
theorem dX6_init_430 : decode cX6_init 430 = .ok (.bipush 71, 2) := by decide +kernel
theorem dX6_init_432 : decode cX6_init 432 = .ok (.bipush 105, 2) := by decide +kernel
theorem dX6_init_434 : decode cX6_init 434 = .ok (.iastore, 1) := by decide +kernel
theorem dX6_init_435 : decode cX6_init 435 = .ok (.dup, 1) := by decide +kernel
theorem dX6_init_436 : decode cX6_init 436 = .ok (.bipush 72, 2) := by decide +kernel
theorem dX6_init_438 : decode cX6_init 438 = .ok (.bipush 110, 2) := by decide +kernel
theorem dX6_init_440 : decode cX6_init 440 = .ok (.iastore, 1) := by decide +kernel
theorem dX6_init_441 : decode cX6_init 441 = .ok (.dup, 1) := by decide +kernel
theorem dX6_init_442 : decode cX6_init 442 = .ok (.bipush 73, 2) := by decide +kernel
theorem dX6_init_444 : decode cX6_init 444 = .ok (.bipush 116, 2) := by decide +kernel
theorem dX6_init_446 : decode cX6_init 446 = .ok (.iastore, 1) := by decide +kernel
theorem dX6_init_447 : decode cX6_init 447 = .ok (.dup, 1) := by decide +kernel
theorem dX6_init_448 : decode cX6_init 448 = .ok (.bipush 74, 2) := by decide +kernel
theorem dX6_init_450 : decode cX6_init 450 = .ok (.bipush 104, 2) := by decide +kernel
theorem dX6_init_452 : decode cX6_init 452 = .ok (.iastore, 1) := by decide +kernel
theorem dX6_init_453 : decode cX6_init 453 = .ok (.dup, 1) := by decide +kernel
theorem dX6_init_454 : decode cX6_init 454 = .ok (.bipush 75, 2) := by decide +kernel
theorem dX6_init_456 : decode cX6_init 456 = .ok (.bipush 101, 2) := by decide +kernel
theorem dX6_init_458 : decode cX6_init 458 = .ok (.iastore, 1) := by decide +kernel
theorem dX6_init_459 : decode cX6_init 459 = .ok (.dup, 1) := by decide +kernel
theorem dX6_init_460 : decode cX6_init 460 = .ok (.bipush 76, 2) := by decide +kernel
theorem dX6_init_462 : decode cX6_init 462 = .ok (.bipush 105, 2) := by decide +kernel
theorem dX6_init_464 : decode cX6_init 464 = .ok (.iastore, 1) := by decide +kernel
theorem dX6_init_465 : decode cX6_init 465 = .ok (.dup, 1) := by decide +kernel
theorem dX6_init_466 : decode cX6_init 466 = .ok (.bipush 77, 2) := by decide +kernel
theorem dX6_init_468 : decode cX6_init 468 = .ok (.bipush 116, 2) := by decide +kernel
theorem dX6_init_470 : decode cX6_init 470 = .ok (.iastore, 1) := by decide +kernel
theorem dX6_init_471 : decode cX6_init 471 = .ok (.dup, 1) := by decide +kernel
theorem dX6_init_472 : decode cX6_init 472 = .ok (.bipush 78, 2) := by decide +kernel
theorem dX6_init_474 : decode cX6_init 474 = .ok (.bipush 116, 2) := by decide +kernel
theorem dX6_init_476 : decode cX6_init 476 = .ok (.iastore, 1) := by decide +kernel
theorem dX6_init_477 : decode cX6_init 477 = .ok (.dup, 1) := by decide +kernel
theorem dX6_init_478 : decode cX6_init 478 = .ok (.bipush 79, 2) := by decide +kernel
theorem dX6_init_480 : decode cX6_init 480 = .ok (.bipush 104, 2) := by decide +kernel
theorem dX6_init_482 : decode cX6_init 482 = .ok (.iastore, 1) := by decide +kernel
theorem dX6_init_483 : decode cX6_init 483 = .ok (.dup, 1) := by decide +kernel
theorem dX6_init_484 : decode cX6_init 484 = .ok (.bipush 80, 2) := by decide +kernel
theorem dX6_init_486 : decode cX6_init 486 = .ok (.bipush 101, 2) := by decide +kernel
theorem dX6_init_488 : decode cX6_init 488 = .ok (.iastore, 1) := by decide +kernel
theorem dX6_init_489 : decode cX6_init 489 = .ok (.dup, 1) := by decide +kernel
theorem dX6_init_490 : decode cX6_init 490 = .ok (.bipush 81, 2) := by decide +kernel
theorem dX6_init_492 : decode cX6_init 492 = .ok (.bipush 109, 2) := by decide +kernel
theorem dX6_init_494 : decode cX6_init 494 = .ok (.iastore, 1) := by decide +kernel
theorem dX6_init_495 : decode cX6_init 495 = .ok (.dup, 1) := by decide +kernel
theorem dX6_init_496 : decode cX6_init 496 = .ok (.bipush 82, 2) := by decide +kernel
theorem dX6_init_498 : decode cX6_init 498 = .ok (.bipush 111, 2) := by decide +kernel
theorem dX6_init_500 : decode cX6_init 500 = .ok (.iastore, 1) := by decide +kernel
theorem dX6_init_501 : decode cX6_init 501 = .ok (.dup, 1) := by decide +kernel
theorem dX6_init_502 : decode cX6_init 502 = .ok (.bipush 83, 2) := by decide +kernel
theorem dX6_init_504 : decode cX6_init 504 = .ok (.bipush 110, 2) := by decide +kernel
theorem dX6_init_506 : decode cX6_init 506 = .ok (.iastore, 1) := by decide +kernel
theorem dX6_init_507 : decode cX6_init 507 = .ok (.dup, 1) := by decide +kernel
theorem dX6_init_508 : decode cX6_init 508 = .ok (.bipush 84, 2) := by decide +kernel
theorem dX6_init_510 : decode cX6_init 510 = .ok (.bipush 101, 2) := by decide +kernel
theorem dX6_init_512 : decode cX6_init 512 = .ok (.iastore, 1) := by decide +kernel
theorem dX6_init_513 : decode cX6_init 513 = .ok (.putfield 7, 3) := by decide +kernel
theorem dX6_init_516 : decode cX6_init 516 = .ok (.aload_n 0, 1) := by decide +kernel
theorem dX6_init_517 : decode cX6_init 517 = .ok (.bipush 26, 2) := by decide +kernel
theorem dX6_init_519 : decode cX6_init 519 = .ok (.newarray .int, 2) := by decide +kernel
theorem dX6_init_521 : decode cX6_init 521 = .ok (.dup, 1) := by decide +kernel
theorem dX6_init_522 : decode cX6_init 522 = .ok (.iconst 0, 1) := by decide +kernel
theorem dX6_init_523 : decode cX6_init 523 = .ok (.iconst 0, 1) := by decide +kernel
theorem dX6_init_524 : decode cX6_init 524 = .ok (.iastore, 1) := by decide +kernel
theorem dX6_init_525 : decode cX6_init 525 = .ok (.dup, 1) := by decide +kernel
theorem dX6_init_526 : decode cX6_init 526 = .ok (.iconst 1, 1) := by decide +kernel
theorem dX6_init_527 : decode cX6_init 527 = .ok (.iconst 4, 1) := by decide +kernel
theorem dX6_init_528 : decode cX6_init 528 = .ok (.iastore, 1) := by decide +kernel
theorem dX6_init_529 : decode cX6_init 529 = .ok (.dup, 1) := by decide +kernel
theorem dX6_init_530 : decode cX6_init 530 = .ok (.iconst 2, 1) := by decide +kernel
theorem dX6_init_531 : decode cX6_init 531 = .ok (.bipush 7, 2) := by decide +kernel
theorem dX6_init_533 : decode cX6_init 533 = .ok (.iastore, 1) := by decide +kernel
theorem dX6_init_534 : decode cX6_init 534 = .ok (.dup, 1) := by decide +kernel
theorem dX6_init_535 : decode cX6_init 535 = .ok (.iconst 3, 1) := by decide +kernel
theorem dX6_init_536 : decode cX6_init 536 = .ok (.bipush 10, 2) := by decide +kernel
theorem dX6_init_538 : decode cX6_init 538 = .ok (.iastore, 1) := by decide +kernel
theorem dX6_init_539 : decode cX6_init 539 = .ok (.dup, 1) := by decide +kernel
theorem dX6_init_540 : decode cX6_init 540 = .ok (.iconst 4, 1) := by decide +kernel
theorem dX6_init_541 : decode cX6_init 541 = .ok (.bipush 14, 2) := by decide +kernel
theorem dX6_init_543 : decode cX6_init 543 = .ok (.iastore, 1) := by decide +kernel
theorem dX6_init_544 : decode cX6_init 544 = .ok (.dup, 1) := by decide +kernel
theorem dX6_init_545 : decode cX6_init 545 = .ok (.iconst 5, 1) := by decide +kernel
theorem dX6_init_546 : decode cX6_init 546 = .ok (.bipush 18, 2) := by decide +kernel
theorem dX6_init_548 : decode cX6_init 548 = .ok (.iastore, 1) := by decide +kernel
theorem dX6_init_549 : decode cX6_init 549 = .ok (.dup, 1) := by decide +kernel
theorem dX6_init_550 : decode cX6_init 550 = .ok (.bipush 6, 2) := by decide +kernel
theorem dX6_init_552 : decode cX6_init 552 = .ok (.bipush 21, 2) := by decide +kernel
theorem dX6_init_554 : decode cX6_init 554 = .ok (.iastore, 1) := by decide +kernel
theorem dX6_init_555 : decode cX6_init 555 = .ok (.dup, 1) := by decide +kernel
theorem dX6_init_556 : decode cX6_init 556 = .ok (.bipush 7, 2) := by decide +kernel
theorem dX6_init_558 : decode cX6_init 558 = .ok (.bipush 24, 2) := by decide +kernel
theorem dX6_init_560 : decode cX6_init 560 = .ok (.iastore, 1) := by decide +kernel
theorem dX6_init_561 : decode cX6_init 561 = .ok (.dup, 1) := by decide +kernel
theorem dX6_init_562 : decode cX6_init 562 = .ok (.bipush 8, 2) := by decide +kernel
theorem dX6_init_564 : decode cX6_init 564 = .ok (.bipush 28, 2) := by decide +kernel
theorem dX6_init_566 : decode cX6_init 566 = .ok (.iastore, 1) := by decide +kernel
theorem dX6_init_567 : decode cX6_init 567 = .ok (.dup, 1) := by decide +kernel
theorem dX6_init_568 : decode cX6_init 568 = .ok (.bipush 9, 2) := by decide +kernel
theorem dX6_init_570 : decode cX6_init 570 = .ok (.bipush 31, 2) := by decide +kernel
theorem dX6_init_572 : decode cX6_init 572 = .ok (.iastore, 1) := by decide +kernel
theorem dX6_init_573 : decode cX6_init 573 = .ok (.dup, 1) := by decide +kernel
theorem dX6_init_574 : decode cX6_init 574 = .ok (.bipush 10, 2) := by decide +kernel
theorem dX6_init_576 : decode cX6_init 576 = .ok (.bipush 34, 2) := by decide +kernel
theorem dX6_init_578 : decode cX6_init 578 = .ok (.iastore, 1) := by decide +kernel
theorem dX6_init_579 : decode cX6_init 579 = .ok (.dup, 1) := by decide +kernel
theorem dX6_init_580 : decode cX6_init 580 = .ok (.bipush 11, 2) := by decide +kernel
theorem dX6_init_582 : decode cX6_init 582 = .ok (.bipush 38, 2) := by decide +kernel
theorem dX6_init_584 : decode cX6_init 584 = .ok (.iastore, 1) := by decide +kernel
theorem dX6_init_585 : decode cX6_init 585 = .ok (.dup, 1) := by decide +kernel
theorem dX6_init_586 : decode cX6_init 586 = .ok (.bipush 12, 2) := by decide +kernel
theorem dX6_init_588 : decode cX6_init 588 = .ok (.bipush 42, 2) := by decide +kernel
theorem dX6_init_590 : decode cX6_init 590 = .ok (.iastore, 1) := by decide +kernel
theorem dX6_init_591 : decode cX6_init 591 = .ok (.dup, 1) := by decide +kernel
theorem dX6_init_592 : decode cX6_init 592 = .ok (.bipush 13, 2) := by decide +kernel
theorem dX6_init_594 : decode cX6_init 594 = .ok (.bipush 45, 2) := by decide +kernel
theorem dX6_init_596 : decode cX6_init 596 = .ok (.iastore, 1) := by decide +kernel
theorem dX6_init_597 : decode cX6_init 597 = .ok (.dup, 1) := by decide +kernel
theorem dX6_init_598 : decode cX6_init 598 = .ok (.bipush 14, 2) := by decide +kernel
theorem dX6_init_600 : decode cX6_init 600 = .ok (.bipush 49, 2) := by decide +kernel
theorem dX6_init_602 : decode cX6_init 602 = .ok (.iastore, 1) := by decide +kernel
theorem dX6_init_603 : decode cX6_init 603 = .ok (.dup, 1) := by decide +kernel
theorem dX6_init_604 : decode cX6_init 604 = .ok (.bipush 15, 2) := by decide +kernel
theorem dX6_init_606 : decode cX6_init 606 = .ok (.bipush 54, 2) := by decide +kernel
theorem dX6_init_608 : decode cX6_init 608 = .ok (.iastore, 1) := by decide +kernel
theorem dX6_init_609 : decode cX6_init 609 = .ok (.dup, 1) := by decide +kernel
theorem dX6_init_610 : decode cX6_init 610 = .ok (.bipush 16, 2) := by decide +kernel
theorem dX6_init_612 : decode cX6_init 612 = .ok (.bipush 58, 2) := by decide +kernel
theorem dX6_init_614 : decode cX6_init 614 = .ok (.iastore, 1) := by decide +kernel
theorem dX6_init_615 : decode cX6_init 615 = .ok (.dup, 1) := by decide +kernel
theorem dX6_init_616 : decode cX6_init 616 = .ok (.bipush 17, 2) := by decide +kernel
theorem dX6_init_618 : decode cX6_init 618 = .ok (.bipush 62, 2) := by decide +kernel
theorem dX6_init_620 : decode cX6_init 620 = .ok (.iastore, 1) := by decide +kernel
theorem dX6_init_621 : decode cX6_init 621 = .ok (.dup, 1) := by decide +kernel
theorem dX6_init_622 : decode cX6_init 622 = .ok (.bipush 18, 2) := by decide +kernel
theorem dX6_init_624 : decode cX6_init 624 = .ok (.bipush 65, 2) := by decide +kernel
theorem dX6_init_626 : decode cX6_init 626 = .ok (.iastore, 1) := by decide +kernel
theorem dX6_init_627 : decode cX6_init 627 = .ok (.dup, 1) := by decide +kernel
theorem dX6_init_628 : decode cX6_init 628 = .ok (.bipush 19, 2) := by decide +kernel
theorem dX6_init_630 : decode cX6_init 630 = .ok (.bipush 68, 2) := by decide +kernel
theorem dX6_init_632 : decode cX6_init 632 = .ok (.iastore, 1) := by decide +kernel
theorem dX6_init_633 : decode cX6_init 633 = .ok (.dup, 1) := by decide +kernel
theorem dX6_init_634 : decode cX6_init 634 = .ok (.bipush 20, 2) := by decide +kernel
theorem dX6_init_636 : decode cX6_init 636 = .ok (.bipush 71, 2) := by decide +kernel
theorem dX6_init_638 : decode cX6_init 638 = .ok (.iastore, 1) := by decide +kernel
theorem dX6_init_639 : decode cX6_init 639 = .ok (.dup, 1) := by decide +kernel
theorem dX6_init_640 : decode cX6_init 640 = .ok (.bipush 21, 2) := by decide +kernel
theorem dX6_init_642 : decode cX6_init 642 = .ok (.bipush 73, 2) := by decide +kernel
theorem dX6_init_644 : decode cX6_init 644 = .ok (.iastore, 1) := by decide +kernel
theorem dX6_init_645 : decode cX6_init 645 = .ok (.dup, 1) := by decide +kernel
theorem dX6_init_646 : decode cX6_init 646 = .ok (.bipush 22, 2) := by decide +kernel
theorem dX6_init_648 : decode cX6_init 648 = .ok (.bipush 76, 2) := by decide +kernel
theorem dX6_init_650 : decode cX6_init 650 = .ok (.iastore, 1) := by decide +kernel
theorem dX6_init_651 : decode cX6_init 651 = .ok (.dup, 1) := by decide +kernel
theorem dX6_init_652 : decode cX6_init 652 = .ok (.bipush 23, 2) := by decide +kernel
theorem dX6_init_654 : decode cX6_init 654 = .ok (.bipush 78, 2) := by decide +kernel
theorem dX6_init_656 : decode cX6_init 656 = .ok (.iastore, 1) := by decide +kernel
theorem dX6_init_657 : decode cX6_init 657 = .ok (.dup, 1) := by decide +kernel
theorem dX6_init_658 : decode cX6_init 658 = .ok (.bipush 24, 2) := by decide +kernel
theorem dX6_init_660 : decode cX6_init 660 = .ok (.bipush 82, 2) := by decide +kernel
theorem dX6_init_662 : decode cX6_init 662 = .ok (.iastore, 1) := by decide +kernel
theorem dX6_init_663 : decode cX6_init 663 = .ok (.dup, 1) := by decide +kernel
theorem dX6_init_664 : decode cX6_init 664 = .ok (.bipush 25, 2) := by decide +kernel
theorem dX6_init_666 : decode cX6_init 666 = .ok (.bipush 85, 2) := by decide +kernel
theorem dX6_init_668 : decode cX6_init 668 = .ok (.iastore, 1) := by decide +kernel
theorem dX6_init_669 : decode cX6_init 669 = .ok (.putfield 13, 3) := by decide +kernel
theorem dX6_init_672 : decode cX6_init 672 = .ok (.aload_n 0, 1) := by decide +kernel
theorem dX6_init_673 : decode cX6_init 673 = .ok (.bipush 122, 2) := by decide +kernel
theorem dX6_init_675 : decode cX6_init 675 = .ok (.newarray .int, 2) := by decide +kernel
theorem dX6_init_677 : decode cX6_init 677 = .ok (.putfield 16, 3) := by decide +kernel
theorem dX6_init_680 : decode cX6_init 680 = .ok (.aload_n 0, 1) := by decide +kernel
theorem dX6_init_681 : decode cX6_init 681 = .ok (.bipush 122, 2) := by decide +kernel
theorem dX6_init_683 : decode cX6_init 683 = .ok (.newarray .int, 2) := by decide +kernel
theorem dX6_init_685 : decode cX6_init 685 = .ok (.putfield 19, 3) := by decide +kernel
theorem dX6_init_688 : decode cX6_init 688 = .ok (.aload_n 0, 1) := by decide +kernel
theorem dX6_init_689 : decode cX6_init 689 = .ok (.sipush 732, 3) := by decide +kernel
theorem dX6_init_692 : decode cX6_init 692 = .ok (.newarray .int, 2) := by decide +kernel
theorem dX6_init_694 : decode cX6_init 694 = .ok (.putfield 22, 3) := by decide +kernel
theorem dX6_init_697 : decode cX6_init 697 = .ok (.aload_n 0, 1) := by decide +kernel
theorem dX6_init_698 : decode cX6_init 698 = .ok (.bipush 60, 2) := by decide +kernel
theorem dX6_init_700 : decode cX6_init 700 = .ok (.newarray .int, 2) := by decide +kernel
theorem dX6_init_702 : decode cX6_init 702 = .ok (.putfield 25, 3) := by decide +kernel
theorem dX6_init_705 : decode cX6_init 705 = .ok (.aload_n 0, 1) := by decide +kernel
theorem dX6_init_706 : decode cX6_init 706 = .ok (.bipush 31, 2) := by decide +kernel
theorem dX6_init_708 : decode cX6_init 708 = .ok (.newarray .int, 2) := by decide +kernel
theorem dX6_init_710 : decode cX6_init 710 = .ok (.putfield 28, 3) := by decide +kernel
theorem dX6_init_713 : decode cX6_init 713 = .ok (.aload_n 0, 1) := by decide +kernel
theorem dX6_init_714 : decode cX6_init 714 = .ok (.getfield 16, 3) := by decide +kernel
theorem dX6_init_717 : decode cX6_init 717 = .ok (.bipush 50, 2) := by decide +kernel
theorem dX6_init_719 : decode cX6_init 719 = .ok (.iconst (-1), 1) := by decide +kernel
theorem dX6_init_720 : decode cX6_init 720 = .ok (.iastore, 1) := by decide +kernel
theorem dX6_init_721 : decode cX6_init 721 = .ok (.return_, 1) := by decide +kernel
theorem dX6_thrown_0 : decode cX6_thrown 0 = .ok (.aload_n 0, 1) := by decide +kernel
theorem dX6_thrown_1 : decode cX6_thrown 1 = .ok (.getfield 31, 3) := by decide +kernel
theorem dX6_thrown_4 : decode cX6_thrown 4 = .ok (.ireturn, 1) := by decide +kernel
theorem dX6_throwing_0 : decode cX6_throwing 0 = .ok (.aload_n 0, 1) := by decide +kernel
theorem dX6_throwing_1 : decode cX6_throwing 1 = .ok (.iload_n 1, 1) := by decide +kernel
theorem dX6_throwing_2 : decode cX6_throwing 2 = .ok (.putfield 31, 3) := by decide +kernel
theorem dX6_throwing_5 : decode cX6_throwing 5 = .ok (.iconst 0, 1) := by decide +kernel
theorem dX6_throwing_6 : decode cX6_throwing 6 = .ok (.ireturn, 1) := by decide +kernel
theorem dX6_in_0 : decode cX6_in 0 = .ok (.iload_n 0, 1) := by decide +kernel
theorem dX6_in_1 : decode cX6_in 1 = .ok (.iload_n 1, 1) := by decide +kernel
theorem dX6_in_2 : decode cX6_in 2 = .ok (.if_icmp .lt 12, 3) := by decide +kernel
theorem dX6_in_5 : decode cX6_in 5 = .ok (.iload_n 0, 1) := by decide +kernel
theorem dX6_in_6 : decode cX6_in 6 = .ok (.iload_n 2, 1) := by decide +kernel
theorem dX6_in_7 : decode cX6_in 7 = .ok (.if_icmp .gt 7, 3) := by decide +kernel
theorem dX6_in_10 : decode cX6_in 10 = .ok (.iconst 1, 1) := by decide +kernel
theorem dX6_in_11 : decode cX6_in 11 = .ok (.goto 4, 3) := by decide +kernel
theorem dX6_in_14 : decode cX6_in 14 = .ok (.iconst 0, 1) := by decide +kernel
theorem dX6_in_15 : decode cX6_in 15 = .ok (.ireturn, 1) := by decide +kernel
theorem dX6_putAside_0 : decode cX6_putAside 0 = .ok (.iconst 0, 1) := by decide +kernel
theorem dX6_putAside_1 : decode cX6_putAside 1 = .ok (.istore_n 1, 1) := by decide +kernel
theorem dX6_putAside_2 : decode cX6_putAside 2 = .ok (.iload_n 1, 1) := by decide +kernel
theorem dX6_putAside_3 : decode cX6_putAside 3 = .ok (.bipush 122, 2) := by decide +kernel
theorem dX6_putAside_5 : decode cX6_putAside 5 = .ok (.if_icmp .ge 21, 3) := by decide +kernel
theorem dX6_putAside_8 : decode cX6_putAside 8 = .ok (.aload_n 0, 1) := by decide +kernel
theorem dX6_putAside_9 : decode cX6_putAside 9 = .ok (.getfield 19, 3) := by decide +kernel
theorem dX6_putAside_12 : decode cX6_putAside 12 = .ok (.iload_n 1, 1) := by decide +kernel
theorem dX6_putAside_13 : decode cX6_putAside 13 = .ok (.aload_n 0, 1) := by decide +kernel
theorem dX6_putAside_14 : decode cX6_putAside 14 = .ok (.getfield 16, 3) := by decide +kernel
theorem dX6_putAside_17 : decode cX6_putAside 17 = .ok (.iload_n 1, 1) := by decide +kernel
theorem dX6_putAside_18 : decode cX6_putAside 18 = .ok (.iaload, 1) := by decide +kernel
theorem dX6_putAside_19 : decode cX6_putAside 19 = .ok (.iastore, 1) := by decide +kernel
theorem dX6_putAside_20 : decode cX6_putAside 20 = .ok (.iinc 1 1, 3) := by decide +kernel
theorem dX6_putAside_23 : decode cX6_putAside 23 = .ok (.goto (-21), 3) := by decide +kernel
theorem dX6_putAside_26 : decode cX6_putAside 26 = .ok (.return_, 1) := by decide +kernel
theorem dX6_putBack_0 : decode cX6_putBack 0 = .ok (.iconst 0, 1) := by decide +kernel
theorem dX6_putBack_1 : decode cX6_putBack 1 = .ok (.istore_n 1, 1) := by decide +kernel
theorem dX6_putBack_2 : decode cX6_putBack 2 = .ok (.iload_n 1, 1) := by decide +kernel
theorem dX6_putBack_3 : decode cX6_putBack 3 = .ok (.bipush 122, 2) := by decide +kernel
theorem dX6_putBack_5 : decode cX6_putBack 5 = .ok (.if_icmp .ge 21, 3) := by decide +kernel
theorem dX6_putBack_8 : decode cX6_putBack 8 = .ok (.aload_n 0, 1) := by decide +kernel
theorem dX6_putBack_9 : decode cX6_putBack 9 = .ok (.getfield 16, 3) := by decide +kernel
theorem dX6_putBack_12 : decode cX6_putBack 12 = .ok (.iload_n 1, 1) := by decide +kernel
theorem dX6_putBack_13 : decode cX6_putBack 13 = .ok (.aload_n 0, 1) := by decide +kernel
theorem dX6_putBack_14 : decode cX6_putBack 14 = .ok (.getfield 19, 3) := by decide +kernel
theorem dX6_putBack_17 : decode cX6_putBack 17 = .ok (.iload_n 1, 1) := by decide +kernel
theorem dX6_putBack_18 : decode cX6_putBack 18 = .ok (.iaload, 1) := by decide +kernel
theorem dX6_putBack_19 : decode cX6_putBack 19 = .ok (.iastore, 1) := by decide +kernel
theorem dX6_putBack_20 : decode cX6_putBack 20 = .ok (.iinc 1 1, 3) := by decide +kernel
theorem dX6_putBack_23 : decode cX6_putBack 23 = .ok (.goto (-21), 3) := by decide +kernel
theorem dX6_putBack_26 : decode cX6_putBack 26 = .ok (.return_, 1) := by decide +kernel
theorem dX6_save_0 : decode cX6_save 0 = .ok (.aload_n 0, 1) := by decide +kernel
theorem dX6_save_1 : decode cX6_save 1 = .ok (.getfield 35, 3) := by decide +kernel
theorem dX6_save_4 : decode cX6_save 4 = .ok (.bipush 6, 2) := by decide +kernel
theorem dX6_save_6 : decode cX6_save 6 = .ok (.if_icmp .ne 43, 3) := by decide +kernel
theorem dX6_save_9 : decode cX6_save 9 = .ok (.iconst 0, 1) := by decide +kernel
theorem dX6_save_10 : decode cX6_save 10 = .ok (.istore_n 1, 1) := by decide +kernel
theorem dX6_save_11 : decode cX6_save 11 = .ok (.iload_n 1, 1) := by decide +kernel
theorem dX6_save_12 : decode cX6_save 12 = .ok (.sipush 610, 3) := by decide +kernel
theorem dX6_save_15 : decode cX6_save 15 = .ok (.if_icmp .ge 24, 3) := by decide +kernel
theorem dX6_save_18 : decode cX6_save 18 = .ok (.aload_n 0, 1) := by decide +kernel
theorem dX6_save_19 : decode cX6_save 19 = .ok (.getfield 22, 3) := by decide +kernel
theorem dX6_save_22 : decode cX6_save 22 = .ok (.iload_n 1, 1) := by decide +kernel
theorem dX6_save_23 : decode cX6_save 23 = .ok (.aload_n 0, 1) := by decide +kernel
theorem dX6_save_24 : decode cX6_save 24 = .ok (.getfield 22, 3) := by decide +kernel
theorem dX6_save_27 : decode cX6_save 27 = .ok (.bipush 122, 2) := by decide +kernel
theorem dX6_save_29 : decode cX6_save 29 = .ok (.iload_n 1, 1) := by decide +kernel
theorem dX6_save_30 : decode cX6_save 30 = .ok (.iadd, 1) := by decide +kernel
theorem dX6_save_31 : decode cX6_save 31 = .ok (.iaload, 1) := by decide +kernel
theorem dX6_save_32 : decode cX6_save 32 = .ok (.iastore, 1) := by decide +kernel
theorem dX6_save_33 : decode cX6_save 33 = .ok (.iinc 1 1, 3) := by decide +kernel
theorem dX6_save_36 : decode cX6_save 36 = .ok (.goto (-25), 3) := by decide +kernel
theorem dX6_save_39 : decode cX6_save 39 = .ok (.aload_n 0, 1) := by decide +kernel
theorem dX6_save_40 : decode cX6_save 40 = .ok (.dup, 1) := by decide +kernel
theorem dX6_save_41 : decode cX6_save 41 = .ok (.getfield 35, 3) := by decide +kernel
theorem dX6_save_44 : decode cX6_save 44 = .ok (.iconst 1, 1) := by decide +kernel
theorem dX6_save_45 : decode cX6_save 45 = .ok (.isub, 1) := by decide +kernel
theorem dX6_save_46 : decode cX6_save 46 = .ok (.putfield 35, 3) := by decide +kernel
theorem dX6_save_49 : decode cX6_save 49 = .ok (.iconst 0, 1) := by decide +kernel
theorem dX6_save_50 : decode cX6_save 50 = .ok (.istore_n 1, 1) := by decide +kernel
theorem dX6_save_51 : decode cX6_save 51 = .ok (.iload_n 1, 1) := by decide +kernel
theorem dX6_save_52 : decode cX6_save 52 = .ok (.bipush 122, 2) := by decide +kernel
theorem dX6_save_54 : decode cX6_save 54 = .ok (.if_icmp .ge 29, 3) := by decide +kernel
theorem dX6_save_57 : decode cX6_save 57 = .ok (.aload_n 0, 1) := by decide +kernel
theorem dX6_save_58 : decode cX6_save 58 = .ok (.getfield 22, 3) := by decide +kernel
theorem dX6_save_61 : decode cX6_save 61 = .ok (.bipush 122, 2) := by decide +kernel
theorem dX6_save_63 : decode cX6_save 63 = .ok (.aload_n 0, 1) := by decide +kernel
theorem dX6_save_64 : decode cX6_save 64 = .ok (.getfield 35, 3) := by decide +kernel
theorem dX6_save_67 : decode cX6_save 67 = .ok (.imul, 1) := by decide +kernel
theorem dX6_save_68 : decode cX6_save 68 = .ok (.iload_n 1, 1) := by decide +kernel
theorem dX6_save_69 : decode cX6_save 69 = .ok (.iadd, 1) := by decide +kernel
theorem dX6_save_70 : decode cX6_save 70 = .ok (.aload_n 0, 1) := by decide +kernel
theorem dX6_save_71 : decode cX6_save 71 = .ok (.getfield 16, 3) := by decide +kernel
theorem dX6_save_74 : decode cX6_save 74 = .ok (.iload_n 1, 1) := by decide +kernel
theorem dX6_save_75 : decode cX6_save 75 = .ok (.iaload, 1) := by decide +kernel
theorem dX6_save_76 : decode cX6_save 76 = .ok (.iastore, 1) := by decide +kernel
theorem dX6_save_77 : decode cX6_save 77 = .ok (.iinc 1 1, 3) := by decide +kernel
theorem dX6_save_80 : decode cX6_save 80 = .ok (.goto (-29), 3) := by decide +kernel
theorem dX6_save_83 : decode cX6_save 83 = .ok (.aload_n 0, 1) := by decide +kernel
theorem dX6_save_84 : decode cX6_save 84 = .ok (.dup, 1) := by decide +kernel
theorem dX6_save_85 : decode cX6_save 85 = .ok (.getfield 35, 3) := by decide +kernel
theorem dX6_save_88 : decode cX6_save 88 = .ok (.iconst 1, 1) := by decide +kernel
theorem dX6_save_89 : decode cX6_save 89 = .ok (.iadd, 1) := by decide +kernel
theorem dX6_save_90 : decode cX6_save 90 = .ok (.putfield 35, 3) := by decide +kernel
theorem dX6_save_93 : decode cX6_save 93 = .ok (.return_, 1) := by decide +kernel
theorem dX6_of_0 : decode cX6_of 0 = .ok (.aload_n 0, 1) := by decide +kernel
theorem dX6_of_1 : decode cX6_of 1 = .ok (.getfield 16, 3) := by decide +kernel
theorem dX6_of_4 : decode cX6_of 4 = .ok (.iconst 1, 1) := by decide +kernel
theorem dX6_of_5 : decode cX6_of 5 = .ok (.iconst 4, 1) := by decide +kernel
theorem dX6_of_6 : decode cX6_of 6 = .ok (.iload_n 1, 1) := by decide +kernel
theorem dX6_of_7 : decode cX6_of 7 = .ok (.imul, 1) := by decide +kernel
theorem dX6_of_8 : decode cX6_of 8 = .ok (.iadd, 1) := by decide +kernel
theorem dX6_of_9 : decode cX6_of 9 = .ok (.iload_n 2, 1) := by decide +kernel
theorem dX6_of_10 : decode cX6_of 10 = .ok (.iadd, 1) := by decide +kernel
theorem dX6_of_11 : decode cX6_of 11 = .ok (.iaload, 1) := by decide +kernel
theorem dX6_of_12 : decode cX6_of 12 = .ok (.ireturn, 1) := by decide +kernel
set_option maxRecDepth 20000 in
theorem ggX6_isObject_X6_in : GoodIn wsX6_isObject wsX6_in := goodIn_r _ [5] (by decide +kernel) (by decide +kernel)
set_option maxRecDepth 20000 in
theorem gX6_isObject_X6_in : GoodIn wsX6_isObject (va_wsS RX6 38 yX6_in wsX6_in) := goodIn_app (goodIn_of _ (by decide +kernel)) ggX6_isObject_X6_in
theorem dX6_isObject_0 : decode cX6_isObject 0 = .ok (.iload_n 1, 1) := by decide +kernel
theorem dX6_isObject_1 : decode cX6_isObject 1 = .ok (.iconst 0, 1) := by decide +kernel
theorem dX6_isObject_2 : decode cX6_isObject 2 = .ok (.aload_n 0, 1) := by decide +kernel
theorem dX6_isObject_3 : decode cX6_isObject 3 = .ok (.getfield 16, 3) := by decide +kernel
theorem dX6_isObject_6 : decode cX6_isObject 6 = .ok (.iconst 0, 1) := by decide +kernel
theorem dX6_isObject_7 : decode cX6_isObject 7 = .ok (.iaload, 1) := by decide +kernel
theorem dX6_isObject_8 : decode cX6_isObject 8 = .ok (.iconst 1, 1) := by decide +kernel
theorem dX6_isObject_9 : decode cX6_isObject 9 = .ok (.isub, 1) := by decide +kernel
theorem dX6_isObject_10 : decode cX6_isObject 10 = .ok (.invokestatic 38, 3) := by decide +kernel
theorem dX6_isObject_13 : decode cX6_isObject 13 = .ok (.ireturn, 1) := by decide +kernel
set_option maxRecDepth 20000 in
theorem ggX6_isContainer_X6_of : GoodIn wsX6_isContainer wsX6_of := goodIn_r _ [5, 6, 7, 8, 9, 10, 11, 12, 13, 14, 15, 16, 17, 18, 19, 20, 21, 22, 23] (by decide +kernel) (by decide +kernel)
set_option maxRecDepth 20000 in
theorem gX6_isContainer_X6_of : GoodIn wsX6_isContainer (wsV RX6 42 RX6 yX6_of wsX6_of) := goodIn_app (goodIn_of _ (by decide +kernel)) ggX6_isContainer_X6_of
theorem dX6_isContainer_0 : decode cX6_isContainer 0 = .ok (.aload_n 0, 1) := by decide +kernel
theorem dX6_isContainer_1 : decode cX6_isContainer 1 = .ok (.iload_n 1, 1) := by decide +kernel
theorem dX6_isContainer_2 : decode cX6_isContainer 2 = .ok (.iconst 0, 1) := by decide +kernel
theorem dX6_isContainer_3 : decode cX6_isContainer 3 = .ok (.invokevirtual 42, 3) := by decide +kernel
theorem dX6_isContainer_6 : decode cX6_isContainer 6 = .ok (.iconst 1, 1) := by decide +kernel
theorem dX6_isContainer_7 : decode cX6_isContainer 7 = .ok (.if_icmp .eq 13, 3) := by decide +kernel
theorem dX6_isContainer_10 : decode cX6_isContainer 10 = .ok (.aload_n 0, 1) := by decide +kernel
theorem dX6_isContainer_11 : decode cX6_isContainer 11 = .ok (.iload_n 1, 1) := by decide +kernel
theorem dX6_isContainer_12 : decode cX6_isContainer 12 = .ok (.iconst 0, 1) := by decide +kernel
theorem dX6_isContainer_13 : decode cX6_isContainer 13 = .ok (.invokevirtual 42, 3) := by decide +kernel
theorem dX6_isContainer_16 : decode cX6_isContainer 16 = .ok (.iconst 5, 1) := by decide +kernel
theorem dX6_isContainer_17 : decode cX6_isContainer 17 = .ok (.if_icmp .ne 7, 3) := by decide +kernel
theorem dX6_isContainer_20 : decode cX6_isContainer 20 = .ok (.iconst 1, 1) := by decide +kernel
theorem dX6_isContainer_21 : decode cX6_isContainer 21 = .ok (.goto 4, 3) := by decide +kernel
theorem dX6_isContainer_24 : decode cX6_isContainer 24 = .ok (.iconst 0, 1) := by decide +kernel
theorem dX6_isContainer_25 : decode cX6_isContainer 25 = .ok (.ireturn, 1) := by decide +kernel
set_option maxRecDepth 20000 in
theorem ggX6_at_X6_of : GoodIn wsX6_at wsX6_of := goodIn_r _ [6, 1, 7, 8, 9, 10, 11, 12, 13, 14, 15, 16, 17, 18, 19, 20, 21, 22, 23] (by decide +kernel) (by decide +kernel)
set_option maxRecDepth 20000 in
theorem gX6_at_X6_of : GoodIn wsX6_at (wsV RX6 42 RX6 yX6_of wsX6_of) := goodIn_app (goodIn_of _ (by decide +kernel)) ggX6_at_X6_of
theorem dX6_at_0 : decode cX6_at 0 = .ok (.iconst 0, 1) := by decide +kernel
theorem dX6_at_1 : decode cX6_at 1 = .ok (.istore_n 2, 1) := by decide +kernel
theorem dX6_at_2 : decode cX6_at 2 = .ok (.iconst 0, 1) := by decide +kernel
theorem dX6_at_3 : decode cX6_at 3 = .ok (.istore_n 3, 1) := by decide +kernel
theorem dX6_at_4 : decode cX6_at 4 = .ok (.iload_n 3, 1) := by decide +kernel
theorem dX6_at_5 : decode cX6_at 5 = .ok (.aload_n 0, 1) := by decide +kernel
theorem dX6_at_6 : decode cX6_at 6 = .ok (.getfield 16, 3) := by decide +kernel
theorem dX6_at_9 : decode cX6_at 9 = .ok (.iconst 0, 1) := by decide +kernel
theorem dX6_at_10 : decode cX6_at 10 = .ok (.iaload, 1) := by decide +kernel
theorem dX6_at_11 : decode cX6_at 11 = .ok (.if_icmp .ge 27, 3) := by decide +kernel
theorem dX6_at_14 : decode cX6_at 14 = .ok (.iload_n 2, 1) := by decide +kernel
theorem dX6_at_15 : decode cX6_at 15 = .ok (.aload_n 0, 1) := by decide +kernel
theorem dX6_at_16 : decode cX6_at 16 = .ok (.iload_n 3, 1) := by decide +kernel
theorem dX6_at_17 : decode cX6_at 17 = .ok (.iconst 2, 1) := by decide +kernel
theorem dX6_at_18 : decode cX6_at 18 = .ok (.invokevirtual 42, 3) := by decide +kernel
theorem dX6_at_21 : decode cX6_at 21 = .ok (.iload_n 1, 1) := by decide +kernel
theorem dX6_at_22 : decode cX6_at 22 = .ok (.if_icmp .ne 7, 3) := by decide +kernel
theorem dX6_at_25 : decode cX6_at 25 = .ok (.iconst 1, 1) := by decide +kernel
theorem dX6_at_26 : decode cX6_at 26 = .ok (.goto 4, 3) := by decide +kernel
theorem dX6_at_29 : decode cX6_at 29 = .ok (.iconst 0, 1) := by decide +kernel
theorem dX6_at_30 : decode cX6_at 30 = .ok (.iadd, 1) := by decide +kernel
theorem dX6_at_31 : decode cX6_at 31 = .ok (.istore_n 2, 1) := by decide +kernel
theorem dX6_at_32 : decode cX6_at 32 = .ok (.iinc 3 1, 3) := by decide +kernel
theorem dX6_at_35 : decode cX6_at 35 = .ok (.goto (-31), 3) := by decide +kernel
theorem dX6_at_38 : decode cX6_at 38 = .ok (.iload_n 2, 1) := by decide +kernel
theorem dX6_at_39 : decode cX6_at 39 = .ok (.ireturn, 1) := by decide +kernel
theorem dX6_isNear_0 : decode cX6_isNear 0 = .ok (.iload_n 1, 1) := by decide +kernel
theorem dX6_isNear_1 : decode cX6_isNear 1 = .ok (.aload_n 0, 1) := by decide +kernel
theorem dX6_isNear_2 : decode cX6_isNear 2 = .ok (.getfield 16, 3) := by decide +kernel
theorem dX6_isNear_5 : decode cX6_isNear 5 = .ok (.bipush 49, 2) := by decide +kernel
theorem dX6_isNear_7 : decode cX6_isNear 7 = .ok (.iaload, 1) := by decide +kernel
theorem dX6_isNear_8 : decode cX6_isNear 8 = .ok (.if_icmp .eq 8, 3) := by decide +kernel
theorem dX6_isNear_11 : decode cX6_isNear 11 = .ok (.iload_n 1, 1) := by decide +kernel
theorem dX6_isNear_12 : decode cX6_isNear 12 = .ok (.iconst 4, 1) := by decide +kernel
theorem dX6_isNear_13 : decode cX6_isNear 13 = .ok (.if_icmp .ne 7, 3) := by decide +kernel
theorem dX6_isNear_16 : decode cX6_isNear 16 = .ok (.iconst 1, 1) := by decide +kernel
theorem dX6_isNear_17 : decode cX6_isNear 17 = .ok (.goto 4, 3) := by decide +kernel
theorem dX6_isNear_20 : decode cX6_isNear 20 = .ok (.iconst 0, 1) := by decide +kernel
theorem dX6_isNear_21 : decode cX6_isNear 21 = .ok (.ireturn, 1) := by decide +kernel
set_option maxRecDepth 20000 in
theorem ggX6_isVisible_X6_of : GoodIn wsX6_isVisible wsX6_of := goodIn_r _ [5, 6, 11, 12, 13, 14, 15, 16, 17, 18, 19, 20, 21, 22, 23, 24, 25, 26, 27] (by decide +kernel) (by decide +kernel)
set_option maxRecDepth 20000 in
theorem gX6_isVisible_X6_of : GoodIn wsX6_isVisible (wsV RX6 42 RX6 yX6_of wsX6_of) := goodIn_app (goodIn_of _ (by decide +kernel)) ggX6_isVisible_X6_of
set_option maxRecDepth 20000 in
theorem ggX6_isVisible_X6_isNear : GoodIn wsX6_isVisible wsX6_isNear := goodIn_r _ [10, 6, 11, 12, 13, 14, 15, 16, 17, 18, 19, 20, 21, 22, 23, 24, 25, 26, 27] (by decide +kernel) (by decide +kernel)
set_option maxRecDepth 20000 in
theorem gX6_isVisible_X6_isNear : GoodIn wsX6_isVisible (wsV RX6 46 RX6 yX6_isNear wsX6_isNear) := goodIn_app (goodIn_of _ (by decide +kernel)) ggX6_isVisible_X6_isNear
theorem dX6_isVisible_0 : decode cX6_isVisible 0 = .ok (.aload_n 0, 1) := by decide +kernel
theorem dX6_isVisible_1 : decode cX6_isVisible 1 = .ok (.iload_n 1, 1) := by decide +kernel
theorem dX6_isVisible_2 : decode cX6_isVisible 2 = .ok (.iconst 2, 1) := by decide +kernel
theorem dX6_isVisible_3 : decode cX6_isVisible 3 = .ok (.invokevirtual 42, 3) := by decide +kernel
theorem dX6_isVisible_6 : decode cX6_isVisible 6 = .ok (.istore_n 2, 1) := by decide +kernel
theorem dX6_isVisible_7 : decode cX6_isVisible 7 = .ok (.aload_n 0, 1) := by decide +kernel
theorem dX6_isVisible_8 : decode cX6_isVisible 8 = .ok (.iload_n 2, 1) := by decide +kernel
theorem dX6_isVisible_9 : decode cX6_isVisible 9 = .ok (.invokevirtual 46, 3) := by decide +kernel
theorem dX6_isVisible_12 : decode cX6_isVisible 12 = .ok (.ifCond .ne 35, 3) := by decide +kernel
theorem dX6_isVisible_15 : decode cX6_isVisible 15 = .ok (.iload_n 2, 1) := by decide +kernel
theorem dX6_isVisible_16 : decode cX6_isVisible 16 = .ok (.iconst 4, 1) := by decide +kernel
theorem dX6_isVisible_17 : decode cX6_isVisible 17 = .ok (.if_icmp .le 34, 3) := by decide +kernel
theorem dX6_isVisible_20 : decode cX6_isVisible 20 = .ok (.aload_n 0, 1) := by decide +kernel
theorem dX6_isVisible_21 : decode cX6_isVisible 21 = .ok (.iload_n 2, 1) := by decide +kernel
theorem dX6_isVisible_22 : decode cX6_isVisible 22 = .ok (.iconst 5, 1) := by decide +kernel
theorem dX6_isVisible_23 : decode cX6_isVisible 23 = .ok (.isub, 1) := by decide +kernel
theorem dX6_isVisible_24 : decode cX6_isVisible 24 = .ok (.iconst 3, 1) := by decide +kernel
theorem dX6_isVisible_25 : decode cX6_isVisible 25 = .ok (.invokevirtual 42, 3) := by decide +kernel
theorem dX6_isVisible_28 : decode cX6_isVisible 28 = .ok (.iconst 1, 1) := by decide +kernel
theorem dX6_isVisible_29 : decode cX6_isVisible 29 = .ok (.if_icmp .ne 22, 3) := by decide +kernel
theorem dX6_isVisible_32 : decode cX6_isVisible 32 = .ok (.aload_n 0, 1) := by decide +kernel
theorem dX6_isVisible_33 : decode cX6_isVisible 33 = .ok (.aload_n 0, 1) := by decide +kernel
theorem dX6_isVisible_34 : decode cX6_isVisible 34 = .ok (.iload_n 2, 1) := by decide +kernel
theorem dX6_isVisible_35 : decode cX6_isVisible 35 = .ok (.iconst 5, 1) := by decide +kernel
theorem dX6_isVisible_36 : decode cX6_isVisible 36 = .ok (.isub, 1) := by decide +kernel
theorem dX6_isVisible_37 : decode cX6_isVisible 37 = .ok (.iconst 2, 1) := by decide +kernel
theorem dX6_isVisible_38 : decode cX6_isVisible 38 = .ok (.invokevirtual 42, 3) := by decide +kernel
theorem dX6_isVisible_41 : decode cX6_isVisible 41 = .ok (.invokevirtual 46, 3) := by decide +kernel
theorem dX6_isVisible_44 : decode cX6_isVisible 44 = .ok (.ifCond .eq 7, 3) := by decide +kernel
theorem dX6_isVisible_47 : decode cX6_isVisible 47 = .ok (.iconst 1, 1) := by decide +kernel
theorem dX6_isVisible_48 : decode cX6_isVisible 48 = .ok (.goto 4, 3) := by decide +kernel
theorem dX6_isVisible_51 : decode cX6_isVisible 51 = .ok (.iconst 0, 1) := by decide +kernel
theorem dX6_isVisible_52 : decode cX6_isVisible 52 = .ok (.ireturn, 1) := by decide +kernel
set_option maxRecDepth 20000 in
theorem ggX6_isTarget_X6_isVisible : GoodIn wsX6_isTarget wsX6_isVisible := goodIn_r _ [5, 6, 7, 8, 4, 9, 10, 11, 12, 13, 14, 15, 16, 17, 18, 19, 20, 21, 22, 23, 24, 25, 26, 27, 28, 29, 30, 31] (by decide +kernel) (by decide +kernel)
set_option maxRecDepth 20000 in
theorem gX6_isTarget_X6_isVisible : GoodIn wsX6_isTarget (wsV RX6 50 RX6 yX6_isVisible wsX6_isVisible) := goodIn_app (goodIn_of _ (by decide +kernel)) ggX6_isTarget_X6_isVisible
set_option maxRecDepth 20000 in
theorem ggX6_isTarget_X6_of : GoodIn wsX6_isTarget wsX6_of := goodIn_r _ [9, 10, 15, 16, 17, 18, 19, 20, 21, 22, 23, 24, 25, 26, 27, 28, 29, 30, 31] (by decide +kernel) (by decide +kernel)
set_option maxRecDepth 20000 in
theorem gX6_isTarget_X6_of : GoodIn wsX6_isTarget (wsV RX6 42 RX6 yX6_of wsX6_of) := goodIn_app (goodIn_of _ (by decide +kernel)) ggX6_isTarget_X6_of
theorem dX6_isTarget_0 : decode cX6_isTarget 0 = .ok (.aload_n 0, 1) := by decide +kernel
theorem dX6_isTarget_1 : decode cX6_isTarget 1 = .ok (.iload_n 1, 1) := by decide +kernel
theorem dX6_isTarget_2 : decode cX6_isTarget 2 = .ok (.invokevirtual 50, 3) := by decide +kernel
theorem dX6_isTarget_5 : decode cX6_isTarget 5 = .ok (.ifCond .eq 17, 3) := by decide +kernel
theorem dX6_isTarget_8 : decode cX6_isTarget 8 = .ok (.aload_n 0, 1) := by decide +kernel
theorem dX6_isTarget_9 : decode cX6_isTarget 9 = .ok (.iload_n 1, 1) := by decide +kernel
theorem dX6_isTarget_10 : decode cX6_isTarget 10 = .ok (.iconst 3, 1) := by decide +kernel
theorem dX6_isTarget_11 : decode cX6_isTarget 11 = .ok (.invokevirtual 42, 3) := by decide +kernel
theorem dX6_isTarget_14 : decode cX6_isTarget 14 = .ok (.iconst 1, 1) := by decide +kernel
theorem dX6_isTarget_15 : decode cX6_isTarget 15 = .ok (.if_icmp .ne 7, 3) := by decide +kernel
theorem dX6_isTarget_18 : decode cX6_isTarget 18 = .ok (.iconst 1, 1) := by decide +kernel
theorem dX6_isTarget_19 : decode cX6_isTarget 19 = .ok (.goto 4, 3) := by decide +kernel
theorem dX6_isTarget_22 : decode cX6_isTarget 22 = .ok (.iconst 0, 1) := by decide +kernel
theorem dX6_isTarget_23 : decode cX6_isTarget 23 = .ok (.ireturn, 1) := by decide +kernel
set_option maxRecDepth 20000 in
theorem ggX6_suits_X6_isVisible : GoodIn wsX6_suits wsX6_isVisible := goodIn_r _ [5, 6, 7, 8, 4, 9, 10, 11, 12, 13, 14, 23, 24, 25, 26, 27, 28, 29, 30, 31, 32, 33, 34, 35, 36, 37, 38, 39] (by decide +kernel) (by decide +kernel)
set_option maxRecDepth 20000 in
theorem gX6_suits_X6_isVisible : GoodIn wsX6_suits (wsV RX6 50 RX6 yX6_isVisible wsX6_isVisible) := goodIn_app (goodIn_of _ (by decide +kernel)) ggX6_suits_X6_isVisible
set_option maxRecDepth 20000 in
theorem ggX6_suits_X6_of : GoodIn wsX6_suits wsX6_of := goodIn_r _ [9, 10, 23, 24, 25, 26, 27, 28, 29, 30, 31, 32, 33, 34, 35, 36, 37, 38, 39] (by decide +kernel) (by decide +kernel)
set_option maxRecDepth 20000 in
theorem gX6_suits_X6_of : GoodIn wsX6_suits (wsV RX6 42 RX6 yX6_of wsX6_of) := goodIn_app (goodIn_of _ (by decide +kernel)) ggX6_suits_X6_of
set_option maxRecDepth 20000 in
theorem ggX6_suits_X6_isContainer : GoodIn wsX6_suits wsX6_isContainer := goodIn_r _ [18, 6, 7, 8, 4, 9, 10, 23, 24, 25, 26, 27, 28, 29, 30, 31, 32, 33, 34, 35, 36, 37, 38, 39] (by decide +kernel) (by decide +kernel)
set_option maxRecDepth 20000 in
theorem gX6_suits_X6_isContainer : GoodIn wsX6_suits (wsV RX6 53 RX6 yX6_isContainer wsX6_isContainer) := goodIn_app (goodIn_of _ (by decide +kernel)) ggX6_suits_X6_isContainer
set_option maxRecDepth 20000 in
theorem ggX6_suits_X6_isTarget : GoodIn wsX6_suits wsX6_isTarget := goodIn_r _ [22, 1, 2, 3, 4, 5, 6, 7, 8, 9, 10, 11, 12, 13, 14, 23, 24, 25, 26, 27, 28, 29, 30, 31, 32, 33, 34, 35, 36, 37, 38, 39] (by decide +kernel) (by decide +kernel)
set_option maxRecDepth 20000 in
theorem gX6_suits_X6_isTarget : GoodIn wsX6_suits (wsV RX6 56 RX6 yX6_isTarget wsX6_isTarget) := goodIn_app (goodIn_of _ (by decide +kernel)) ggX6_suits_X6_isTarget
theorem dX6_suits_0 : decode cX6_suits 0 = .ok (.iload_n 2, 1) := by decide +kernel
theorem dX6_suits_1 : decode cX6_suits 1 = .ok (.tableswitch 126 0 3 #[31, 55, 71, 95], 31) := by decide +kernel
theorem dX6_suits_32 : decode cX6_suits 32 = .ok (.aload_n 0, 1) := by decide +kernel
theorem dX6_suits_33 : decode cX6_suits 33 = .ok (.iload_n 1, 1) := by decide +kernel
theorem dX6_suits_34 : decode cX6_suits 34 = .ok (.invokevirtual 50, 3) := by decide +kernel
theorem dX6_suits_37 : decode cX6_suits 37 = .ok (.ifCond .eq 17, 3) := by decide +kernel
theorem dX6_suits_40 : decode cX6_suits 40 = .ok (.aload_n 0, 1) := by decide +kernel
theorem dX6_suits_41 : decode cX6_suits 41 = .ok (.iload_n 1, 1) := by decide +kernel
theorem dX6_suits_42 : decode cX6_suits 42 = .ok (.iconst 2, 1) := by decide +kernel
theorem dX6_suits_43 : decode cX6_suits 43 = .ok (.invokevirtual 42, 3) := by decide +kernel
theorem dX6_suits_46 : decode cX6_suits 46 = .ok (.iconst 4, 1) := by decide +kernel
theorem dX6_suits_47 : decode cX6_suits 47 = .ok (.if_icmp .eq 7, 3) := by decide +kernel
theorem dX6_suits_50 : decode cX6_suits 50 = .ok (.iconst 1, 1) := by decide +kernel
theorem dX6_suits_51 : decode cX6_suits 51 = .ok (.goto 4, 3) := by decide +kernel
theorem dX6_suits_54 : decode cX6_suits 54 = .ok (.iconst 0, 1) := by decide +kernel
theorem dX6_suits_55 : decode cX6_suits 55 = .ok (.ireturn, 1) := by decide +kernel
theorem dX6_suits_56 : decode cX6_suits 56 = .ok (.aload_n 0, 1) := by decide +kernel
theorem dX6_suits_57 : decode cX6_suits 57 = .ok (.iload_n 1, 1) := by decide +kernel
theorem dX6_suits_58 : decode cX6_suits 58 = .ok (.iconst 2, 1) := by decide +kernel
theorem dX6_suits_59 : decode cX6_suits 59 = .ok (.invokevirtual 42, 3) := by decide +kernel
theorem dX6_suits_62 : decode cX6_suits 62 = .ok (.iconst 4, 1) := by decide +kernel
theorem dX6_suits_63 : decode cX6_suits 63 = .ok (.if_icmp .ne 7, 3) := by decide +kernel
theorem dX6_suits_66 : decode cX6_suits 66 = .ok (.iconst 1, 1) := by decide +kernel
theorem dX6_suits_67 : decode cX6_suits 67 = .ok (.goto 4, 3) := by decide +kernel
theorem dX6_suits_70 : decode cX6_suits 70 = .ok (.iconst 0, 1) := by decide +kernel
theorem dX6_suits_71 : decode cX6_suits 71 = .ok (.ireturn, 1) := by decide +kernel
theorem dX6_suits_72 : decode cX6_suits 72 = .ok (.aload_n 0, 1) := by decide +kernel
theorem dX6_suits_73 : decode cX6_suits 73 = .ok (.iload_n 1, 1) := by decide +kernel
theorem dX6_suits_74 : decode cX6_suits 74 = .ok (.iconst 2, 1) := by decide +kernel
theorem dX6_suits_75 : decode cX6_suits 75 = .ok (.invokevirtual 42, 3) := by decide +kernel
theorem dX6_suits_78 : decode cX6_suits 78 = .ok (.iconst 4, 1) := by decide +kernel
theorem dX6_suits_79 : decode cX6_suits 79 = .ok (.if_icmp .ne 15, 3) := by decide +kernel
theorem dX6_suits_82 : decode cX6_suits 82 = .ok (.aload_n 0, 1) := by decide +kernel
theorem dX6_suits_83 : decode cX6_suits 83 = .ok (.iload_n 1, 1) := by decide +kernel
theorem dX6_suits_84 : decode cX6_suits 84 = .ok (.invokevirtual 53, 3) := by decide +kernel
theorem dX6_suits_87 : decode cX6_suits 87 = .ok (.ifCond .ne 7, 3) := by decide +kernel
theorem dX6_suits_90 : decode cX6_suits 90 = .ok (.iconst 1, 1) := by decide +kernel
theorem dX6_suits_91 : decode cX6_suits 91 = .ok (.goto 4, 3) := by decide +kernel
theorem dX6_suits_94 : decode cX6_suits 94 = .ok (.iconst 0, 1) := by decide +kernel
theorem dX6_suits_95 : decode cX6_suits 95 = .ok (.ireturn, 1) := by decide +kernel
theorem dX6_suits_96 : decode cX6_suits 96 = .ok (.aload_n 0, 1) := by decide +kernel
theorem dX6_suits_97 : decode cX6_suits 97 = .ok (.iload_n 1, 1) := by decide +kernel
theorem dX6_suits_98 : decode cX6_suits 98 = .ok (.invokevirtual 50, 3) := by decide +kernel
theorem dX6_suits_101 : decode cX6_suits 101 = .ok (.ifCond .eq 24, 3) := by decide +kernel
theorem dX6_suits_104 : decode cX6_suits 104 = .ok (.aload_n 0, 1) := by decide +kernel
theorem dX6_suits_105 : decode cX6_suits 105 = .ok (.iload_n 1, 1) := by decide +kernel
theorem dX6_suits_106 : decode cX6_suits 106 = .ok (.invokevirtual 53, 3) := by decide +kernel
theorem dX6_suits_109 : decode cX6_suits 109 = .ok (.ifCond .eq 16, 3) := by decide +kernel
theorem dX6_suits_112 : decode cX6_suits 112 = .ok (.aload_n 0, 1) := by decide +kernel
theorem dX6_suits_113 : decode cX6_suits 113 = .ok (.iload_n 1, 1) := by decide +kernel
theorem dX6_suits_114 : decode cX6_suits 114 = .ok (.iconst 3, 1) := by decide +kernel
theorem dX6_suits_115 : decode cX6_suits 115 = .ok (.invokevirtual 42, 3) := by decide +kernel
theorem dX6_suits_118 : decode cX6_suits 118 = .ok (.ifCond .ne 7, 3) := by decide +kernel
theorem dX6_suits_121 : decode cX6_suits 121 = .ok (.iconst 1, 1) := by decide +kernel
theorem dX6_suits_122 : decode cX6_suits 122 = .ok (.goto 4, 3) := by decide +kernel
theorem dX6_suits_125 : decode cX6_suits 125 = .ok (.iconst 0, 1) := by decide +kernel
theorem dX6_suits_126 : decode cX6_suits 126 = .ok (.ireturn, 1) := by decide +kernel
theorem dX6_suits_127 : decode cX6_suits 127 = .ok (.aload_n 0, 1) := by decide +kernel
theorem dX6_suits_128 : decode cX6_suits 128 = .ok (.iload_n 1, 1) := by decide +kernel
theorem dX6_suits_129 : decode cX6_suits 129 = .ok (.invokevirtual 56, 3) := by decide +kernel
theorem dX6_suits_132 : decode cX6_suits 132 = .ok (.ireturn, 1) := by decide +kernel
set_option maxRecDepth 20000 in
theorem ggX6_visibleOnes_X6_isVisible : GoodIn wsX6_visibleOnes wsX6_isVisible := goodIn_r _ [6, 7, 8, 9, 5, 10, 1, 11, 12, 13, 14, 15, 16, 17, 18, 19, 20, 21, 22, 23, 24, 25, 26, 27, 28, 29, 30, 31] (by decide +kernel) (by decide +kernel)
set_option maxRecDepth 20000 in
theorem gX6_visibleOnes_X6_isVisible : GoodIn wsX6_visibleOnes (wsV RX6 50 RX6 yX6_isVisible wsX6_isVisible) := goodIn_app (goodIn_of _ (by decide +kernel)) ggX6_visibleOnes_X6_isVisible
theorem dX6_visibleOnes_0 : decode cX6_visibleOnes 0 = .ok (.iconst 0, 1) := by decide +kernel
theorem dX6_visibleOnes_1 : decode cX6_visibleOnes 1 = .ok (.istore_n 1, 1) := by decide +kernel
theorem dX6_visibleOnes_2 : decode cX6_visibleOnes 2 = .ok (.iconst 0, 1) := by decide +kernel
theorem dX6_visibleOnes_3 : decode cX6_visibleOnes 3 = .ok (.istore_n 2, 1) := by decide +kernel
theorem dX6_visibleOnes_4 : decode cX6_visibleOnes 4 = .ok (.iload_n 2, 1) := by decide +kernel
theorem dX6_visibleOnes_5 : decode cX6_visibleOnes 5 = .ok (.aload_n 0, 1) := by decide +kernel
theorem dX6_visibleOnes_6 : decode cX6_visibleOnes 6 = .ok (.getfield 16, 3) := by decide +kernel
theorem dX6_visibleOnes_9 : decode cX6_visibleOnes 9 = .ok (.iconst 0, 1) := by decide +kernel
theorem dX6_visibleOnes_10 : decode cX6_visibleOnes 10 = .ok (.iaload, 1) := by decide +kernel
theorem dX6_visibleOnes_11 : decode cX6_visibleOnes 11 = .ok (.if_icmp .ge 27, 3) := by decide +kernel
theorem dX6_visibleOnes_14 : decode cX6_visibleOnes 14 = .ok (.iload_n 1, 1) := by decide +kernel
theorem dX6_visibleOnes_15 : decode cX6_visibleOnes 15 = .ok (.aload_n 0, 1) := by decide +kernel
theorem dX6_visibleOnes_16 : decode cX6_visibleOnes 16 = .ok (.iload_n 2, 1) := by decide +kernel
theorem dX6_visibleOnes_17 : decode cX6_visibleOnes 17 = .ok (.invokevirtual 50, 3) := by decide +kernel
theorem dX6_visibleOnes_20 : decode cX6_visibleOnes 20 = .ok (.ifCond .eq 9, 3) := by decide +kernel
theorem dX6_visibleOnes_23 : decode cX6_visibleOnes 23 = .ok (.iconst 1, 1) := by decide +kernel
theorem dX6_visibleOnes_24 : decode cX6_visibleOnes 24 = .ok (.iload_n 2, 1) := by decide +kernel
theorem dX6_visibleOnes_25 : decode cX6_visibleOnes 25 = .ok (.ishl, 1) := by decide +kernel
theorem dX6_visibleOnes_26 : decode cX6_visibleOnes 26 = .ok (.goto 4, 3) := by decide +kernel
theorem dX6_visibleOnes_29 : decode cX6_visibleOnes 29 = .ok (.iconst 0, 1) := by decide +kernel
theorem dX6_visibleOnes_30 : decode cX6_visibleOnes 30 = .ok (.ior, 1) := by decide +kernel
theorem dX6_visibleOnes_31 : decode cX6_visibleOnes 31 = .ok (.istore_n 1, 1) := by decide +kernel
theorem dX6_visibleOnes_32 : decode cX6_visibleOnes 32 = .ok (.iinc 2 1, 3) := by decide +kernel
theorem dX6_visibleOnes_35 : decode cX6_visibleOnes 35 = .ok (.goto (-31), 3) := by decide +kernel
theorem dX6_visibleOnes_38 : decode cX6_visibleOnes 38 = .ok (.iload_n 1, 1) := by decide +kernel
theorem dX6_visibleOnes_39 : decode cX6_visibleOnes 39 = .ok (.ireturn, 1) := by decide +kernel
set_option maxRecDepth 20000 in
theorem ggX6_suitableOnes_X6_isTarget : GoodIn wsX6_suitableOnes wsX6_isTarget := goodIn_r _ [6, 7, 8, 9, 5, 10, 11, 12, 13, 14, 1, 15, 16, 17, 18, 27, 28, 29, 30, 31, 32, 33, 34, 35, 36, 37, 38, 39, 40, 41, 42, 43] (by decide +kernel) (by decide +kernel)
set_option maxRecDepth 20000 in
theorem gX6_suitableOnes_X6_isTarget : GoodIn wsX6_suitableOnes (wsV RX6 56 RX6 yX6_isTarget wsX6_isTarget) := goodIn_app (goodIn_of _ (by decide +kernel)) ggX6_suitableOnes_X6_isTarget
set_option maxRecDepth 20000 in
theorem ggX6_suitableOnes_X6_suits : GoodIn wsX6_suitableOnes wsX6_suits := goodIn_r _ [22, 7, 8, 9, 5, 10, 11, 12, 13, 14, 1, 15, 16, 17, 18, 23, 24, 25, 26, 2, 3, 4, 6, 27, 28, 29, 30, 31, 32, 33, 34, 35, 36, 37, 38, 39, 40, 41, 42, 43] (by decide +kernel) (by decide +kernel)
set_option maxRecDepth 20000 in
theorem gX6_suitableOnes_X6_suits : GoodIn wsX6_suitableOnes (wsV RX6 59 RX6 yX6_suits wsX6_suits) := goodIn_app (goodIn_of _ (by decide +kernel)) ggX6_suitableOnes_X6_suits
theorem dX6_suitableOnes_0 : decode cX6_suitableOnes 0 = .ok (.iconst 0, 1) := by decide +kernel
theorem dX6_suitableOnes_1 : decode cX6_suitableOnes 1 = .ok (.istore_n 2, 1) := by decide +kernel
theorem dX6_suitableOnes_2 : decode cX6_suitableOnes 2 = .ok (.iconst 0, 1) := by decide +kernel
theorem dX6_suitableOnes_3 : decode cX6_suitableOnes 3 = .ok (.istore_n 3, 1) := by decide +kernel
theorem dX6_suitableOnes_4 : decode cX6_suitableOnes 4 = .ok (.iload_n 3, 1) := by decide +kernel
theorem dX6_suitableOnes_5 : decode cX6_suitableOnes 5 = .ok (.aload_n 0, 1) := by decide +kernel
theorem dX6_suitableOnes_6 : decode cX6_suitableOnes 6 = .ok (.getfield 16, 3) := by decide +kernel
theorem dX6_suitableOnes_9 : decode cX6_suitableOnes 9 = .ok (.iconst 0, 1) := by decide +kernel
theorem dX6_suitableOnes_10 : decode cX6_suitableOnes 10 = .ok (.iaload, 1) := by decide +kernel
theorem dX6_suitableOnes_11 : decode cX6_suitableOnes 11 = .ok (.if_icmp .ge 43, 3) := by decide +kernel
theorem dX6_suitableOnes_14 : decode cX6_suitableOnes 14 = .ok (.iload_n 2, 1) := by decide +kernel
theorem dX6_suitableOnes_15 : decode cX6_suitableOnes 15 = .ok (.iload_n 1, 1) := by decide +kernel
theorem dX6_suitableOnes_16 : decode cX6_suitableOnes 16 = .ok (.ifCond .ge 14, 3) := by decide +kernel
theorem dX6_suitableOnes_19 : decode cX6_suitableOnes 19 = .ok (.aload_n 0, 1) := by decide +kernel
theorem dX6_suitableOnes_20 : decode cX6_suitableOnes 20 = .ok (.iload_n 3, 1) := by decide +kernel
theorem dX6_suitableOnes_21 : decode cX6_suitableOnes 21 = .ok (.invokevirtual 56, 3) := by decide +kernel
theorem dX6_suitableOnes_24 : decode cX6_suitableOnes 24 = .ok (.ifCond .eq 21, 3) := by decide +kernel
theorem dX6_suitableOnes_27 : decode cX6_suitableOnes 27 = .ok (.goto 12, 3) := by decide +kernel
theorem dX6_suitableOnes_30 : decode cX6_suitableOnes 30 = .ok (.aload_n 0, 1) := by decide +kernel
theorem dX6_suitableOnes_31 : decode cX6_suitableOnes 31 = .ok (.iload_n 3, 1) := by decide +kernel
theorem dX6_suitableOnes_32 : decode cX6_suitableOnes 32 = .ok (.iload_n 1, 1) := by decide +kernel
theorem dX6_suitableOnes_33 : decode cX6_suitableOnes 33 = .ok (.invokevirtual 59, 3) := by decide +kernel
theorem dX6_suitableOnes_36 : decode cX6_suitableOnes 36 = .ok (.ifCond .eq 9, 3) := by decide +kernel
theorem dX6_suitableOnes_39 : decode cX6_suitableOnes 39 = .ok (.iconst 1, 1) := by decide +kernel
theorem dX6_suitableOnes_40 : decode cX6_suitableOnes 40 = .ok (.iload_n 3, 1) := by decide +kernel
theorem dX6_suitableOnes_41 : decode cX6_suitableOnes 41 = .ok (.ishl, 1) := by decide +kernel
theorem dX6_suitableOnes_42 : decode cX6_suitableOnes 42 = .ok (.goto 4, 3) := by decide +kernel
theorem dX6_suitableOnes_45 : decode cX6_suitableOnes 45 = .ok (.iconst 0, 1) := by decide +kernel
theorem dX6_suitableOnes_46 : decode cX6_suitableOnes 46 = .ok (.ior, 1) := by decide +kernel
theorem dX6_suitableOnes_47 : decode cX6_suitableOnes 47 = .ok (.istore_n 2, 1) := by decide +kernel
theorem dX6_suitableOnes_48 : decode cX6_suitableOnes 48 = .ok (.iinc 3 1, 3) := by decide +kernel
theorem dX6_suitableOnes_51 : decode cX6_suitableOnes 51 = .ok (.goto (-47), 3) := by decide +kernel
theorem dX6_suitableOnes_54 : decode cX6_suitableOnes 54 = .ok (.iload_n 2, 1) := by decide +kernel
theorem dX6_suitableOnes_55 : decode cX6_suitableOnes 55 = .ok (.ireturn, 1) := by decide +kernel
set_option maxRecDepth 20000 in
theorem ggX6_fittingOnes_X6_of : GoodIn wsX6_fittingOnes wsX6_of := goodIn_r _ [6, 1, 7, 8, 9, 10, 11, 12, 13, 14, 15, 16, 17, 18, 19, 20, 21, 22, 23] (by decide +kernel) (by decide +kernel)
set_option maxRecDepth 20000 in
theorem gX6_fittingOnes_X6_of : GoodIn wsX6_fittingOnes (wsV RX6 42 RX6 yX6_of wsX6_of) := goodIn_app (goodIn_of _ (by decide +kernel)) ggX6_fittingOnes_X6_of
theorem dX6_fittingOnes_0 : decode cX6_fittingOnes 0 = .ok (.iconst 0, 1) := by decide +kernel
theorem dX6_fittingOnes_1 : decode cX6_fittingOnes 1 = .ok (.istore_n 3, 1) := by decide +kernel
theorem dX6_fittingOnes_2 : decode cX6_fittingOnes 2 = .ok (.iconst 0, 1) := by decide +kernel
theorem dX6_fittingOnes_3 : decode cX6_fittingOnes 3 = .ok (.istore 4, 2) := by decide +kernel
theorem dX6_fittingOnes_5 : decode cX6_fittingOnes 5 = .ok (.iload 4, 2) := by decide +kernel
theorem dX6_fittingOnes_7 : decode cX6_fittingOnes 7 = .ok (.aload_n 0, 1) := by decide +kernel
theorem dX6_fittingOnes_8 : decode cX6_fittingOnes 8 = .ok (.getfield 16, 3) := by decide +kernel
theorem dX6_fittingOnes_11 : decode cX6_fittingOnes 11 = .ok (.iconst 0, 1) := by decide +kernel
theorem dX6_fittingOnes_12 : decode cX6_fittingOnes 12 = .ok (.iaload, 1) := by decide +kernel
theorem dX6_fittingOnes_13 : decode cX6_fittingOnes 13 = .ok (.if_icmp .ge 46, 3) := by decide +kernel
theorem dX6_fittingOnes_16 : decode cX6_fittingOnes 16 = .ok (.iload_n 3, 1) := by decide +kernel
theorem dX6_fittingOnes_17 : decode cX6_fittingOnes 17 = .ok (.aload_n 0, 1) := by decide +kernel
theorem dX6_fittingOnes_18 : decode cX6_fittingOnes 18 = .ok (.iload 4, 2) := by decide +kernel
theorem dX6_fittingOnes_20 : decode cX6_fittingOnes 20 = .ok (.iconst 0, 1) := by decide +kernel
theorem dX6_fittingOnes_21 : decode cX6_fittingOnes 21 = .ok (.invokevirtual 42, 3) := by decide +kernel
theorem dX6_fittingOnes_24 : decode cX6_fittingOnes 24 = .ok (.iload_n 1, 1) := by decide +kernel
theorem dX6_fittingOnes_25 : decode cX6_fittingOnes 25 = .ok (.if_icmp .ne 25, 3) := by decide +kernel
theorem dX6_fittingOnes_28 : decode cX6_fittingOnes 28 = .ok (.iload_n 2, 1) := by decide +kernel
theorem dX6_fittingOnes_29 : decode cX6_fittingOnes 29 = .ok (.ifCond .lt 14, 3) := by decide +kernel
theorem dX6_fittingOnes_32 : decode cX6_fittingOnes 32 = .ok (.aload_n 0, 1) := by decide +kernel
theorem dX6_fittingOnes_33 : decode cX6_fittingOnes 33 = .ok (.iload 4, 2) := by decide +kernel
theorem dX6_fittingOnes_35 : decode cX6_fittingOnes 35 = .ok (.iconst 1, 1) := by decide +kernel
theorem dX6_fittingOnes_36 : decode cX6_fittingOnes 36 = .ok (.invokevirtual 42, 3) := by decide +kernel
theorem dX6_fittingOnes_39 : decode cX6_fittingOnes 39 = .ok (.iload_n 2, 1) := by decide +kernel
theorem dX6_fittingOnes_40 : decode cX6_fittingOnes 40 = .ok (.if_icmp .ne 10, 3) := by decide +kernel
theorem dX6_fittingOnes_43 : decode cX6_fittingOnes 43 = .ok (.iconst 1, 1) := by decide +kernel
theorem dX6_fittingOnes_44 : decode cX6_fittingOnes 44 = .ok (.iload 4, 2) := by decide +kernel
theorem dX6_fittingOnes_46 : decode cX6_fittingOnes 46 = .ok (.ishl, 1) := by decide +kernel
theorem dX6_fittingOnes_47 : decode cX6_fittingOnes 47 = .ok (.goto 4, 3) := by decide +kernel
theorem dX6_fittingOnes_50 : decode cX6_fittingOnes 50 = .ok (.iconst 0, 1) := by decide +kernel
theorem dX6_fittingOnes_51 : decode cX6_fittingOnes 51 = .ok (.ior, 1) := by decide +kernel
theorem dX6_fittingOnes_52 : decode cX6_fittingOnes 52 = .ok (.istore_n 3, 1) := by decide +kernel
theorem dX6_fittingOnes_53 : decode cX6_fittingOnes 53 = .ok (.iinc 4 1, 3) := by decide +kernel
theorem dX6_fittingOnes_56 : decode cX6_fittingOnes 56 = .ok (.goto (-51), 3) := by decide +kernel
theorem dX6_fittingOnes_59 : decode cX6_fittingOnes 59 = .ok (.iload_n 3, 1) := by decide +kernel
theorem dX6_fittingOnes_60 : decode cX6_fittingOnes 60 = .ok (.ireturn, 1) := by decide +kernel
theorem dX6_size_0 : decode cX6_size 0 = .ok (.iconst 0, 1) := by decide +kernel
theorem dX6_size_1 : decode cX6_size 1 = .ok (.istore_n 1, 1) := by decide +kernel
theorem dX6_size_2 : decode cX6_size 2 = .ok (.iload_n 0, 1) := by decide +kernel
theorem dX6_size_3 : decode cX6_size 3 = .ok (.istore_n 2, 1) := by decide +kernel
theorem dX6_size_4 : decode cX6_size 4 = .ok (.iload_n 2, 1) := by decide +kernel
theorem dX6_size_5 : decode cX6_size 5 = .ok (.ifCond .le 16, 3) := by decide +kernel
theorem dX6_size_8 : decode cX6_size 8 = .ok (.iload_n 1, 1) := by decide +kernel
theorem dX6_size_9 : decode cX6_size 9 = .ok (.iload_n 2, 1) := by decide +kernel
theorem dX6_size_10 : decode cX6_size 10 = .ok (.iconst 2, 1) := by decide +kernel
theorem dX6_size_11 : decode cX6_size 11 = .ok (.irem, 1) := by decide +kernel
theorem dX6_size_12 : decode cX6_size 12 = .ok (.iadd, 1) := by decide +kernel
theorem dX6_size_13 : decode cX6_size 13 = .ok (.istore_n 1, 1) := by decide +kernel
theorem dX6_size_14 : decode cX6_size 14 = .ok (.iload_n 2, 1) := by decide +kernel
theorem dX6_size_15 : decode cX6_size 15 = .ok (.iconst 2, 1) := by decide +kernel
theorem dX6_size_16 : decode cX6_size 16 = .ok (.idiv, 1) := by decide +kernel
theorem dX6_size_17 : decode cX6_size 17 = .ok (.istore_n 2, 1) := by decide +kernel
theorem dX6_size_18 : decode cX6_size 18 = .ok (.goto (-14), 3) := by decide +kernel
theorem dX6_size_21 : decode cX6_size 21 = .ok (.iload_n 1, 1) := by decide +kernel
theorem dX6_size_22 : decode cX6_size 22 = .ok (.ireturn, 1) := by decide +kernel
theorem dX6_lowest_0 : decode cX6_lowest 0 = .ok (.iconst 0, 1) := by decide +kernel
theorem dX6_lowest_1 : decode cX6_lowest 1 = .ok (.istore_n 1, 1) := by decide +kernel
theorem dX6_lowest_2 : decode cX6_lowest 2 = .ok (.iload_n 0, 1) := by decide +kernel
theorem dX6_lowest_3 : decode cX6_lowest 3 = .ok (.iload_n 1, 1) := by decide +kernel
theorem dX6_lowest_4 : decode cX6_lowest 4 = .ok (.ishr, 1) := by decide +kernel
theorem dX6_lowest_5 : decode cX6_lowest 5 = .ok (.iconst 1, 1) := by decide +kernel
theorem dX6_lowest_6 : decode cX6_lowest 6 = .ok (.iand, 1) := by decide +kernel
theorem dX6_lowest_7 : decode cX6_lowest 7 = .ok (.ifCond .ne 9, 3) := by decide +kernel
theorem dX6_lowest_10 : decode cX6_lowest 10 = .ok (.iinc 1 1, 3) := by decide +kernel
theorem dX6_lowest_13 : decode cX6_lowest 13 = .ok (.goto (-11), 3) := by decide +kernel
theorem dX6_lowest_16 : decode cX6_lowest 16 = .ok (.iload_n 1, 1) := by decide +kernel
theorem dX6_lowest_17 : decode cX6_lowest 17 = .ok (.ireturn, 1) := by decide +kernel
theorem dX6_isNoun_0 : decode cX6_isNoun 0 = .ok (.iload_n 0, 1) := by decide +kernel
theorem dX6_isNoun_1 : decode cX6_isNoun 1 = .ok (.bipush 6, 2) := by decide +kernel
theorem dX6_isNoun_3 : decode cX6_isNoun 3 = .ok (.if_icmp .ge 7, 3) := by decide +kernel
theorem dX6_isNoun_6 : decode cX6_isNoun 6 = .ok (.iconst 1, 1) := by decide +kernel
theorem dX6_isNoun_7 : decode cX6_isNoun 7 = .ok (.goto 4, 3) := by decide +kernel
theorem dX6_isNoun_10 : decode cX6_isNoun 10 = .ok (.iconst 0, 1) := by decide +kernel
theorem dX6_isNoun_11 : decode cX6_isNoun 11 = .ok (.ireturn, 1) := by decide +kernel
set_option maxRecDepth 20000 in
theorem ggX6_isAdjective_X6_in : GoodIn wsX6_isAdjective wsX6_in := goodIn_r _ [4] (by decide +kernel) (by decide +kernel)
set_option maxRecDepth 20000 in
theorem gX6_isAdjective_X6_in : GoodIn wsX6_isAdjective (va_wsS RX6 38 yX6_in wsX6_in) := goodIn_app (goodIn_of _ (by decide +kernel)) ggX6_isAdjective_X6_in
theorem dX6_isAdjective_0 : decode cX6_isAdjective 0 = .ok (.iload_n 0, 1) := by decide +kernel
theorem dX6_isAdjective_1 : decode cX6_isAdjective 1 = .ok (.bipush 6, 2) := by decide +kernel
theorem dX6_isAdjective_3 : decode cX6_isAdjective 3 = .ok (.bipush 9, 2) := by decide +kernel
theorem dX6_isAdjective_5 : decode cX6_isAdjective 5 = .ok (.invokestatic 38, 3) := by decide +kernel
theorem dX6_isAdjective_8 : decode cX6_isAdjective 8 = .ok (.ireturn, 1) := by decide +kernel
set_option maxRecDepth 20000 in
theorem ggX6_within_X6_isAdjective : GoodIn wsX6_within wsX6_isAdjective := goodIn_r _ [4, 5, 6, 3, 7] (by decide +kernel) (by decide +kernel)
set_option maxRecDepth 20000 in
theorem gX6_within_X6_isAdjective : GoodIn wsX6_within (va_wsS RX6 63 yX6_isAdjective wsX6_isAdjective) := goodIn_app (goodIn_of _ (by decide +kernel)) ggX6_within_X6_isAdjective
set_option maxRecDepth 20000 in
theorem ggX6_within_X6_isNoun : GoodIn wsX6_within wsX6_isNoun := goodIn_r _ [10] (by decide +kernel) (by decide +kernel)
set_option maxRecDepth 20000 in
theorem gX6_within_X6_isNoun : GoodIn wsX6_within (va_wsS RX6 66 yX6_isNoun wsX6_isNoun) := goodIn_app (goodIn_of _ (by decide +kernel)) ggX6_within_X6_isNoun
theorem dX6_within_0 : decode cX6_within 0 = .ok (.iload_n 0, 1) := by decide +kernel
theorem dX6_within_1 : decode cX6_within 1 = .ok (.bipush 21, 2) := by decide +kernel
theorem dX6_within_3 : decode cX6_within 3 = .ok (.if_icmp .ne 7, 3) := by decide +kernel
theorem dX6_within_6 : decode cX6_within 6 = .ok (.iload_n 1, 1) := by decide +kernel
theorem dX6_within_7 : decode cX6_within 7 = .ok (.goto 26, 3) := by decide +kernel
theorem dX6_within_10 : decode cX6_within 10 = .ok (.iload_n 0, 1) := by decide +kernel
theorem dX6_within_11 : decode cX6_within 11 = .ok (.invokestatic 63, 3) := by decide +kernel
theorem dX6_within_14 : decode cX6_within 14 = .ok (.ifCond .eq 7, 3) := by decide +kernel
theorem dX6_within_17 : decode cX6_within 17 = .ok (.iload_n 2, 1) := by decide +kernel
theorem dX6_within_18 : decode cX6_within 18 = .ok (.goto 15, 3) := by decide +kernel
theorem dX6_within_21 : decode cX6_within 21 = .ok (.iload_n 0, 1) := by decide +kernel
theorem dX6_within_22 : decode cX6_within 22 = .ok (.invokestatic 66, 3) := by decide +kernel
theorem dX6_within_25 : decode cX6_within 25 = .ok (.ifCond .eq 7, 3) := by decide +kernel
theorem dX6_within_28 : decode cX6_within 28 = .ok (.iload_n 3, 1) := by decide +kernel
theorem dX6_within_29 : decode cX6_within 29 = .ok (.goto 4, 3) := by decide +kernel
theorem dX6_within_32 : decode cX6_within 32 = .ok (.iconst (-1), 1) := by decide +kernel
theorem dX6_within_33 : decode cX6_within 33 = .ok (.ireturn, 1) := by decide +kernel
set_option maxRecDepth 20000 in
theorem ggX6_next_X6_in : GoodIn wsX6_next wsX6_in := goodIn_r _ [5] (by decide +kernel) (by decide +kernel)
set_option maxRecDepth 20000 in
theorem gX6_next_X6_in : GoodIn wsX6_next (va_wsS RX6 38 yX6_in wsX6_in) := goodIn_app (goodIn_of _ (by decide +kernel)) ggX6_next_X6_in
set_option maxRecDepth 20000 in
theorem ggX6_next_X6_isAdjective : GoodIn wsX6_next wsX6_isAdjective := goodIn_r _ [8, 2, 3, 4, 5] (by decide +kernel) (by decide +kernel)
set_option maxRecDepth 20000 in
theorem gX6_next_X6_isAdjective : GoodIn wsX6_next (va_wsS RX6 63 yX6_isAdjective wsX6_isAdjective) := goodIn_app (goodIn_of _ (by decide +kernel)) ggX6_next_X6_isAdjective
set_option maxRecDepth 20000 in
theorem ggX6_next_X6_within : GoodIn wsX6_next wsX6_within := goodIn_r _ [11, 6, 7, 4, 8, 2, 3, 5, 12, 13, 14] (by decide +kernel) (by decide +kernel)
set_option maxRecDepth 20000 in
theorem gX6_next_X6_within : GoodIn wsX6_next (va_wsS RX6 69 yX6_within wsX6_within) := goodIn_app (goodIn_of _ (by decide +kernel)) ggX6_next_X6_within
set_option maxRecDepth 20000 in
theorem ggX6_next_X6_isNoun : GoodIn wsX6_next wsX6_isNoun := goodIn_r _ [14] (by decide +kernel) (by decide +kernel)
set_option maxRecDepth 20000 in
theorem gX6_next_X6_isNoun : GoodIn wsX6_next (va_wsS RX6 66 yX6_isNoun wsX6_isNoun) := goodIn_app (goodIn_of _ (by decide +kernel)) ggX6_next_X6_isNoun
theorem dX6_next_0 : decode cX6_next 0 = .ok (.iload_n 1, 1) := by decide +kernel
theorem dX6_next_1 : decode cX6_next 1 = .ok (.tableswitch 381 0 13 #[71, 141, 176, 204, 221, 240, 254, 282, 291, 313, 333, 381, 347, 361], 71) := by decide +kernel
theorem dX6_next_72 : decode cX6_next 72 = .ok (.iload_n 2, 1) := by decide +kernel
theorem dX6_next_73 : decode cX6_next 73 = .ok (.bipush 10, 2) := by decide +kernel
theorem dX6_next_75 : decode cX6_next 75 = .ok (.bipush 14, 2) := by decide +kernel
theorem dX6_next_77 : decode cX6_next 77 = .ok (.invokestatic 38, 3) := by decide +kernel
theorem dX6_next_80 : decode cX6_next 80 = .ok (.ifCond .eq 7, 3) := by decide +kernel
theorem dX6_next_83 : decode cX6_next 83 = .ok (.iconst 1, 1) := by decide +kernel
theorem dX6_next_84 : decode cX6_next 84 = .ok (.goto 57, 3) := by decide +kernel
theorem dX6_next_87 : decode cX6_next 87 = .ok (.iload_n 2, 1) := by decide +kernel
theorem dX6_next_88 : decode cX6_next 88 = .ok (.bipush 15, 2) := by decide +kernel
theorem dX6_next_90 : decode cX6_next 90 = .ok (.bipush 16, 2) := by decide +kernel
theorem dX6_next_92 : decode cX6_next 92 = .ok (.invokestatic 38, 3) := by decide +kernel
theorem dX6_next_95 : decode cX6_next 95 = .ok (.ifCond .eq 8, 3) := by decide +kernel
theorem dX6_next_98 : decode cX6_next 98 = .ok (.bipush 11, 2) := by decide +kernel
theorem dX6_next_100 : decode cX6_next 100 = .ok (.goto 41, 3) := by decide +kernel
theorem dX6_next_103 : decode cX6_next 103 = .ok (.aload_n 0, 1) := by decide +kernel
theorem dX6_next_104 : decode cX6_next 104 = .ok (.getfield 16, 3) := by decide +kernel
theorem dX6_next_107 : decode cX6_next 107 = .ok (.bipush 55, 2) := by decide +kernel
theorem dX6_next_109 : decode cX6_next 109 = .ok (.iaload, 1) := by decide +kernel
theorem dX6_next_110 : decode cX6_next 110 = .ok (.ifCond .ne 7, 3) := by decide +kernel
theorem dX6_next_113 : decode cX6_next 113 = .ok (.iconst (-1), 1) := by decide +kernel
theorem dX6_next_114 : decode cX6_next 114 = .ok (.goto 27, 3) := by decide +kernel
theorem dX6_next_117 : decode cX6_next 117 = .ok (.iload_n 2, 1) := by decide +kernel
theorem dX6_next_118 : decode cX6_next 118 = .ok (.bipush 21, 2) := by decide +kernel
theorem dX6_next_120 : decode cX6_next 120 = .ok (.if_icmp .ne 8, 3) := by decide +kernel
theorem dX6_next_123 : decode cX6_next 123 = .ok (.bipush 12, 2) := by decide +kernel
theorem dX6_next_125 : decode cX6_next 125 = .ok (.goto 16, 3) := by decide +kernel
theorem dX6_next_128 : decode cX6_next 128 = .ok (.iload_n 2, 1) := by decide +kernel
theorem dX6_next_129 : decode cX6_next 129 = .ok (.invokestatic 63, 3) := by decide +kernel
theorem dX6_next_132 : decode cX6_next 132 = .ok (.ifCond .eq 8, 3) := by decide +kernel
theorem dX6_next_135 : decode cX6_next 135 = .ok (.bipush 13, 2) := by decide +kernel
theorem dX6_next_137 : decode cX6_next 137 = .ok (.goto 4, 3) := by decide +kernel
theorem dX6_next_140 : decode cX6_next 140 = .ok (.iconst (-1), 1) := by decide +kernel
theorem dX6_next_141 : decode cX6_next 141 = .ok (.ireturn, 1) := by decide +kernel
theorem dX6_next_142 : decode cX6_next 142 = .ok (.iload_n 2, 1) := by decide +kernel
theorem dX6_next_143 : decode cX6_next 143 = .ok (.bipush 17, 2) := by decide +kernel
theorem dX6_next_145 : decode cX6_next 145 = .ok (.if_icmp .ne 7, 3) := by decide +kernel
theorem dX6_next_148 : decode cX6_next 148 = .ok (.iconst 2, 1) := by decide +kernel
theorem dX6_next_149 : decode cX6_next 149 = .ok (.goto 27, 3) := by decide +kernel
theorem dX6_next_152 : decode cX6_next 152 = .ok (.iload_n 2, 1) := by decide +kernel
theorem dX6_next_153 : decode cX6_next 153 = .ok (.bipush 22, 2) := by decide +kernel
theorem dX6_next_155 : decode cX6_next 155 = .ok (.if_icmp .eq 9, 3) := by decide +kernel
theorem dX6_next_158 : decode cX6_next 158 = .ok (.iload_n 2, 1) := by decide +kernel
theorem dX6_next_159 : decode cX6_next 159 = .ok (.bipush 23, 2) := by decide +kernel
theorem dX6_next_161 : decode cX6_next 161 = .ok (.if_icmp .ne 7, 3) := by decide +kernel
theorem dX6_next_164 : decode cX6_next 164 = .ok (.iconst 3, 1) := by decide +kernel
theorem dX6_next_165 : decode cX6_next 165 = .ok (.goto 11, 3) := by decide +kernel
theorem dX6_next_168 : decode cX6_next 168 = .ok (.iload_n 2, 1) := by decide +kernel
theorem dX6_next_169 : decode cX6_next 169 = .ok (.iconst 4, 1) := by decide +kernel
theorem dX6_next_170 : decode cX6_next 170 = .ok (.iconst 5, 1) := by decide +kernel
theorem dX6_next_171 : decode cX6_next 171 = .ok (.bipush 6, 2) := by decide +kernel
theorem dX6_next_173 : decode cX6_next 173 = .ok (.invokestatic 69, 3) := by decide +kernel
theorem dX6_next_176 : decode cX6_next 176 = .ok (.ireturn, 1) := by decide +kernel
theorem dX6_next_177 : decode cX6_next 177 = .ok (.iload_n 2, 1) := by decide +kernel
theorem dX6_next_178 : decode cX6_next 178 = .ok (.bipush 18, 2) := by decide +kernel
theorem dX6_next_180 : decode cX6_next 180 = .ok (.if_icmp .ne 8, 3) := by decide +kernel
theorem dX6_next_183 : decode cX6_next 183 = .ok (.bipush 7, 2) := by decide +kernel
theorem dX6_next_185 : decode cX6_next 185 = .ok (.goto 19, 3) := by decide +kernel
theorem dX6_next_188 : decode cX6_next 188 = .ok (.iload_n 3, 1) := by decide +kernel
theorem dX6_next_189 : decode cX6_next 189 = .ok (.ifCond .eq 14, 3) := by decide +kernel
theorem dX6_next_192 : decode cX6_next 192 = .ok (.iload_n 2, 1) := by decide +kernel
theorem dX6_next_193 : decode cX6_next 193 = .ok (.bipush 20, 2) := by decide +kernel
theorem dX6_next_195 : decode cX6_next 195 = .ok (.if_icmp .ne 8, 3) := by decide +kernel
theorem dX6_next_198 : decode cX6_next 198 = .ok (.bipush 8, 2) := by decide +kernel
theorem dX6_next_200 : decode cX6_next 200 = .ok (.goto 4, 3) := by decide +kernel
theorem dX6_next_203 : decode cX6_next 203 = .ok (.iconst (-1), 1) := by decide +kernel
theorem dX6_next_204 : decode cX6_next 204 = .ok (.ireturn, 1) := by decide +kernel
theorem dX6_next_205 : decode cX6_next 205 = .ok (.iload_n 3, 1) := by decide +kernel
theorem dX6_next_206 : decode cX6_next 206 = .ok (.ifCond .eq 14, 3) := by decide +kernel
theorem dX6_next_209 : decode cX6_next 209 = .ok (.iload_n 2, 1) := by decide +kernel
theorem dX6_next_210 : decode cX6_next 210 = .ok (.bipush 20, 2) := by decide +kernel
theorem dX6_next_212 : decode cX6_next 212 = .ok (.if_icmp .ne 8, 3) := by decide +kernel
theorem dX6_next_215 : decode cX6_next 215 = .ok (.bipush 8, 2) := by decide +kernel
theorem dX6_next_217 : decode cX6_next 217 = .ok (.goto 4, 3) := by decide +kernel
theorem dX6_next_220 : decode cX6_next 220 = .ok (.iconst (-1), 1) := by decide +kernel
theorem dX6_next_221 : decode cX6_next 221 = .ok (.ireturn, 1) := by decide +kernel
theorem dX6_next_222 : decode cX6_next 222 = .ok (.iload_n 2, 1) := by decide +kernel
theorem dX6_next_223 : decode cX6_next 223 = .ok (.bipush 21, 2) := by decide +kernel
theorem dX6_next_225 : decode cX6_next 225 = .ok (.if_icmp .ne 7, 3) := by decide +kernel
theorem dX6_next_228 : decode cX6_next 228 = .ok (.iconst (-1), 1) := by decide +kernel
theorem dX6_next_229 : decode cX6_next 229 = .ok (.goto 11, 3) := by decide +kernel
theorem dX6_next_232 : decode cX6_next 232 = .ok (.iload_n 2, 1) := by decide +kernel
theorem dX6_next_233 : decode cX6_next 233 = .ok (.iconst (-1), 1) := by decide +kernel
theorem dX6_next_234 : decode cX6_next 234 = .ok (.iconst 5, 1) := by decide +kernel
theorem dX6_next_235 : decode cX6_next 235 = .ok (.bipush 6, 2) := by decide +kernel
theorem dX6_next_237 : decode cX6_next 237 = .ok (.invokestatic 69, 3) := by decide +kernel
theorem dX6_next_240 : decode cX6_next 240 = .ok (.ireturn, 1) := by decide +kernel
theorem dX6_next_241 : decode cX6_next 241 = .ok (.iload_n 2, 1) := by decide +kernel
theorem dX6_next_242 : decode cX6_next 242 = .ok (.invokestatic 66, 3) := by decide +kernel
theorem dX6_next_245 : decode cX6_next 245 = .ok (.ifCond .eq 8, 3) := by decide +kernel
theorem dX6_next_248 : decode cX6_next 248 = .ok (.bipush 6, 2) := by decide +kernel
theorem dX6_next_250 : decode cX6_next 250 = .ok (.goto 4, 3) := by decide +kernel
theorem dX6_next_253 : decode cX6_next 253 = .ok (.iconst (-1), 1) := by decide +kernel
theorem dX6_next_254 : decode cX6_next 254 = .ok (.ireturn, 1) := by decide +kernel
theorem dX6_next_255 : decode cX6_next 255 = .ok (.iload_n 2, 1) := by decide +kernel
theorem dX6_next_256 : decode cX6_next 256 = .ok (.bipush 19, 2) := by decide +kernel
theorem dX6_next_258 : decode cX6_next 258 = .ok (.if_icmp .ne 8, 3) := by decide +kernel
theorem dX6_next_261 : decode cX6_next 261 = .ok (.bipush 7, 2) := by decide +kernel
theorem dX6_next_263 : decode cX6_next 263 = .ok (.goto 19, 3) := by decide +kernel
theorem dX6_next_266 : decode cX6_next 266 = .ok (.iload_n 3, 1) := by decide +kernel
theorem dX6_next_267 : decode cX6_next 267 = .ok (.ifCond .eq 14, 3) := by decide +kernel
theorem dX6_next_270 : decode cX6_next 270 = .ok (.iload_n 2, 1) := by decide +kernel
theorem dX6_next_271 : decode cX6_next 271 = .ok (.bipush 20, 2) := by decide +kernel
theorem dX6_next_273 : decode cX6_next 273 = .ok (.if_icmp .ne 8, 3) := by decide +kernel
theorem dX6_next_276 : decode cX6_next 276 = .ok (.bipush 8, 2) := by decide +kernel
theorem dX6_next_278 : decode cX6_next 278 = .ok (.goto 4, 3) := by decide +kernel
theorem dX6_next_281 : decode cX6_next 281 = .ok (.iconst (-1), 1) := by decide +kernel
theorem dX6_next_282 : decode cX6_next 282 = .ok (.ireturn, 1) := by decide +kernel
theorem dX6_next_283 : decode cX6_next 283 = .ok (.iload_n 2, 1) := by decide +kernel
theorem dX6_next_284 : decode cX6_next 284 = .ok (.iconst 4, 1) := by decide +kernel
theorem dX6_next_285 : decode cX6_next 285 = .ok (.iconst 5, 1) := by decide +kernel
theorem dX6_next_286 : decode cX6_next 286 = .ok (.bipush 6, 2) := by decide +kernel
theorem dX6_next_288 : decode cX6_next 288 = .ok (.invokestatic 69, 3) := by decide +kernel
theorem dX6_next_291 : decode cX6_next 291 = .ok (.ireturn, 1) := by decide +kernel
theorem dX6_next_292 : decode cX6_next 292 = .ok (.iload_n 2, 1) := by decide +kernel
theorem dX6_next_293 : decode cX6_next 293 = .ok (.bipush 22, 2) := by decide +kernel
theorem dX6_next_295 : decode cX6_next 295 = .ok (.if_icmp .ne 8, 3) := by decide +kernel
theorem dX6_next_298 : decode cX6_next 298 = .ok (.bipush 11, 2) := by decide +kernel
theorem dX6_next_300 : decode cX6_next 300 = .ok (.goto 13, 3) := by decide +kernel
theorem dX6_next_303 : decode cX6_next 303 = .ok (.iload_n 2, 1) := by decide +kernel
theorem dX6_next_304 : decode cX6_next 304 = .ok (.bipush 9, 2) := by decide +kernel
theorem dX6_next_306 : decode cX6_next 306 = .ok (.bipush 10, 2) := by decide +kernel
theorem dX6_next_308 : decode cX6_next 308 = .ok (.bipush 11, 2) := by decide +kernel
theorem dX6_next_310 : decode cX6_next 310 = .ok (.invokestatic 69, 3) := by decide +kernel
theorem dX6_next_313 : decode cX6_next 313 = .ok (.ireturn, 1) := by decide +kernel
theorem dX6_next_314 : decode cX6_next 314 = .ok (.iload_n 2, 1) := by decide +kernel
theorem dX6_next_315 : decode cX6_next 315 = .ok (.bipush 21, 2) := by decide +kernel
theorem dX6_next_317 : decode cX6_next 317 = .ok (.if_icmp .ne 7, 3) := by decide +kernel
theorem dX6_next_320 : decode cX6_next 320 = .ok (.iconst (-1), 1) := by decide +kernel
theorem dX6_next_321 : decode cX6_next 321 = .ok (.goto 12, 3) := by decide +kernel
theorem dX6_next_324 : decode cX6_next 324 = .ok (.iload_n 2, 1) := by decide +kernel
theorem dX6_next_325 : decode cX6_next 325 = .ok (.iconst (-1), 1) := by decide +kernel
theorem dX6_next_326 : decode cX6_next 326 = .ok (.bipush 10, 2) := by decide +kernel
theorem dX6_next_328 : decode cX6_next 328 = .ok (.bipush 11, 2) := by decide +kernel
theorem dX6_next_330 : decode cX6_next 330 = .ok (.invokestatic 69, 3) := by decide +kernel
theorem dX6_next_333 : decode cX6_next 333 = .ok (.ireturn, 1) := by decide +kernel
theorem dX6_next_334 : decode cX6_next 334 = .ok (.iload_n 2, 1) := by decide +kernel
theorem dX6_next_335 : decode cX6_next 335 = .ok (.invokestatic 66, 3) := by decide +kernel
theorem dX6_next_338 : decode cX6_next 338 = .ok (.ifCond .eq 8, 3) := by decide +kernel
theorem dX6_next_341 : decode cX6_next 341 = .ok (.bipush 11, 2) := by decide +kernel
theorem dX6_next_343 : decode cX6_next 343 = .ok (.goto 4, 3) := by decide +kernel
theorem dX6_next_346 : decode cX6_next 346 = .ok (.iconst (-1), 1) := by decide +kernel
theorem dX6_next_347 : decode cX6_next 347 = .ok (.ireturn, 1) := by decide +kernel
theorem dX6_next_348 : decode cX6_next 348 = .ok (.iload_n 2, 1) := by decide +kernel
theorem dX6_next_349 : decode cX6_next 349 = .ok (.invokestatic 63, 3) := by decide +kernel
theorem dX6_next_352 : decode cX6_next 352 = .ok (.ifCond .eq 8, 3) := by decide +kernel
theorem dX6_next_355 : decode cX6_next 355 = .ok (.bipush 13, 2) := by decide +kernel
theorem dX6_next_357 : decode cX6_next 357 = .ok (.goto 4, 3) := by decide +kernel
theorem dX6_next_360 : decode cX6_next 360 = .ok (.iconst (-1), 1) := by decide +kernel
theorem dX6_next_361 : decode cX6_next 361 = .ok (.ireturn, 1) := by decide +kernel
theorem dX6_next_362 : decode cX6_next 362 = .ok (.iload_n 2, 1) := by decide +kernel
theorem dX6_next_363 : decode cX6_next 363 = .ok (.bipush 24, 2) := by decide +kernel
theorem dX6_next_365 : decode cX6_next 365 = .ok (.if_icmp .eq 10, 3) := by decide +kernel
theorem dX6_next_368 : decode cX6_next 368 = .ok (.iload_n 2, 1) := by decide +kernel
theorem dX6_next_369 : decode cX6_next 369 = .ok (.invokestatic 66, 3) := by decide +kernel
theorem dX6_next_372 : decode cX6_next 372 = .ok (.ifCond .eq 8, 3) := by decide +kernel
theorem dX6_next_375 : decode cX6_next 375 = .ok (.bipush 11, 2) := by decide +kernel
theorem dX6_next_377 : decode cX6_next 377 = .ok (.goto 4, 3) := by decide +kernel
theorem dX6_next_380 : decode cX6_next 380 = .ok (.iconst (-1), 1) := by decide +kernel
theorem dX6_next_381 : decode cX6_next 381 = .ok (.ireturn, 1) := by decide +kernel
theorem dX6_next_382 : decode cX6_next 382 = .ok (.iconst (-1), 1) := by decide +kernel
theorem dX6_next_383 : decode cX6_next 383 = .ok (.ireturn, 1) := by decide +kernel
set_option maxRecDepth 20000 in
theorem ggX6_goesOn_X6_next : GoodIn wsX6_goesOn wsX6_next := goodIn_r _ [5, 6, 7, 8, 4, 9, 10, 11, 12, 13, 14, 15, 16, 17, 18, 19, 20, 21, 22, 23, 24, 25, 26, 27, 28, 29, 30, 31, 32, 33, 34, 35] (by decide +kernel) (by decide +kernel)
set_option maxRecDepth 20000 in
theorem gX6_goesOn_X6_next : GoodIn wsX6_goesOn (wsV RX6 73 RX6 yX6_next wsX6_next) := goodIn_app (goodIn_of _ (by decide +kernel)) ggX6_goesOn_X6_next
theorem dX6_goesOn_0 : decode cX6_goesOn 0 = .ok (.iconst 0, 1) := by decide +kernel
theorem dX6_goesOn_1 : decode cX6_goesOn 1 = .ok (.istore_n 3, 1) := by decide +kernel
theorem dX6_goesOn_2 : decode cX6_goesOn 2 = .ok (.iconst 0, 1) := by decide +kernel
theorem dX6_goesOn_3 : decode cX6_goesOn 3 = .ok (.istore 4, 2) := by decide +kernel
theorem dX6_goesOn_5 : decode cX6_goesOn 5 = .ok (.iload 4, 2) := by decide +kernel
theorem dX6_goesOn_7 : decode cX6_goesOn 7 = .ok (.bipush 25, 2) := by decide +kernel
theorem dX6_goesOn_9 : decode cX6_goesOn 9 = .ok (.if_icmp .ge 30, 3) := by decide +kernel
theorem dX6_goesOn_12 : decode cX6_goesOn 12 = .ok (.iload_n 3, 1) := by decide +kernel
theorem dX6_goesOn_13 : decode cX6_goesOn 13 = .ok (.ifCond .ne 14, 3) := by decide +kernel
theorem dX6_goesOn_16 : decode cX6_goesOn 16 = .ok (.aload_n 0, 1) := by decide +kernel
theorem dX6_goesOn_17 : decode cX6_goesOn 17 = .ok (.iload_n 1, 1) := by decide +kernel
theorem dX6_goesOn_18 : decode cX6_goesOn 18 = .ok (.iload 4, 2) := by decide +kernel
theorem dX6_goesOn_20 : decode cX6_goesOn 20 = .ok (.iload_n 2, 1) := by decide +kernel
theorem dX6_goesOn_21 : decode cX6_goesOn 21 = .ok (.invokevirtual 73, 3) := by decide +kernel
theorem dX6_goesOn_24 : decode cX6_goesOn 24 = .ok (.ifCond .lt 7, 3) := by decide +kernel
theorem dX6_goesOn_27 : decode cX6_goesOn 27 = .ok (.iconst 1, 1) := by decide +kernel
theorem dX6_goesOn_28 : decode cX6_goesOn 28 = .ok (.goto 4, 3) := by decide +kernel
theorem dX6_goesOn_31 : decode cX6_goesOn 31 = .ok (.iconst 0, 1) := by decide +kernel
theorem dX6_goesOn_32 : decode cX6_goesOn 32 = .ok (.istore_n 3, 1) := by decide +kernel
theorem dX6_goesOn_33 : decode cX6_goesOn 33 = .ok (.iinc 4 1, 3) := by decide +kernel
theorem dX6_goesOn_36 : decode cX6_goesOn 36 = .ok (.goto (-31), 3) := by decide +kernel
theorem dX6_goesOn_39 : decode cX6_goesOn 39 = .ok (.iload_n 3, 1) := by decide +kernel
theorem dX6_goesOn_40 : decode cX6_goesOn 40 = .ok (.ireturn, 1) := by decide +kernel
theorem dX6_lengthOf_0 : decode cX6_lengthOf 0 = .ok (.aload_n 0, 1) := by decide +kernel
theorem dX6_lengthOf_1 : decode cX6_lengthOf 1 = .ok (.getfield 13, 3) := by decide +kernel
theorem dX6_lengthOf_4 : decode cX6_lengthOf 4 = .ok (.iload_n 1, 1) := by decide +kernel
theorem dX6_lengthOf_5 : decode cX6_lengthOf 5 = .ok (.iconst 1, 1) := by decide +kernel
theorem dX6_lengthOf_6 : decode cX6_lengthOf 6 = .ok (.iadd, 1) := by decide +kernel
theorem dX6_lengthOf_7 : decode cX6_lengthOf 7 = .ok (.iaload, 1) := by decide +kernel
theorem dX6_lengthOf_8 : decode cX6_lengthOf 8 = .ok (.aload_n 0, 1) := by decide +kernel
theorem dX6_lengthOf_9 : decode cX6_lengthOf 9 = .ok (.getfield 13, 3) := by decide +kernel
theorem dX6_lengthOf_12 : decode cX6_lengthOf 12 = .ok (.iload_n 1, 1) := by decide +kernel
theorem dX6_lengthOf_13 : decode cX6_lengthOf 13 = .ok (.iaload, 1) := by decide +kernel
theorem dX6_lengthOf_14 : decode cX6_lengthOf 14 = .ok (.isub, 1) := by decide +kernel
theorem dX6_lengthOf_15 : decode cX6_lengthOf 15 = .ok (.ireturn, 1) := by decide +kernel
set_option maxRecDepth 20000 in
theorem ggX6_spells_X6_lengthOf : GoodIn wsX6_spells wsX6_lengthOf := goodIn_r _ [8, 3, 9, 10, 11, 12, 13, 14, 15, 16, 17, 18, 19, 20, 21, 22, 23, 24, 25] (by decide +kernel) (by decide +kernel)
set_option maxRecDepth 20000 in
theorem gX6_spells_X6_lengthOf : GoodIn wsX6_spells (wsV RX6 77 RX6 yX6_lengthOf wsX6_lengthOf) := goodIn_app (goodIn_of _ (by decide +kernel)) ggX6_spells_X6_lengthOf
theorem dX6_spells_0 : decode cX6_spells 0 = .ok (.iload_n 3, 1) := by decide +kernel
theorem dX6_spells_1 : decode cX6_spells 1 = .ok (.aload_n 0, 1) := by decide +kernel
theorem dX6_spells_2 : decode cX6_spells 2 = .ok (.iload_n 1, 1) := by decide +kernel
theorem dX6_spells_3 : decode cX6_spells 3 = .ok (.invokevirtual 77, 3) := by decide +kernel
theorem dX6_spells_6 : decode cX6_spells 6 = .ok (.if_icmp .gt 7, 3) := by decide +kernel
theorem dX6_spells_9 : decode cX6_spells 9 = .ok (.iconst 1, 1) := by decide +kernel
theorem dX6_spells_10 : decode cX6_spells 10 = .ok (.goto 4, 3) := by decide +kernel
theorem dX6_spells_13 : decode cX6_spells 13 = .ok (.iconst 0, 1) := by decide +kernel
theorem dX6_spells_14 : decode cX6_spells 14 = .ok (.istore 4, 2) := by decide +kernel
theorem dX6_spells_16 : decode cX6_spells 16 = .ok (.iconst 0, 1) := by decide +kernel
theorem dX6_spells_17 : decode cX6_spells 17 = .ok (.istore 5, 2) := by decide +kernel
theorem dX6_spells_19 : decode cX6_spells 19 = .ok (.iload 5, 2) := by decide +kernel
theorem dX6_spells_21 : decode cX6_spells 21 = .ok (.iload_n 3, 1) := by decide +kernel
theorem dX6_spells_22 : decode cX6_spells 22 = .ok (.if_icmp .ge 47, 3) := by decide +kernel
theorem dX6_spells_25 : decode cX6_spells 25 = .ok (.iload 4, 2) := by decide +kernel
theorem dX6_spells_27 : decode cX6_spells 27 = .ok (.ifCond .eq 42, 3) := by decide +kernel
theorem dX6_spells_30 : decode cX6_spells 30 = .ok (.aload_n 0, 1) := by decide +kernel
theorem dX6_spells_31 : decode cX6_spells 31 = .ok (.getfield 25, 3) := by decide +kernel
theorem dX6_spells_34 : decode cX6_spells 34 = .ok (.iload_n 2, 1) := by decide +kernel
theorem dX6_spells_35 : decode cX6_spells 35 = .ok (.iload 5, 2) := by decide +kernel
theorem dX6_spells_37 : decode cX6_spells 37 = .ok (.iadd, 1) := by decide +kernel
theorem dX6_spells_38 : decode cX6_spells 38 = .ok (.iaload, 1) := by decide +kernel
theorem dX6_spells_39 : decode cX6_spells 39 = .ok (.aload_n 0, 1) := by decide +kernel
theorem dX6_spells_40 : decode cX6_spells 40 = .ok (.getfield 7, 3) := by decide +kernel
theorem dX6_spells_43 : decode cX6_spells 43 = .ok (.aload_n 0, 1) := by decide +kernel
theorem dX6_spells_44 : decode cX6_spells 44 = .ok (.getfield 13, 3) := by decide +kernel
theorem dX6_spells_47 : decode cX6_spells 47 = .ok (.iload_n 1, 1) := by decide +kernel
theorem dX6_spells_48 : decode cX6_spells 48 = .ok (.iaload, 1) := by decide +kernel
theorem dX6_spells_49 : decode cX6_spells 49 = .ok (.iload 5, 2) := by decide +kernel
theorem dX6_spells_51 : decode cX6_spells 51 = .ok (.iadd, 1) := by decide +kernel
theorem dX6_spells_52 : decode cX6_spells 52 = .ok (.iaload, 1) := by decide +kernel
theorem dX6_spells_53 : decode cX6_spells 53 = .ok (.if_icmp .ne 7, 3) := by decide +kernel
theorem dX6_spells_56 : decode cX6_spells 56 = .ok (.iconst 1, 1) := by decide +kernel
theorem dX6_spells_57 : decode cX6_spells 57 = .ok (.goto 4, 3) := by decide +kernel
theorem dX6_spells_60 : decode cX6_spells 60 = .ok (.iconst 0, 1) := by decide +kernel
theorem dX6_spells_61 : decode cX6_spells 61 = .ok (.istore 4, 2) := by decide +kernel
theorem dX6_spells_63 : decode cX6_spells 63 = .ok (.iinc 5 1, 3) := by decide +kernel
theorem dX6_spells_66 : decode cX6_spells 66 = .ok (.goto (-47), 3) := by decide +kernel
theorem dX6_spells_69 : decode cX6_spells 69 = .ok (.iload 4, 2) := by decide +kernel
theorem dX6_spells_71 : decode cX6_spells 71 = .ok (.ireturn, 1) := by decide +kernel
set_option maxRecDepth 20000 in
theorem ggX6_wordAt_X6_lengthOf : GoodIn wsX6_wordAt wsX6_lengthOf := goodIn_r _ [5, 6, 30, 31, 32, 33, 34, 35, 36, 37, 38, 39, 40, 41, 42, 43, 44, 45, 46] (by decide +kernel) (by decide +kernel)
set_option maxRecDepth 20000 in
theorem gX6_wordAt_X6_lengthOf : GoodIn wsX6_wordAt (wsV RX6 77 RX6 yX6_lengthOf wsX6_lengthOf) := goodIn_app (goodIn_of _ (by decide +kernel)) ggX6_wordAt_X6_lengthOf
set_option maxRecDepth 20000 in
theorem ggX6_wordAt_X6_spells : GoodIn wsX6_wordAt wsX6_spells := goodIn_r _ [10, 11, 12, 6, 1, 2, 3, 4, 5, 30, 31, 32, 33, 34, 35, 36, 37, 38, 39, 40, 41, 42, 43, 44, 45, 46] (by decide +kernel) (by decide +kernel)
set_option maxRecDepth 20000 in
theorem gX6_wordAt_X6_spells : GoodIn wsX6_wordAt (wsV RX6 81 RX6 yX6_spells wsX6_spells) := goodIn_app (goodIn_of _ (by decide +kernel)) ggX6_wordAt_X6_spells
set_option maxRecDepth 20000 in
theorem ggX6_wordAt_X6_next : GoodIn wsX6_wordAt wsX6_next := goodIn_r _ [16, 17, 18, 19, 4, 20, 21, 22, 23, 24, 25, 26, 27, 28, 29, 30, 31, 32, 33, 34, 35, 36, 37, 38, 39, 40, 41, 42, 43, 44, 45, 46] (by decide +kernel) (by decide +kernel)
set_option maxRecDepth 20000 in
theorem gX6_wordAt_X6_next : GoodIn wsX6_wordAt (wsV RX6 73 RX6 yX6_next wsX6_next) := goodIn_app (goodIn_of _ (by decide +kernel)) ggX6_wordAt_X6_next
theorem dX6_wordAt_0 : decode cX6_wordAt 0 = .ok (.iconst 0, 1) := by decide +kernel
theorem dX6_wordAt_1 : decode cX6_wordAt 1 = .ok (.istore 5, 2) := by decide +kernel
theorem dX6_wordAt_3 : decode cX6_wordAt 3 = .ok (.iload 5, 2) := by decide +kernel
theorem dX6_wordAt_5 : decode cX6_wordAt 5 = .ok (.bipush 25, 2) := by decide +kernel
theorem dX6_wordAt_7 : decode cX6_wordAt 7 = .ok (.if_icmp .ge 45, 3) := by decide +kernel
theorem dX6_wordAt_10 : decode cX6_wordAt 10 = .ok (.aload_n 0, 1) := by decide +kernel
theorem dX6_wordAt_11 : decode cX6_wordAt 11 = .ok (.iload 5, 2) := by decide +kernel
theorem dX6_wordAt_13 : decode cX6_wordAt 13 = .ok (.invokevirtual 77, 3) := by decide +kernel
theorem dX6_wordAt_16 : decode cX6_wordAt 16 = .ok (.iload_n 2, 1) := by decide +kernel
theorem dX6_wordAt_17 : decode cX6_wordAt 17 = .ok (.if_icmp .ne 29, 3) := by decide +kernel
theorem dX6_wordAt_20 : decode cX6_wordAt 20 = .ok (.aload_n 0, 1) := by decide +kernel
theorem dX6_wordAt_21 : decode cX6_wordAt 21 = .ok (.iload 5, 2) := by decide +kernel
theorem dX6_wordAt_23 : decode cX6_wordAt 23 = .ok (.iload_n 1, 1) := by decide +kernel
theorem dX6_wordAt_24 : decode cX6_wordAt 24 = .ok (.iload_n 2, 1) := by decide +kernel
theorem dX6_wordAt_25 : decode cX6_wordAt 25 = .ok (.invokevirtual 81, 3) := by decide +kernel
theorem dX6_wordAt_28 : decode cX6_wordAt 28 = .ok (.ifCond .eq 18, 3) := by decide +kernel
theorem dX6_wordAt_31 : decode cX6_wordAt 31 = .ok (.aload_n 0, 1) := by decide +kernel
theorem dX6_wordAt_32 : decode cX6_wordAt 32 = .ok (.iload_n 3, 1) := by decide +kernel
theorem dX6_wordAt_33 : decode cX6_wordAt 33 = .ok (.iload 5, 2) := by decide +kernel
theorem dX6_wordAt_35 : decode cX6_wordAt 35 = .ok (.iload 4, 2) := by decide +kernel
theorem dX6_wordAt_37 : decode cX6_wordAt 37 = .ok (.invokevirtual 73, 3) := by decide +kernel
theorem dX6_wordAt_40 : decode cX6_wordAt 40 = .ok (.ifCond .lt 6, 3) := by decide +kernel
theorem dX6_wordAt_43 : decode cX6_wordAt 43 = .ok (.iload 5, 2) := by decide +kernel
theorem dX6_wordAt_45 : decode cX6_wordAt 45 = .ok (.ireturn, 1) := by decide +kernel
theorem dX6_wordAt_46 : decode cX6_wordAt 46 = .ok (.iinc 5 1, 3) := by decide +kernel
theorem dX6_wordAt_49 : decode cX6_wordAt 49 = .ok (.goto (-46), 3) := by decide +kernel
theorem dX6_wordAt_52 : decode cX6_wordAt 52 = .ok (.iconst (-1), 1) := by decide +kernel
theorem dX6_wordAt_53 : decode cX6_wordAt 53 = .ok (.ireturn, 1) := by decide +kernel
set_option maxRecDepth 20000 in
theorem ggX6_canBegin_X6_spells : GoodIn wsX6_canBegin wsX6_spells := goodIn_r _ [5, 6, 7, 8, 9, 10, 11, 4, 12, 30, 31, 32, 33, 34, 35, 36, 37, 38, 39, 40, 41, 42, 43, 44, 45, 46] (by decide +kernel) (by decide +kernel)
set_option maxRecDepth 20000 in
theorem gX6_canBegin_X6_spells : GoodIn wsX6_canBegin (wsV RX6 81 RX6 yX6_spells wsX6_spells) := goodIn_app (goodIn_of _ (by decide +kernel)) ggX6_canBegin_X6_spells
set_option maxRecDepth 20000 in
theorem ggX6_canBegin_X6_next : GoodIn wsX6_canBegin wsX6_next := goodIn_r _ [16, 17, 18, 19, 4, 20, 21, 22, 23, 24, 25, 26, 27, 28, 29, 30, 31, 32, 33, 34, 35, 36, 37, 38, 39, 40, 41, 42, 43, 44, 45, 46] (by decide +kernel) (by decide +kernel)
set_option maxRecDepth 20000 in
theorem gX6_canBegin_X6_next : GoodIn wsX6_canBegin (wsV RX6 73 RX6 yX6_next wsX6_next) := goodIn_app (goodIn_of _ (by decide +kernel)) ggX6_canBegin_X6_next
theorem dX6_canBegin_0 : decode cX6_canBegin 0 = .ok (.iconst 0, 1) := by decide +kernel
theorem dX6_canBegin_1 : decode cX6_canBegin 1 = .ok (.istore 5, 2) := by decide +kernel
theorem dX6_canBegin_3 : decode cX6_canBegin 3 = .ok (.iconst 0, 1) := by decide +kernel
theorem dX6_canBegin_4 : decode cX6_canBegin 4 = .ok (.istore 6, 2) := by decide +kernel
theorem dX6_canBegin_6 : decode cX6_canBegin 6 = .ok (.iload 6, 2) := by decide +kernel
theorem dX6_canBegin_8 : decode cX6_canBegin 8 = .ok (.bipush 25, 2) := by decide +kernel
theorem dX6_canBegin_10 : decode cX6_canBegin 10 = .ok (.if_icmp .ge 44, 3) := by decide +kernel
theorem dX6_canBegin_13 : decode cX6_canBegin 13 = .ok (.iload 5, 2) := by decide +kernel
theorem dX6_canBegin_15 : decode cX6_canBegin 15 = .ok (.ifCond .ne 26, 3) := by decide +kernel
theorem dX6_canBegin_18 : decode cX6_canBegin 18 = .ok (.aload_n 0, 1) := by decide +kernel
theorem dX6_canBegin_19 : decode cX6_canBegin 19 = .ok (.iload 6, 2) := by decide +kernel
theorem dX6_canBegin_21 : decode cX6_canBegin 21 = .ok (.iload_n 1, 1) := by decide +kernel
theorem dX6_canBegin_22 : decode cX6_canBegin 22 = .ok (.iload_n 2, 1) := by decide +kernel
theorem dX6_canBegin_23 : decode cX6_canBegin 23 = .ok (.invokevirtual 81, 3) := by decide +kernel
theorem dX6_canBegin_26 : decode cX6_canBegin 26 = .ok (.ifCond .eq 19, 3) := by decide +kernel
theorem dX6_canBegin_29 : decode cX6_canBegin 29 = .ok (.aload_n 0, 1) := by decide +kernel
theorem dX6_canBegin_30 : decode cX6_canBegin 30 = .ok (.iload_n 3, 1) := by decide +kernel
theorem dX6_canBegin_31 : decode cX6_canBegin 31 = .ok (.iload 6, 2) := by decide +kernel
theorem dX6_canBegin_33 : decode cX6_canBegin 33 = .ok (.iload 4, 2) := by decide +kernel
theorem dX6_canBegin_35 : decode cX6_canBegin 35 = .ok (.invokevirtual 73, 3) := by decide +kernel
theorem dX6_canBegin_38 : decode cX6_canBegin 38 = .ok (.ifCond .lt 7, 3) := by decide +kernel
theorem dX6_canBegin_41 : decode cX6_canBegin 41 = .ok (.iconst 1, 1) := by decide +kernel
theorem dX6_canBegin_42 : decode cX6_canBegin 42 = .ok (.goto 4, 3) := by decide +kernel
theorem dX6_canBegin_45 : decode cX6_canBegin 45 = .ok (.iconst 0, 1) := by decide +kernel
theorem dX6_canBegin_46 : decode cX6_canBegin 46 = .ok (.istore 5, 2) := by decide +kernel
theorem dX6_canBegin_48 : decode cX6_canBegin 48 = .ok (.iinc 6 1, 3) := by decide +kernel
theorem dX6_canBegin_51 : decode cX6_canBegin 51 = .ok (.goto (-45), 3) := by decide +kernel
theorem dX6_canBegin_54 : decode cX6_canBegin 54 = .ok (.iload 5, 2) := by decide +kernel
theorem dX6_canBegin_56 : decode cX6_canBegin 56 = .ok (.ireturn, 1) := by decide +kernel
set_option maxRecDepth 20000 in
theorem ggX6_read_X6_wordAt : GoodIn wsX6_read wsX6_wordAt := goodIn_r _ [10, 11, 12, 13, 9, 14, 15, 16, 17, 18, 19, 4, 20, 21, 22, 23, 24, 25, 26, 27, 28, 29, 30, 31, 32, 33, 34, 35, 36, 37, 46, 47, 48, 49, 50, 51, 52, 53, 54, 55, 56, 57, 58, 59, 60, 61, 62] (by decide +kernel) (by decide +kernel)
set_option maxRecDepth 20000 in
theorem gX6_read_X6_wordAt : GoodIn wsX6_read (wsV RX6 94 RX6 yX6_wordAt wsX6_wordAt) := goodIn_app (goodIn_of _ (by decide +kernel)) ggX6_read_X6_wordAt
set_option maxRecDepth 20000 in
theorem ggX6_read_X6_next : GoodIn wsX6_read wsX6_next := goodIn_r _ [24, 25, 26, 27, 9, 28, 29, 30, 31, 32, 33, 34, 35, 36, 37, 46, 47, 48, 49, 50, 51, 52, 53, 54, 55, 56, 57, 58, 59, 60, 61, 62] (by decide +kernel) (by decide +kernel)
set_option maxRecDepth 20000 in
theorem gX6_read_X6_next : GoodIn wsX6_read (wsV RX6 73 RX6 yX6_next wsX6_next) := goodIn_app (goodIn_of _ (by decide +kernel)) ggX6_read_X6_next
set_option maxRecDepth 20000 in
theorem ggX6_read_X6_goesOn : GoodIn wsX6_read wsX6_goesOn := goodIn_r _ [41, 21, 22, 23, 9, 24, 25, 26, 27, 28, 29, 30, 31, 32, 33, 34, 35, 36, 37, 46, 47, 48, 49, 50, 51, 52, 53, 54, 55, 56, 57, 58, 59, 60, 61, 62] (by decide +kernel) (by decide +kernel)
set_option maxRecDepth 20000 in
theorem gX6_read_X6_goesOn : GoodIn wsX6_read (wsV RX6 98 RX6 yX6_goesOn wsX6_goesOn) := goodIn_app (goodIn_of _ (by decide +kernel)) ggX6_read_X6_goesOn
set_option maxRecDepth 20000 in
theorem ggX6_read_X6_canBegin : GoodIn wsX6_read wsX6_canBegin := goodIn_r _ [45, 16, 17, 18, 9, 19, 4, 20, 15, 11, 12, 13, 14, 21, 22, 23, 24, 25, 26, 27, 28, 29, 30, 31, 32, 33, 34, 35, 36, 37, 46, 47, 48, 49, 50, 51, 52, 53, 54, 55, 56, 57, 58, 59, 60, 61, 62] (by decide +kernel) (by decide +kernel)
set_option maxRecDepth 20000 in
theorem gX6_read_X6_canBegin : GoodIn wsX6_read (wsV RX6 102 RX6 yX6_canBegin wsX6_canBegin) := goodIn_app (goodIn_of _ (by decide +kernel)) ggX6_read_X6_canBegin
theorem dX6_read_0 : decode cX6_read 0 = .ok (.iconst 0, 1) := by decide +kernel
theorem dX6_read_1 : decode cX6_read 1 = .ok (.istore_n 1, 1) := by decide +kernel
theorem dX6_read_2 : decode cX6_read 2 = .ok (.iconst 0, 1) := by decide +kernel
theorem dX6_read_3 : decode cX6_read 3 = .ok (.istore_n 2, 1) := by decide +kernel
theorem dX6_read_4 : decode cX6_read 4 = .ok (.iconst 0, 1) := by decide +kernel
theorem dX6_read_5 : decode cX6_read 5 = .ok (.istore_n 3, 1) := by decide +kernel
theorem dX6_read_6 : decode cX6_read 6 = .ok (.aload_n 0, 1) := by decide +kernel
theorem dX6_read_7 : decode cX6_read 7 = .ok (.iconst 0, 1) := by decide +kernel
theorem dX6_read_8 : decode cX6_read 8 = .ok (.putfield 84, 3) := by decide +kernel
theorem dX6_read_11 : decode cX6_read 11 = .ok (.aload_n 0, 1) := by decide +kernel
theorem dX6_read_12 : decode cX6_read 12 = .ok (.iconst 0, 1) := by decide +kernel
theorem dX6_read_13 : decode cX6_read 13 = .ok (.putfield 87, 3) := by decide +kernel
theorem dX6_read_16 : decode cX6_read 16 = .ok (.iconst 0, 1) := by decide +kernel
theorem dX6_read_17 : decode cX6_read 17 = .ok (.istore 4, 2) := by decide +kernel
theorem dX6_read_19 : decode cX6_read 19 = .ok (.iload 4, 2) := by decide +kernel
theorem dX6_read_21 : decode cX6_read 21 = .ok (.aload_n 0, 1) := by decide +kernel
theorem dX6_read_22 : decode cX6_read 22 = .ok (.getfield 91, 3) := by decide +kernel
theorem dX6_read_25 : decode cX6_read 25 = .ok (.if_icmp .ge 139, 3) := by decide +kernel
theorem dX6_read_28 : decode cX6_read 28 = .ok (.aload_n 0, 1) := by decide +kernel
theorem dX6_read_29 : decode cX6_read 29 = .ok (.getfield 25, 3) := by decide +kernel
theorem dX6_read_32 : decode cX6_read 32 = .ok (.iload 4, 2) := by decide +kernel
theorem dX6_read_34 : decode cX6_read 34 = .ok (.iaload, 1) := by decide +kernel
theorem dX6_read_35 : decode cX6_read 35 = .ok (.bipush 32, 2) := by decide +kernel
theorem dX6_read_37 : decode cX6_read 37 = .ok (.if_icmp .ne 102, 3) := by decide +kernel
theorem dX6_read_40 : decode cX6_read 40 = .ok (.aload_n 0, 1) := by decide +kernel
theorem dX6_read_41 : decode cX6_read 41 = .ok (.iload_n 2, 1) := by decide +kernel
theorem dX6_read_42 : decode cX6_read 42 = .ok (.iload 4, 2) := by decide +kernel
theorem dX6_read_44 : decode cX6_read 44 = .ok (.iload_n 2, 1) := by decide +kernel
theorem dX6_read_45 : decode cX6_read 45 = .ok (.isub, 1) := by decide +kernel
theorem dX6_read_46 : decode cX6_read 46 = .ok (.iload_n 1, 1) := by decide +kernel
theorem dX6_read_47 : decode cX6_read 47 = .ok (.iload_n 3, 1) := by decide +kernel
theorem dX6_read_48 : decode cX6_read 48 = .ok (.invokevirtual 94, 3) := by decide +kernel
theorem dX6_read_51 : decode cX6_read 51 = .ok (.istore 5, 2) := by decide +kernel
theorem dX6_read_53 : decode cX6_read 53 = .ok (.iload 5, 2) := by decide +kernel
theorem dX6_read_55 : decode cX6_read 55 = .ok (.ifCond .ge 7, 3) := by decide +kernel
theorem dX6_read_58 : decode cX6_read 58 = .ok (.iconst (-1), 1) := by decide +kernel
theorem dX6_read_59 : decode cX6_read 59 = .ok (.goto 11, 3) := by decide +kernel
theorem dX6_read_62 : decode cX6_read 62 = .ok (.aload_n 0, 1) := by decide +kernel
theorem dX6_read_63 : decode cX6_read 63 = .ok (.iload_n 1, 1) := by decide +kernel
theorem dX6_read_64 : decode cX6_read 64 = .ok (.iload 5, 2) := by decide +kernel
theorem dX6_read_66 : decode cX6_read 66 = .ok (.iload_n 3, 1) := by decide +kernel
theorem dX6_read_67 : decode cX6_read 67 = .ok (.invokevirtual 73, 3) := by decide +kernel
theorem dX6_read_70 : decode cX6_read 70 = .ok (.istore 6, 2) := by decide +kernel
theorem dX6_read_72 : decode cX6_read 72 = .ok (.iload_n 3, 1) := by decide +kernel
theorem dX6_read_73 : decode cX6_read 73 = .ok (.ifCond .ne 10, 3) := by decide +kernel
theorem dX6_read_76 : decode cX6_read 76 = .ok (.iload 5, 2) := by decide +kernel
theorem dX6_read_78 : decode cX6_read 78 = .ok (.bipush 12, 2) := by decide +kernel
theorem dX6_read_80 : decode cX6_read 80 = .ok (.if_icmp .ne 7, 3) := by decide +kernel
theorem dX6_read_83 : decode cX6_read 83 = .ok (.iconst 1, 1) := by decide +kernel
theorem dX6_read_84 : decode cX6_read 84 = .ok (.goto 4, 3) := by decide +kernel
theorem dX6_read_87 : decode cX6_read 87 = .ok (.iconst 0, 1) := by decide +kernel
theorem dX6_read_88 : decode cX6_read 88 = .ok (.istore_n 3, 1) := by decide +kernel
theorem dX6_read_89 : decode cX6_read 89 = .ok (.iload 6, 2) := by decide +kernel
theorem dX6_read_91 : decode cX6_read 91 = .ok (.ifCond .lt 13, 3) := by decide +kernel
theorem dX6_read_94 : decode cX6_read 94 = .ok (.aload_n 0, 1) := by decide +kernel
theorem dX6_read_95 : decode cX6_read 95 = .ok (.iload 6, 2) := by decide +kernel
theorem dX6_read_97 : decode cX6_read 97 = .ok (.iload_n 3, 1) := by decide +kernel
theorem dX6_read_98 : decode cX6_read 98 = .ok (.invokevirtual 98, 3) := by decide +kernel
theorem dX6_read_101 : decode cX6_read 101 = .ok (.ifCond .ne 6, 3) := by decide +kernel
theorem dX6_read_104 : decode cX6_read 104 = .ok (.iload 4, 2) := by decide +kernel
theorem dX6_read_106 : decode cX6_read 106 = .ok (.ireturn, 1) := by decide +kernel
theorem dX6_read_107 : decode cX6_read 107 = .ok (.aload_n 0, 1) := by decide +kernel
theorem dX6_read_108 : decode cX6_read 108 = .ok (.getfield 28, 3) := by decide +kernel
theorem dX6_read_111 : decode cX6_read 111 = .ok (.aload_n 0, 1) := by decide +kernel
theorem dX6_read_112 : decode cX6_read 112 = .ok (.getfield 84, 3) := by decide +kernel
theorem dX6_read_115 : decode cX6_read 115 = .ok (.iload 5, 2) := by decide +kernel
theorem dX6_read_117 : decode cX6_read 117 = .ok (.iastore, 1) := by decide +kernel
theorem dX6_read_118 : decode cX6_read 118 = .ok (.aload_n 0, 1) := by decide +kernel
theorem dX6_read_119 : decode cX6_read 119 = .ok (.dup, 1) := by decide +kernel
theorem dX6_read_120 : decode cX6_read 120 = .ok (.getfield 84, 3) := by decide +kernel
theorem dX6_read_123 : decode cX6_read 123 = .ok (.iconst 1, 1) := by decide +kernel
theorem dX6_read_124 : decode cX6_read 124 = .ok (.iadd, 1) := by decide +kernel
theorem dX6_read_125 : decode cX6_read 125 = .ok (.putfield 84, 3) := by decide +kernel
theorem dX6_read_128 : decode cX6_read 128 = .ok (.iload 6, 2) := by decide +kernel
theorem dX6_read_130 : decode cX6_read 130 = .ok (.istore_n 1, 1) := by decide +kernel
theorem dX6_read_131 : decode cX6_read 131 = .ok (.iload 4, 2) := by decide +kernel
theorem dX6_read_133 : decode cX6_read 133 = .ok (.iconst 1, 1) := by decide +kernel
theorem dX6_read_134 : decode cX6_read 134 = .ok (.iadd, 1) := by decide +kernel
theorem dX6_read_135 : decode cX6_read 135 = .ok (.istore_n 2, 1) := by decide +kernel
theorem dX6_read_136 : decode cX6_read 136 = .ok (.goto 22, 3) := by decide +kernel
theorem dX6_read_139 : decode cX6_read 139 = .ok (.aload_n 0, 1) := by decide +kernel
theorem dX6_read_140 : decode cX6_read 140 = .ok (.iload_n 2, 1) := by decide +kernel
theorem dX6_read_141 : decode cX6_read 141 = .ok (.iload 4, 2) := by decide +kernel
theorem dX6_read_143 : decode cX6_read 143 = .ok (.iconst 1, 1) := by decide +kernel
theorem dX6_read_144 : decode cX6_read 144 = .ok (.iadd, 1) := by decide +kernel
theorem dX6_read_145 : decode cX6_read 145 = .ok (.iload_n 2, 1) := by decide +kernel
theorem dX6_read_146 : decode cX6_read 146 = .ok (.isub, 1) := by decide +kernel
theorem dX6_read_147 : decode cX6_read 147 = .ok (.iload_n 1, 1) := by decide +kernel
theorem dX6_read_148 : decode cX6_read 148 = .ok (.iload_n 3, 1) := by decide +kernel
theorem dX6_read_149 : decode cX6_read 149 = .ok (.invokevirtual 102, 3) := by decide +kernel
theorem dX6_read_152 : decode cX6_read 152 = .ok (.ifCond .ne 6, 3) := by decide +kernel
theorem dX6_read_155 : decode cX6_read 155 = .ok (.iload 4, 2) := by decide +kernel
theorem dX6_read_157 : decode cX6_read 157 = .ok (.ireturn, 1) := by decide +kernel
theorem dX6_read_158 : decode cX6_read 158 = .ok (.iinc 4 1, 3) := by decide +kernel
theorem dX6_read_161 : decode cX6_read 161 = .ok (.goto (-142), 3) := by decide +kernel
theorem dX6_read_164 : decode cX6_read 164 = .ok (.aload_n 0, 1) := by decide +kernel
theorem dX6_read_165 : decode cX6_read 165 = .ok (.iload_n 2, 1) := by decide +kernel
theorem dX6_read_166 : decode cX6_read 166 = .ok (.aload_n 0, 1) := by decide +kernel
theorem dX6_read_167 : decode cX6_read 167 = .ok (.getfield 91, 3) := by decide +kernel
theorem dX6_read_170 : decode cX6_read 170 = .ok (.iload_n 2, 1) := by decide +kernel
theorem dX6_read_171 : decode cX6_read 171 = .ok (.isub, 1) := by decide +kernel
theorem dX6_read_172 : decode cX6_read 172 = .ok (.iload_n 1, 1) := by decide +kernel
theorem dX6_read_173 : decode cX6_read 173 = .ok (.iload_n 3, 1) := by decide +kernel
theorem dX6_read_174 : decode cX6_read 174 = .ok (.invokevirtual 94, 3) := by decide +kernel
theorem dX6_read_177 : decode cX6_read 177 = .ok (.istore 4, 2) := by decide +kernel
theorem dX6_read_179 : decode cX6_read 179 = .ok (.iload 4, 2) := by decide +kernel
theorem dX6_read_181 : decode cX6_read 181 = .ok (.ifCond .lt 97, 3) := by decide +kernel
theorem dX6_read_184 : decode cX6_read 184 = .ok (.aload_n 0, 1) := by decide +kernel
theorem dX6_read_185 : decode cX6_read 185 = .ok (.getfield 28, 3) := by decide +kernel
theorem dX6_read_188 : decode cX6_read 188 = .ok (.aload_n 0, 1) := by decide +kernel
theorem dX6_read_189 : decode cX6_read 189 = .ok (.getfield 84, 3) := by decide +kernel
theorem dX6_read_192 : decode cX6_read 192 = .ok (.iload 4, 2) := by decide +kernel
theorem dX6_read_194 : decode cX6_read 194 = .ok (.iastore, 1) := by decide +kernel
theorem dX6_read_195 : decode cX6_read 195 = .ok (.aload_n 0, 1) := by decide +kernel
theorem dX6_read_196 : decode cX6_read 196 = .ok (.dup, 1) := by decide +kernel
theorem dX6_read_197 : decode cX6_read 197 = .ok (.getfield 84, 3) := by decide +kernel
theorem dX6_read_200 : decode cX6_read 200 = .ok (.iconst 1, 1) := by decide +kernel
theorem dX6_read_201 : decode cX6_read 201 = .ok (.iadd, 1) := by decide +kernel
theorem dX6_read_202 : decode cX6_read 202 = .ok (.putfield 84, 3) := by decide +kernel
theorem dX6_read_205 : decode cX6_read 205 = .ok (.aload_n 0, 1) := by decide +kernel
theorem dX6_read_206 : decode cX6_read 206 = .ok (.iload_n 1, 1) := by decide +kernel
theorem dX6_read_207 : decode cX6_read 207 = .ok (.iload 4, 2) := by decide +kernel
theorem dX6_read_209 : decode cX6_read 209 = .ok (.iload_n 3, 1) := by decide +kernel
theorem dX6_read_210 : decode cX6_read 210 = .ok (.invokevirtual 73, 3) := by decide +kernel
theorem dX6_read_213 : decode cX6_read 213 = .ok (.istore 5, 2) := by decide +kernel
theorem dX6_read_215 : decode cX6_read 215 = .ok (.iload_n 3, 1) := by decide +kernel
theorem dX6_read_216 : decode cX6_read 216 = .ok (.ifCond .ne 10, 3) := by decide +kernel
theorem dX6_read_219 : decode cX6_read 219 = .ok (.iload 4, 2) := by decide +kernel
theorem dX6_read_221 : decode cX6_read 221 = .ok (.bipush 12, 2) := by decide +kernel
theorem dX6_read_223 : decode cX6_read 223 = .ok (.if_icmp .ne 7, 3) := by decide +kernel
theorem dX6_read_226 : decode cX6_read 226 = .ok (.iconst 1, 1) := by decide +kernel
theorem dX6_read_227 : decode cX6_read 227 = .ok (.goto 4, 3) := by decide +kernel
theorem dX6_read_230 : decode cX6_read 230 = .ok (.iconst 0, 1) := by decide +kernel
theorem dX6_read_231 : decode cX6_read 231 = .ok (.istore_n 3, 1) := by decide +kernel
theorem dX6_read_232 : decode cX6_read 232 = .ok (.aload_n 0, 1) := by decide +kernel
theorem dX6_read_233 : decode cX6_read 233 = .ok (.iload 5, 2) := by decide +kernel
theorem dX6_read_235 : decode cX6_read 235 = .ok (.bipush 11, 2) := by decide +kernel
theorem dX6_read_237 : decode cX6_read 237 = .ok (.if_icmp .eq 33, 3) := by decide +kernel
theorem dX6_read_240 : decode cX6_read 240 = .ok (.iload 5, 2) := by decide +kernel
theorem dX6_read_242 : decode cX6_read 242 = .ok (.bipush 13, 2) := by decide +kernel
theorem dX6_read_244 : decode cX6_read 244 = .ok (.if_icmp .eq 26, 3) := by decide +kernel
theorem dX6_read_247 : decode cX6_read 247 = .ok (.iload_n 3, 1) := by decide +kernel
theorem dX6_read_248 : decode cX6_read 248 = .ok (.ifCond .ne 26, 3) := by decide +kernel
theorem dX6_read_251 : decode cX6_read 251 = .ok (.iload 5, 2) := by decide +kernel
theorem dX6_read_253 : decode cX6_read 253 = .ok (.iconst 2, 1) := by decide +kernel
theorem dX6_read_254 : decode cX6_read 254 = .ok (.if_icmp .eq 16, 3) := by decide +kernel
theorem dX6_read_257 : decode cX6_read 257 = .ok (.iload 5, 2) := by decide +kernel
theorem dX6_read_259 : decode cX6_read 259 = .ok (.iconst 3, 1) := by decide +kernel
theorem dX6_read_260 : decode cX6_read 260 = .ok (.if_icmp .eq 10, 3) := by decide +kernel
theorem dX6_read_263 : decode cX6_read 263 = .ok (.iload 5, 2) := by decide +kernel
theorem dX6_read_265 : decode cX6_read 265 = .ok (.bipush 6, 2) := by decide +kernel
theorem dX6_read_267 : decode cX6_read 267 = .ok (.if_icmp .ne 7, 3) := by decide +kernel
theorem dX6_read_270 : decode cX6_read 270 = .ok (.iconst 1, 1) := by decide +kernel
theorem dX6_read_271 : decode cX6_read 271 = .ok (.goto 4, 3) := by decide +kernel
theorem dX6_read_274 : decode cX6_read 274 = .ok (.iconst 0, 1) := by decide +kernel
theorem dX6_read_275 : decode cX6_read 275 = .ok (.putfield 87, 3) := by decide +kernel
theorem dX6_read_278 : decode cX6_read 278 = .ok (.aload_n 0, 1) := by decide +kernel
theorem dX6_read_279 : decode cX6_read 279 = .ok (.getfield 91, 3) := by decide +kernel
theorem dX6_read_282 : decode cX6_read 282 = .ok (.ireturn, 1) := by decide +kernel
theorem dX6_word_0 : decode cX6_word 0 = .ok (.iload_n 1, 1) := by decide +kernel
theorem dX6_word_1 : decode cX6_word 1 = .ok (.aload_n 0, 1) := by decide +kernel
theorem dX6_word_2 : decode cX6_word 2 = .ok (.getfield 16, 3) := by decide +kernel
theorem dX6_word_5 : decode cX6_word 5 = .ok (.bipush 58, 2) := by decide +kernel
theorem dX6_word_7 : decode cX6_word 7 = .ok (.iaload, 1) := by decide +kernel
theorem dX6_word_8 : decode cX6_word 8 = .ok (.if_icmp .ge 15, 3) := by decide +kernel
theorem dX6_word_11 : decode cX6_word 11 = .ok (.aload_n 0, 1) := by decide +kernel
theorem dX6_word_12 : decode cX6_word 12 = .ok (.getfield 16, 3) := by decide +kernel
theorem dX6_word_15 : decode cX6_word 15 = .ok (.bipush 59, 2) := by decide +kernel
theorem dX6_word_17 : decode cX6_word 17 = .ok (.iload_n 1, 1) := by decide +kernel
theorem dX6_word_18 : decode cX6_word 18 = .ok (.iadd, 1) := by decide +kernel
theorem dX6_word_19 : decode cX6_word 19 = .ok (.iaload, 1) := by decide +kernel
theorem dX6_word_20 : decode cX6_word 20 = .ok (.goto 4, 3) := by decide +kernel
theorem dX6_word_23 : decode cX6_word 23 = .ok (.iconst (-1), 1) := by decide +kernel
theorem dX6_word_24 : decode cX6_word 24 = .ok (.ireturn, 1) := by decide +kernel
set_option maxRecDepth 20000 in
theorem ggX6_readDescription_X6_word : GoodIn wsX6_readDescription wsX6_word := goodIn_r _ [8, 9, 16, 17, 18, 19, 20, 21, 22, 23, 24, 25, 26, 27, 28, 29, 30, 31, 32] (by decide +kernel) (by decide +kernel)
set_option maxRecDepth 20000 in
theorem gX6_readDescription_X6_word : GoodIn wsX6_readDescription (wsV RX6 109 RX6 yX6_word wsX6_word) := goodIn_app (goodIn_of _ (by decide +kernel)) ggX6_readDescription_X6_word
set_option maxRecDepth 20000 in
theorem ggX6_readDescription_X6_isAdjective : GoodIn wsX6_readDescription wsX6_isAdjective := goodIn_r _ [12, 13, 14, 7, 15] (by decide +kernel) (by decide +kernel)
set_option maxRecDepth 20000 in
theorem gX6_readDescription_X6_isAdjective : GoodIn wsX6_readDescription (va_wsS RX6 63 yX6_isAdjective wsX6_isAdjective) := goodIn_app (goodIn_of _ (by decide +kernel)) ggX6_readDescription_X6_isAdjective
theorem dX6_readDescription_0 : decode cX6_readDescription 0 = .ok (.aload_n 0, 1) := by decide +kernel
theorem dX6_readDescription_1 : decode cX6_readDescription 1 = .ok (.dup, 1) := by decide +kernel
theorem dX6_readDescription_2 : decode cX6_readDescription 2 = .ok (.getfield 106, 3) := by decide +kernel
theorem dX6_readDescription_5 : decode cX6_readDescription 5 = .ok (.aload_n 0, 1) := by decide +kernel
theorem dX6_readDescription_6 : decode cX6_readDescription 6 = .ok (.aload_n 0, 1) := by decide +kernel
theorem dX6_readDescription_7 : decode cX6_readDescription 7 = .ok (.getfield 106, 3) := by decide +kernel
theorem dX6_readDescription_10 : decode cX6_readDescription 10 = .ok (.invokevirtual 109, 3) := by decide +kernel
theorem dX6_readDescription_13 : decode cX6_readDescription 13 = .ok (.bipush 21, 2) := by decide +kernel
theorem dX6_readDescription_15 : decode cX6_readDescription 15 = .ok (.if_icmp .ne 7, 3) := by decide +kernel
theorem dX6_readDescription_18 : decode cX6_readDescription 18 = .ok (.iconst 1, 1) := by decide +kernel
theorem dX6_readDescription_19 : decode cX6_readDescription 19 = .ok (.goto 4, 3) := by decide +kernel
theorem dX6_readDescription_22 : decode cX6_readDescription 22 = .ok (.iconst 0, 1) := by decide +kernel
theorem dX6_readDescription_23 : decode cX6_readDescription 23 = .ok (.iadd, 1) := by decide +kernel
theorem dX6_readDescription_24 : decode cX6_readDescription 24 = .ok (.putfield 106, 3) := by decide +kernel
theorem dX6_readDescription_27 : decode cX6_readDescription 27 = .ok (.aload_n 0, 1) := by decide +kernel
theorem dX6_readDescription_28 : decode cX6_readDescription 28 = .ok (.aload_n 0, 1) := by decide +kernel
theorem dX6_readDescription_29 : decode cX6_readDescription 29 = .ok (.aload_n 0, 1) := by decide +kernel
theorem dX6_readDescription_30 : decode cX6_readDescription 30 = .ok (.getfield 106, 3) := by decide +kernel
theorem dX6_readDescription_33 : decode cX6_readDescription 33 = .ok (.invokevirtual 109, 3) := by decide +kernel
theorem dX6_readDescription_36 : decode cX6_readDescription 36 = .ok (.invokestatic 63, 3) := by decide +kernel
theorem dX6_readDescription_39 : decode cX6_readDescription 39 = .ok (.ifCond .eq 17, 3) := by decide +kernel
theorem dX6_readDescription_42 : decode cX6_readDescription 42 = .ok (.aload_n 0, 1) := by decide +kernel
theorem dX6_readDescription_43 : decode cX6_readDescription 43 = .ok (.aload_n 0, 1) := by decide +kernel
theorem dX6_readDescription_44 : decode cX6_readDescription 44 = .ok (.getfield 106, 3) := by decide +kernel
theorem dX6_readDescription_47 : decode cX6_readDescription 47 = .ok (.invokevirtual 109, 3) := by decide +kernel
theorem dX6_readDescription_50 : decode cX6_readDescription 50 = .ok (.bipush 6, 2) := by decide +kernel
theorem dX6_readDescription_52 : decode cX6_readDescription 52 = .ok (.isub, 1) := by decide +kernel
theorem dX6_readDescription_53 : decode cX6_readDescription 53 = .ok (.goto 4, 3) := by decide +kernel
theorem dX6_readDescription_56 : decode cX6_readDescription 56 = .ok (.iconst (-1), 1) := by decide +kernel
theorem dX6_readDescription_57 : decode cX6_readDescription 57 = .ok (.putfield 112, 3) := by decide +kernel
theorem dX6_readDescription_60 : decode cX6_readDescription 60 = .ok (.aload_n 0, 1) := by decide +kernel
theorem dX6_readDescription_61 : decode cX6_readDescription 61 = .ok (.dup, 1) := by decide +kernel
theorem dX6_readDescription_62 : decode cX6_readDescription 62 = .ok (.getfield 106, 3) := by decide +kernel
theorem dX6_readDescription_65 : decode cX6_readDescription 65 = .ok (.aload_n 0, 1) := by decide +kernel
theorem dX6_readDescription_66 : decode cX6_readDescription 66 = .ok (.getfield 112, 3) := by decide +kernel
theorem dX6_readDescription_69 : decode cX6_readDescription 69 = .ok (.ifCond .lt 7, 3) := by decide +kernel
theorem dX6_readDescription_72 : decode cX6_readDescription 72 = .ok (.iconst 1, 1) := by decide +kernel
theorem dX6_readDescription_73 : decode cX6_readDescription 73 = .ok (.goto 4, 3) := by decide +kernel
theorem dX6_readDescription_76 : decode cX6_readDescription 76 = .ok (.iconst 0, 1) := by decide +kernel
theorem dX6_readDescription_77 : decode cX6_readDescription 77 = .ok (.iadd, 1) := by decide +kernel
theorem dX6_readDescription_78 : decode cX6_readDescription 78 = .ok (.putfield 106, 3) := by decide +kernel
theorem dX6_readDescription_81 : decode cX6_readDescription 81 = .ok (.aload_n 0, 1) := by decide +kernel
theorem dX6_readDescription_82 : decode cX6_readDescription 82 = .ok (.aload_n 0, 1) := by decide +kernel
theorem dX6_readDescription_83 : decode cX6_readDescription 83 = .ok (.aload_n 0, 1) := by decide +kernel
theorem dX6_readDescription_84 : decode cX6_readDescription 84 = .ok (.getfield 106, 3) := by decide +kernel
theorem dX6_readDescription_87 : decode cX6_readDescription 87 = .ok (.invokevirtual 109, 3) := by decide +kernel
theorem dX6_readDescription_90 : decode cX6_readDescription 90 = .ok (.putfield 115, 3) := by decide +kernel
theorem dX6_readDescription_93 : decode cX6_readDescription 93 = .ok (.aload_n 0, 1) := by decide +kernel
theorem dX6_readDescription_94 : decode cX6_readDescription 94 = .ok (.dup, 1) := by decide +kernel
theorem dX6_readDescription_95 : decode cX6_readDescription 95 = .ok (.getfield 106, 3) := by decide +kernel
theorem dX6_readDescription_98 : decode cX6_readDescription 98 = .ok (.iconst 1, 1) := by decide +kernel
theorem dX6_readDescription_99 : decode cX6_readDescription 99 = .ok (.iadd, 1) := by decide +kernel
theorem dX6_readDescription_100 : decode cX6_readDescription 100 = .ok (.putfield 106, 3) := by decide +kernel
theorem dX6_readDescription_103 : decode cX6_readDescription 103 = .ok (.return_, 1) := by decide +kernel
set_option maxRecDepth 20000 in
theorem ggX6_describe_X6_readDescription : GoodIn wsX6_describe wsX6_readDescription := goodIn_r _ [11, 1, 3, 2, 12, 13, 14, 10, 15, 6, 16, 17, 18, 19, 20, 21, 64, 65, 66, 67, 68, 69, 70, 71, 72, 73, 74, 75, 76, 77, 78, 79, 80] (by decide +kernel) (by decide +kernel)
