/-! ===== the law: decode rows (by program: gen08.py) ===== -/
theorem dw_0 : decode code 0 = .ok (.new 7, 3) := by decide +kernel
theorem dw_3 : decode code 3 = .ok (.dup, 1) := by decide +kernel
theorem dw_4 : decode code 4 = .ok (.invokespecial 9, 3) := by decide +kernel
theorem dw_7 : decode code 7 = .ok (.astore_n 1, 1) := by decide +kernel
theorem dw_8 : decode code 8 = .ok (.new 10, 3) := by decide +kernel
theorem dw_11 : decode code 11 = .ok (.dup, 1) := by decide +kernel
theorem dw_12 : decode code 12 = .ok (.invokespecial 12, 3) := by decide +kernel
theorem dw_15 : decode code 15 = .ok (.astore_n 2, 1) := by decide +kernel
theorem dw_16 : decode code 16 = .ok (.iconst 0, 1) := by decide +kernel
theorem dw_17 : decode code 17 = .ok (.istore_n 3, 1) := by decide +kernel
theorem dw_18 : decode code 18 = .ok (.iload_n 3, 1) := by decide +kernel
theorem dw_19 : decode code 19 = .ok (.aload_n 0, 1) := by decide +kernel
theorem dw_20 : decode code 20 = .ok (.arraylength, 1) := by decide +kernel
theorem dw_21 : decode code 21 = .ok (.bipush 6, 2) := by decide +kernel
theorem dw_23 : decode code 23 = .ok (.isub, 1) := by decide +kernel
theorem dw_24 : decode code 24 = .ok (.if_icmp .gt 1385, 3) := by decide +kernel
theorem dw_27 : decode code 27 = .ok (.aload_n 0, 1) := by decide +kernel
theorem dw_28 : decode code 28 = .ok (.iload_n 3, 1) := by decide +kernel
theorem dw_29 : decode code 29 = .ok (.iaload, 1) := by decide +kernel
theorem dw_30 : decode code 30 = .ok (.bipush 63, 2) := by decide +kernel
theorem dw_32 : decode code 32 = .ok (.iand, 1) := by decide +kernel
theorem dw_33 : decode code 33 = .ok (.tableswitch 1370 0 38 #[171, 194, 237, 280, 313, 336, 349, 372, 405, 428, 451, 484, 507, 540, 563, 596, 629, 672, 706, 739, 772, 815, 828, 861, 904, 927, 940, 953, 966, 979, 1002, 1045, 1068, 1101, 1144, 1217, 1251, 1314, 1347], 171) := by decide +kernel
theorem dw_204 : decode code 204 = .ok (.aload_n 1, 1) := by decide +kernel
theorem dw_205 : decode code 205 = .ok (.aload_n 0, 1) := by decide +kernel
theorem dw_206 : decode code 206 = .ok (.iload_n 3, 1) := by decide +kernel
theorem dw_207 : decode code 207 = .ok (.iconst 1, 1) := by decide +kernel
theorem dw_208 : decode code 208 = .ok (.iadd, 1) := by decide +kernel
theorem dw_209 : decode code 209 = .ok (.iaload, 1) := by decide +kernel
theorem dw_210 : decode code 210 = .ok (.invokevirtual 13, 3) := by decide +kernel
theorem dw_213 : decode code 213 = .ok (.aload_n 2, 1) := by decide +kernel
theorem dw_214 : decode code 214 = .ok (.aload_n 0, 1) := by decide +kernel
theorem dw_215 : decode code 215 = .ok (.iload_n 3, 1) := by decide +kernel
theorem dw_216 : decode code 216 = .ok (.iconst 1, 1) := by decide +kernel
theorem dw_217 : decode code 217 = .ok (.iadd, 1) := by decide +kernel
theorem dw_218 : decode code 218 = .ok (.iaload, 1) := by decide +kernel
theorem dw_219 : decode code 219 = .ok (.invokevirtual 17, 3) := by decide +kernel
theorem dw_222 : decode code 222 = .ok (.if_icmp .eq 1181, 3) := by decide +kernel
theorem dw_225 : decode code 225 = .ok (.iconst 0, 1) := by decide +kernel
theorem dw_226 : decode code 226 = .ok (.ireturn, 1) := by decide +kernel
theorem dw_227 : decode code 227 = .ok (.aload_n 1, 1) := by decide +kernel
theorem dw_228 : decode code 228 = .ok (.aload_n 0, 1) := by decide +kernel
theorem dw_229 : decode code 229 = .ok (.iload_n 3, 1) := by decide +kernel
theorem dw_230 : decode code 230 = .ok (.iconst 1, 1) := by decide +kernel
theorem dw_231 : decode code 231 = .ok (.iadd, 1) := by decide +kernel
theorem dw_232 : decode code 232 = .ok (.iaload, 1) := by decide +kernel
theorem dw_233 : decode code 233 = .ok (.aload_n 0, 1) := by decide +kernel
theorem dw_234 : decode code 234 = .ok (.iload_n 3, 1) := by decide +kernel
theorem dw_235 : decode code 235 = .ok (.iconst 2, 1) := by decide +kernel
theorem dw_236 : decode code 236 = .ok (.iadd, 1) := by decide +kernel
theorem dw_237 : decode code 237 = .ok (.iaload, 1) := by decide +kernel
theorem dw_238 : decode code 238 = .ok (.aload_n 0, 1) := by decide +kernel
theorem dw_239 : decode code 239 = .ok (.iload_n 3, 1) := by decide +kernel
theorem dw_240 : decode code 240 = .ok (.iconst 3, 1) := by decide +kernel
theorem dw_241 : decode code 241 = .ok (.iadd, 1) := by decide +kernel
theorem dw_242 : decode code 242 = .ok (.iaload, 1) := by decide +kernel
theorem dw_243 : decode code 243 = .ok (.invokevirtual 18, 3) := by decide +kernel
theorem dw_246 : decode code 246 = .ok (.aload_n 2, 1) := by decide +kernel
theorem dw_247 : decode code 247 = .ok (.aload_n 0, 1) := by decide +kernel
theorem dw_248 : decode code 248 = .ok (.iload_n 3, 1) := by decide +kernel
theorem dw_249 : decode code 249 = .ok (.iconst 1, 1) := by decide +kernel
theorem dw_250 : decode code 250 = .ok (.iadd, 1) := by decide +kernel
theorem dw_251 : decode code 251 = .ok (.iaload, 1) := by decide +kernel
theorem dw_252 : decode code 252 = .ok (.aload_n 0, 1) := by decide +kernel
theorem dw_253 : decode code 253 = .ok (.iload_n 3, 1) := by decide +kernel
theorem dw_254 : decode code 254 = .ok (.iconst 2, 1) := by decide +kernel
theorem dw_255 : decode code 255 = .ok (.iadd, 1) := by decide +kernel
theorem dw_256 : decode code 256 = .ok (.iaload, 1) := by decide +kernel
theorem dw_257 : decode code 257 = .ok (.aload_n 0, 1) := by decide +kernel
theorem dw_258 : decode code 258 = .ok (.iload_n 3, 1) := by decide +kernel
theorem dw_259 : decode code 259 = .ok (.iconst 3, 1) := by decide +kernel
theorem dw_260 : decode code 260 = .ok (.iadd, 1) := by decide +kernel
theorem dw_261 : decode code 261 = .ok (.iaload, 1) := by decide +kernel
theorem dw_262 : decode code 262 = .ok (.invokevirtual 22, 3) := by decide +kernel
theorem dw_265 : decode code 265 = .ok (.if_icmp .eq 1138, 3) := by decide +kernel
theorem dw_268 : decode code 268 = .ok (.iconst 0, 1) := by decide +kernel
theorem dw_269 : decode code 269 = .ok (.ireturn, 1) := by decide +kernel
theorem dw_270 : decode code 270 = .ok (.aload_n 1, 1) := by decide +kernel
theorem dw_271 : decode code 271 = .ok (.aload_n 0, 1) := by decide +kernel
theorem dw_272 : decode code 272 = .ok (.iload_n 3, 1) := by decide +kernel
theorem dw_273 : decode code 273 = .ok (.iconst 1, 1) := by decide +kernel
theorem dw_274 : decode code 274 = .ok (.iadd, 1) := by decide +kernel
theorem dw_275 : decode code 275 = .ok (.iaload, 1) := by decide +kernel
theorem dw_276 : decode code 276 = .ok (.aload_n 0, 1) := by decide +kernel
theorem dw_277 : decode code 277 = .ok (.iload_n 3, 1) := by decide +kernel
theorem dw_278 : decode code 278 = .ok (.iconst 2, 1) := by decide +kernel
theorem dw_279 : decode code 279 = .ok (.iadd, 1) := by decide +kernel
theorem dw_280 : decode code 280 = .ok (.iaload, 1) := by decide +kernel
theorem dw_281 : decode code 281 = .ok (.aload_n 0, 1) := by decide +kernel
theorem dw_282 : decode code 282 = .ok (.iload_n 3, 1) := by decide +kernel
theorem dw_283 : decode code 283 = .ok (.iconst 3, 1) := by decide +kernel
theorem dw_284 : decode code 284 = .ok (.iadd, 1) := by decide +kernel
theorem dw_285 : decode code 285 = .ok (.iaload, 1) := by decide +kernel
theorem dw_286 : decode code 286 = .ok (.invokevirtual 23, 3) := by decide +kernel
theorem dw_289 : decode code 289 = .ok (.aload_n 2, 1) := by decide +kernel
theorem dw_290 : decode code 290 = .ok (.aload_n 0, 1) := by decide +kernel
theorem dw_291 : decode code 291 = .ok (.iload_n 3, 1) := by decide +kernel
theorem dw_292 : decode code 292 = .ok (.iconst 1, 1) := by decide +kernel
theorem dw_293 : decode code 293 = .ok (.iadd, 1) := by decide +kernel
theorem dw_294 : decode code 294 = .ok (.iaload, 1) := by decide +kernel
theorem dw_295 : decode code 295 = .ok (.aload_n 0, 1) := by decide +kernel
theorem dw_296 : decode code 296 = .ok (.iload_n 3, 1) := by decide +kernel
theorem dw_297 : decode code 297 = .ok (.iconst 2, 1) := by decide +kernel
theorem dw_298 : decode code 298 = .ok (.iadd, 1) := by decide +kernel
theorem dw_299 : decode code 299 = .ok (.iaload, 1) := by decide +kernel
theorem dw_300 : decode code 300 = .ok (.aload_n 0, 1) := by decide +kernel
theorem dw_301 : decode code 301 = .ok (.iload_n 3, 1) := by decide +kernel
theorem dw_302 : decode code 302 = .ok (.iconst 3, 1) := by decide +kernel
theorem dw_303 : decode code 303 = .ok (.iadd, 1) := by decide +kernel
theorem dw_304 : decode code 304 = .ok (.iaload, 1) := by decide +kernel
theorem dw_305 : decode code 305 = .ok (.invokevirtual 26, 3) := by decide +kernel
theorem dw_308 : decode code 308 = .ok (.if_icmp .eq 1095, 3) := by decide +kernel
theorem dw_311 : decode code 311 = .ok (.iconst 0, 1) := by decide +kernel
theorem dw_312 : decode code 312 = .ok (.ireturn, 1) := by decide +kernel
theorem dw_313 : decode code 313 = .ok (.aload_n 1, 1) := by decide +kernel
theorem dw_314 : decode code 314 = .ok (.aload_n 0, 1) := by decide +kernel
theorem dw_315 : decode code 315 = .ok (.iload_n 3, 1) := by decide +kernel
theorem dw_316 : decode code 316 = .ok (.iconst 1, 1) := by decide +kernel
theorem dw_317 : decode code 317 = .ok (.iadd, 1) := by decide +kernel
theorem dw_318 : decode code 318 = .ok (.iaload, 1) := by decide +kernel
theorem dw_319 : decode code 319 = .ok (.aload_n 0, 1) := by decide +kernel
theorem dw_320 : decode code 320 = .ok (.iload_n 3, 1) := by decide +kernel
theorem dw_321 : decode code 321 = .ok (.iconst 2, 1) := by decide +kernel
theorem dw_322 : decode code 322 = .ok (.iadd, 1) := by decide +kernel
theorem dw_323 : decode code 323 = .ok (.iaload, 1) := by decide +kernel
theorem dw_324 : decode code 324 = .ok (.invokevirtual 27, 3) := by decide +kernel
theorem dw_327 : decode code 327 = .ok (.aload_n 2, 1) := by decide +kernel
theorem dw_328 : decode code 328 = .ok (.aload_n 0, 1) := by decide +kernel
theorem dw_329 : decode code 329 = .ok (.iload_n 3, 1) := by decide +kernel
theorem dw_330 : decode code 330 = .ok (.iconst 1, 1) := by decide +kernel
theorem dw_331 : decode code 331 = .ok (.iadd, 1) := by decide +kernel
theorem dw_332 : decode code 332 = .ok (.iaload, 1) := by decide +kernel
theorem dw_333 : decode code 333 = .ok (.aload_n 0, 1) := by decide +kernel
theorem dw_334 : decode code 334 = .ok (.iload_n 3, 1) := by decide +kernel
theorem dw_335 : decode code 335 = .ok (.iconst 2, 1) := by decide +kernel
theorem dw_336 : decode code 336 = .ok (.iadd, 1) := by decide +kernel
theorem dw_337 : decode code 337 = .ok (.iaload, 1) := by decide +kernel
theorem dw_338 : decode code 338 = .ok (.invokevirtual 31, 3) := by decide +kernel
theorem dw_341 : decode code 341 = .ok (.if_icmp .eq 1062, 3) := by decide +kernel
theorem dw_344 : decode code 344 = .ok (.iconst 0, 1) := by decide +kernel
theorem dw_345 : decode code 345 = .ok (.ireturn, 1) := by decide +kernel
theorem dw_346 : decode code 346 = .ok (.aload_n 1, 1) := by decide +kernel
theorem dw_347 : decode code 347 = .ok (.aload_n 0, 1) := by decide +kernel
theorem dw_348 : decode code 348 = .ok (.iload_n 3, 1) := by decide +kernel
theorem dw_349 : decode code 349 = .ok (.iconst 1, 1) := by decide +kernel
theorem dw_350 : decode code 350 = .ok (.iadd, 1) := by decide +kernel
theorem dw_351 : decode code 351 = .ok (.iaload, 1) := by decide +kernel
theorem dw_352 : decode code 352 = .ok (.invokevirtual 32, 3) := by decide +kernel
theorem dw_355 : decode code 355 = .ok (.aload_n 2, 1) := by decide +kernel
theorem dw_356 : decode code 356 = .ok (.aload_n 0, 1) := by decide +kernel
theorem dw_357 : decode code 357 = .ok (.iload_n 3, 1) := by decide +kernel
theorem dw_358 : decode code 358 = .ok (.iconst 1, 1) := by decide +kernel
theorem dw_359 : decode code 359 = .ok (.iadd, 1) := by decide +kernel
theorem dw_360 : decode code 360 = .ok (.iaload, 1) := by decide +kernel
theorem dw_361 : decode code 361 = .ok (.invokevirtual 35, 3) := by decide +kernel
theorem dw_364 : decode code 364 = .ok (.if_icmp .eq 1039, 3) := by decide +kernel
theorem dw_367 : decode code 367 = .ok (.iconst 0, 1) := by decide +kernel
theorem dw_368 : decode code 368 = .ok (.ireturn, 1) := by decide +kernel
theorem dw_369 : decode code 369 = .ok (.aload_n 1, 1) := by decide +kernel
theorem dw_370 : decode code 370 = .ok (.invokevirtual 36, 3) := by decide +kernel
theorem dw_373 : decode code 373 = .ok (.aload_n 2, 1) := by decide +kernel
theorem dw_374 : decode code 374 = .ok (.invokevirtual 40, 3) := by decide +kernel
theorem dw_377 : decode code 377 = .ok (.if_icmp .eq 1026, 3) := by decide +kernel
theorem dw_380 : decode code 380 = .ok (.iconst 0, 1) := by decide +kernel
theorem dw_381 : decode code 381 = .ok (.ireturn, 1) := by decide +kernel
theorem dw_382 : decode code 382 = .ok (.aload_n 1, 1) := by decide +kernel
theorem dw_383 : decode code 383 = .ok (.aload_n 0, 1) := by decide +kernel
theorem dw_384 : decode code 384 = .ok (.iload_n 3, 1) := by decide +kernel
theorem dw_385 : decode code 385 = .ok (.iconst 1, 1) := by decide +kernel
theorem dw_386 : decode code 386 = .ok (.iadd, 1) := by decide +kernel
theorem dw_387 : decode code 387 = .ok (.iaload, 1) := by decide +kernel
theorem dw_388 : decode code 388 = .ok (.invokevirtual 41, 3) := by decide +kernel
theorem dw_391 : decode code 391 = .ok (.aload_n 2, 1) := by decide +kernel
theorem dw_392 : decode code 392 = .ok (.aload_n 0, 1) := by decide +kernel
theorem dw_393 : decode code 393 = .ok (.iload_n 3, 1) := by decide +kernel
theorem dw_394 : decode code 394 = .ok (.iconst 1, 1) := by decide +kernel
theorem dw_395 : decode code 395 = .ok (.iadd, 1) := by decide +kernel
theorem dw_396 : decode code 396 = .ok (.iaload, 1) := by decide +kernel
theorem dw_397 : decode code 397 = .ok (.invokevirtual 44, 3) := by decide +kernel
theorem dw_400 : decode code 400 = .ok (.if_icmp .eq 1003, 3) := by decide +kernel
theorem dw_403 : decode code 403 = .ok (.iconst 0, 1) := by decide +kernel
theorem dw_404 : decode code 404 = .ok (.ireturn, 1) := by decide +kernel
theorem dw_405 : decode code 405 = .ok (.aload_n 1, 1) := by decide +kernel
theorem dw_406 : decode code 406 = .ok (.aload_n 0, 1) := by decide +kernel
theorem dw_407 : decode code 407 = .ok (.iload_n 3, 1) := by decide +kernel
theorem dw_408 : decode code 408 = .ok (.iconst 1, 1) := by decide +kernel
theorem dw_409 : decode code 409 = .ok (.iadd, 1) := by decide +kernel
theorem dw_410 : decode code 410 = .ok (.iaload, 1) := by decide +kernel
theorem dw_411 : decode code 411 = .ok (.aload_n 0, 1) := by decide +kernel
theorem dw_412 : decode code 412 = .ok (.iload_n 3, 1) := by decide +kernel
theorem dw_413 : decode code 413 = .ok (.iconst 2, 1) := by decide +kernel
theorem dw_414 : decode code 414 = .ok (.iadd, 1) := by decide +kernel
theorem dw_415 : decode code 415 = .ok (.iaload, 1) := by decide +kernel
theorem dw_416 : decode code 416 = .ok (.invokevirtual 45, 3) := by decide +kernel
theorem dw_419 : decode code 419 = .ok (.aload_n 2, 1) := by decide +kernel
theorem dw_420 : decode code 420 = .ok (.aload_n 0, 1) := by decide +kernel
theorem dw_421 : decode code 421 = .ok (.iload_n 3, 1) := by decide +kernel
theorem dw_422 : decode code 422 = .ok (.iconst 1, 1) := by decide +kernel
theorem dw_423 : decode code 423 = .ok (.iadd, 1) := by decide +kernel
theorem dw_424 : decode code 424 = .ok (.iaload, 1) := by decide +kernel
theorem dw_425 : decode code 425 = .ok (.aload_n 0, 1) := by decide +kernel
theorem dw_426 : decode code 426 = .ok (.iload_n 3, 1) := by decide +kernel
theorem dw_427 : decode code 427 = .ok (.iconst 2, 1) := by decide +kernel
theorem dw_428 : decode code 428 = .ok (.iadd, 1) := by decide +kernel
theorem dw_429 : decode code 429 = .ok (.iaload, 1) := by decide +kernel
theorem dw_430 : decode code 430 = .ok (.invokevirtual 48, 3) := by decide +kernel
theorem dw_433 : decode code 433 = .ok (.if_icmp .eq 970, 3) := by decide +kernel
theorem dw_436 : decode code 436 = .ok (.iconst 0, 1) := by decide +kernel
theorem dw_437 : decode code 437 = .ok (.ireturn, 1) := by decide +kernel
theorem dw_438 : decode code 438 = .ok (.aload_n 1, 1) := by decide +kernel
theorem dw_439 : decode code 439 = .ok (.aload_n 0, 1) := by decide +kernel
theorem dw_440 : decode code 440 = .ok (.iload_n 3, 1) := by decide +kernel
theorem dw_441 : decode code 441 = .ok (.iconst 1, 1) := by decide +kernel
theorem dw_442 : decode code 442 = .ok (.iadd, 1) := by decide +kernel
theorem dw_443 : decode code 443 = .ok (.iaload, 1) := by decide +kernel
theorem dw_444 : decode code 444 = .ok (.invokevirtual 49, 3) := by decide +kernel
theorem dw_447 : decode code 447 = .ok (.aload_n 2, 1) := by decide +kernel
theorem dw_448 : decode code 448 = .ok (.aload_n 0, 1) := by decide +kernel
theorem dw_449 : decode code 449 = .ok (.iload_n 3, 1) := by decide +kernel
theorem dw_450 : decode code 450 = .ok (.iconst 1, 1) := by decide +kernel
theorem dw_451 : decode code 451 = .ok (.iadd, 1) := by decide +kernel
theorem dw_452 : decode code 452 = .ok (.iaload, 1) := by decide +kernel
theorem dw_453 : decode code 453 = .ok (.invokevirtual 52, 3) := by decide +kernel
theorem dw_456 : decode code 456 = .ok (.if_icmp .eq 947, 3) := by decide +kernel
theorem dw_459 : decode code 459 = .ok (.iconst 0, 1) := by decide +kernel
theorem dw_460 : decode code 460 = .ok (.ireturn, 1) := by decide +kernel
theorem dw_461 : decode code 461 = .ok (.aload_n 1, 1) := by decide +kernel
theorem dw_462 : decode code 462 = .ok (.aload_n 0, 1) := by decide +kernel
theorem dw_463 : decode code 463 = .ok (.iload_n 3, 1) := by decide +kernel
theorem dw_464 : decode code 464 = .ok (.iconst 1, 1) := by decide +kernel
theorem dw_465 : decode code 465 = .ok (.iadd, 1) := by decide +kernel
theorem dw_466 : decode code 466 = .ok (.iaload, 1) := by decide +kernel
theorem dw_467 : decode code 467 = .ok (.invokevirtual 53, 3) := by decide +kernel
theorem dw_470 : decode code 470 = .ok (.aload_n 2, 1) := by decide +kernel
theorem dw_471 : decode code 471 = .ok (.aload_n 0, 1) := by decide +kernel
theorem dw_472 : decode code 472 = .ok (.iload_n 3, 1) := by decide +kernel
theorem dw_473 : decode code 473 = .ok (.iconst 1, 1) := by decide +kernel
theorem dw_474 : decode code 474 = .ok (.iadd, 1) := by decide +kernel
theorem dw_475 : decode code 475 = .ok (.iaload, 1) := by decide +kernel
theorem dw_476 : decode code 476 = .ok (.invokevirtual 56, 3) := by decide +kernel
theorem dw_479 : decode code 479 = .ok (.if_icmp .eq 924, 3) := by decide +kernel
theorem dw_482 : decode code 482 = .ok (.iconst 0, 1) := by decide +kernel
theorem dw_483 : decode code 483 = .ok (.ireturn, 1) := by decide +kernel
theorem dw_484 : decode code 484 = .ok (.aload_n 1, 1) := by decide +kernel
theorem dw_485 : decode code 485 = .ok (.aload_n 0, 1) := by decide +kernel
theorem dw_486 : decode code 486 = .ok (.iload_n 3, 1) := by decide +kernel
theorem dw_487 : decode code 487 = .ok (.iconst 1, 1) := by decide +kernel
theorem dw_488 : decode code 488 = .ok (.iadd, 1) := by decide +kernel
theorem dw_489 : decode code 489 = .ok (.iaload, 1) := by decide +kernel
theorem dw_490 : decode code 490 = .ok (.aload_n 0, 1) := by decide +kernel
theorem dw_491 : decode code 491 = .ok (.iload_n 3, 1) := by decide +kernel
theorem dw_492 : decode code 492 = .ok (.iconst 2, 1) := by decide +kernel
theorem dw_493 : decode code 493 = .ok (.iadd, 1) := by decide +kernel
theorem dw_494 : decode code 494 = .ok (.iaload, 1) := by decide +kernel
theorem dw_495 : decode code 495 = .ok (.invokevirtual 57, 3) := by decide +kernel
theorem dw_498 : decode code 498 = .ok (.aload_n 2, 1) := by decide +kernel
theorem dw_499 : decode code 499 = .ok (.aload_n 0, 1) := by decide +kernel
theorem dw_500 : decode code 500 = .ok (.iload_n 3, 1) := by decide +kernel
theorem dw_501 : decode code 501 = .ok (.iconst 1, 1) := by decide +kernel
theorem dw_502 : decode code 502 = .ok (.iadd, 1) := by decide +kernel
theorem dw_503 : decode code 503 = .ok (.iaload, 1) := by decide +kernel
theorem dw_504 : decode code 504 = .ok (.aload_n 0, 1) := by decide +kernel
theorem dw_505 : decode code 505 = .ok (.iload_n 3, 1) := by decide +kernel
theorem dw_506 : decode code 506 = .ok (.iconst 2, 1) := by decide +kernel
theorem dw_507 : decode code 507 = .ok (.iadd, 1) := by decide +kernel
theorem dw_508 : decode code 508 = .ok (.iaload, 1) := by decide +kernel
theorem dw_509 : decode code 509 = .ok (.invokevirtual 60, 3) := by decide +kernel
theorem dw_512 : decode code 512 = .ok (.if_icmp .eq 891, 3) := by decide +kernel
theorem dw_515 : decode code 515 = .ok (.iconst 0, 1) := by decide +kernel
theorem dw_516 : decode code 516 = .ok (.ireturn, 1) := by decide +kernel
theorem dw_517 : decode code 517 = .ok (.aload_n 1, 1) := by decide +kernel
theorem dw_518 : decode code 518 = .ok (.aload_n 0, 1) := by decide +kernel
theorem dw_519 : decode code 519 = .ok (.iload_n 3, 1) := by decide +kernel
theorem dw_520 : decode code 520 = .ok (.iconst 1, 1) := by decide +kernel
theorem dw_521 : decode code 521 = .ok (.iadd, 1) := by decide +kernel
theorem dw_522 : decode code 522 = .ok (.iaload, 1) := by decide +kernel
theorem dw_523 : decode code 523 = .ok (.invokevirtual 61, 3) := by decide +kernel
theorem dw_526 : decode code 526 = .ok (.aload_n 2, 1) := by decide +kernel
theorem dw_527 : decode code 527 = .ok (.aload_n 0, 1) := by decide +kernel
theorem dw_528 : decode code 528 = .ok (.iload_n 3, 1) := by decide +kernel
theorem dw_529 : decode code 529 = .ok (.iconst 1, 1) := by decide +kernel
theorem dw_530 : decode code 530 = .ok (.iadd, 1) := by decide +kernel
theorem dw_531 : decode code 531 = .ok (.iaload, 1) := by decide +kernel
theorem dw_532 : decode code 532 = .ok (.invokevirtual 64, 3) := by decide +kernel
theorem dw_535 : decode code 535 = .ok (.if_icmp .eq 868, 3) := by decide +kernel
theorem dw_538 : decode code 538 = .ok (.iconst 0, 1) := by decide +kernel
theorem dw_539 : decode code 539 = .ok (.ireturn, 1) := by decide +kernel
theorem dw_540 : decode code 540 = .ok (.aload_n 1, 1) := by decide +kernel
theorem dw_541 : decode code 541 = .ok (.aload_n 0, 1) := by decide +kernel
theorem dw_542 : decode code 542 = .ok (.iload_n 3, 1) := by decide +kernel
theorem dw_543 : decode code 543 = .ok (.iconst 1, 1) := by decide +kernel
theorem dw_544 : decode code 544 = .ok (.iadd, 1) := by decide +kernel
theorem dw_545 : decode code 545 = .ok (.iaload, 1) := by decide +kernel
theorem dw_546 : decode code 546 = .ok (.aload_n 0, 1) := by decide +kernel
theorem dw_547 : decode code 547 = .ok (.iload_n 3, 1) := by decide +kernel
theorem dw_548 : decode code 548 = .ok (.iconst 2, 1) := by decide +kernel
theorem dw_549 : decode code 549 = .ok (.iadd, 1) := by decide +kernel
theorem dw_550 : decode code 550 = .ok (.iaload, 1) := by decide +kernel
theorem dw_551 : decode code 551 = .ok (.invokevirtual 65, 3) := by decide +kernel
theorem dw_554 : decode code 554 = .ok (.aload_n 2, 1) := by decide +kernel
theorem dw_555 : decode code 555 = .ok (.aload_n 0, 1) := by decide +kernel
theorem dw_556 : decode code 556 = .ok (.iload_n 3, 1) := by decide +kernel
theorem dw_557 : decode code 557 = .ok (.iconst 1, 1) := by decide +kernel
theorem dw_558 : decode code 558 = .ok (.iadd, 1) := by decide +kernel
theorem dw_559 : decode code 559 = .ok (.iaload, 1) := by decide +kernel
theorem dw_560 : decode code 560 = .ok (.aload_n 0, 1) := by decide +kernel
theorem dw_561 : decode code 561 = .ok (.iload_n 3, 1) := by decide +kernel
theorem dw_562 : decode code 562 = .ok (.iconst 2, 1) := by decide +kernel
theorem dw_563 : decode code 563 = .ok (.iadd, 1) := by decide +kernel
theorem dw_564 : decode code 564 = .ok (.iaload, 1) := by decide +kernel
theorem dw_565 : decode code 565 = .ok (.invokevirtual 68, 3) := by decide +kernel
theorem dw_568 : decode code 568 = .ok (.if_icmp .eq 835, 3) := by decide +kernel
theorem dw_571 : decode code 571 = .ok (.iconst 0, 1) := by decide +kernel
theorem dw_572 : decode code 572 = .ok (.ireturn, 1) := by decide +kernel
theorem dw_573 : decode code 573 = .ok (.aload_n 1, 1) := by decide +kernel
theorem dw_574 : decode code 574 = .ok (.aload_n 0, 1) := by decide +kernel
theorem dw_575 : decode code 575 = .ok (.iload_n 3, 1) := by decide +kernel
theorem dw_576 : decode code 576 = .ok (.iconst 1, 1) := by decide +kernel
theorem dw_577 : decode code 577 = .ok (.iadd, 1) := by decide +kernel
theorem dw_578 : decode code 578 = .ok (.iaload, 1) := by decide +kernel
theorem dw_579 : decode code 579 = .ok (.invokevirtual 69, 3) := by decide +kernel
theorem dw_582 : decode code 582 = .ok (.aload_n 2, 1) := by decide +kernel
theorem dw_583 : decode code 583 = .ok (.aload_n 0, 1) := by decide +kernel
theorem dw_584 : decode code 584 = .ok (.iload_n 3, 1) := by decide +kernel
theorem dw_585 : decode code 585 = .ok (.iconst 1, 1) := by decide +kernel
theorem dw_586 : decode code 586 = .ok (.iadd, 1) := by decide +kernel
theorem dw_587 : decode code 587 = .ok (.iaload, 1) := by decide +kernel
theorem dw_588 : decode code 588 = .ok (.invokevirtual 72, 3) := by decide +kernel
theorem dw_591 : decode code 591 = .ok (.if_icmp .eq 812, 3) := by decide +kernel
theorem dw_594 : decode code 594 = .ok (.iconst 0, 1) := by decide +kernel
theorem dw_595 : decode code 595 = .ok (.ireturn, 1) := by decide +kernel
theorem dw_596 : decode code 596 = .ok (.aload_n 1, 1) := by decide +kernel
theorem dw_597 : decode code 597 = .ok (.aload_n 0, 1) := by decide +kernel
theorem dw_598 : decode code 598 = .ok (.iload_n 3, 1) := by decide +kernel
theorem dw_599 : decode code 599 = .ok (.iconst 1, 1) := by decide +kernel
theorem dw_600 : decode code 600 = .ok (.iadd, 1) := by decide +kernel
theorem dw_601 : decode code 601 = .ok (.iaload, 1) := by decide +kernel
theorem dw_602 : decode code 602 = .ok (.aload_n 0, 1) := by decide +kernel
theorem dw_603 : decode code 603 = .ok (.iload_n 3, 1) := by decide +kernel
theorem dw_604 : decode code 604 = .ok (.iconst 2, 1) := by decide +kernel
theorem dw_605 : decode code 605 = .ok (.iadd, 1) := by decide +kernel
theorem dw_606 : decode code 606 = .ok (.iaload, 1) := by decide +kernel
theorem dw_607 : decode code 607 = .ok (.invokevirtual 73, 3) := by decide +kernel
theorem dw_610 : decode code 610 = .ok (.aload_n 2, 1) := by decide +kernel
theorem dw_611 : decode code 611 = .ok (.aload_n 0, 1) := by decide +kernel
theorem dw_612 : decode code 612 = .ok (.iload_n 3, 1) := by decide +kernel
theorem dw_613 : decode code 613 = .ok (.iconst 1, 1) := by decide +kernel
theorem dw_614 : decode code 614 = .ok (.iadd, 1) := by decide +kernel
theorem dw_615 : decode code 615 = .ok (.iaload, 1) := by decide +kernel
theorem dw_616 : decode code 616 = .ok (.aload_n 0, 1) := by decide +kernel
theorem dw_617 : decode code 617 = .ok (.iload_n 3, 1) := by decide +kernel
theorem dw_618 : decode code 618 = .ok (.iconst 2, 1) := by decide +kernel
theorem dw_619 : decode code 619 = .ok (.iadd, 1) := by decide +kernel
theorem dw_620 : decode code 620 = .ok (.iaload, 1) := by decide +kernel
theorem dw_621 : decode code 621 = .ok (.invokevirtual 76, 3) := by decide +kernel
theorem dw_624 : decode code 624 = .ok (.if_icmp .eq 779, 3) := by decide +kernel
theorem dw_627 : decode code 627 = .ok (.iconst 0, 1) := by decide +kernel
theorem dw_628 : decode code 628 = .ok (.ireturn, 1) := by decide +kernel
theorem dw_629 : decode code 629 = .ok (.aload_n 1, 1) := by decide +kernel
theorem dw_630 : decode code 630 = .ok (.aload_n 0, 1) := by decide +kernel
theorem dw_631 : decode code 631 = .ok (.iload_n 3, 1) := by decide +kernel
theorem dw_632 : decode code 632 = .ok (.iconst 1, 1) := by decide +kernel
theorem dw_633 : decode code 633 = .ok (.iadd, 1) := by decide +kernel
theorem dw_634 : decode code 634 = .ok (.iaload, 1) := by decide +kernel
theorem dw_635 : decode code 635 = .ok (.aload_n 0, 1) := by decide +kernel
theorem dw_636 : decode code 636 = .ok (.iload_n 3, 1) := by decide +kernel
theorem dw_637 : decode code 637 = .ok (.iconst 2, 1) := by decide +kernel
theorem dw_638 : decode code 638 = .ok (.iadd, 1) := by decide +kernel
theorem dw_639 : decode code 639 = .ok (.iaload, 1) := by decide +kernel
theorem dw_640 : decode code 640 = .ok (.invokevirtual 77, 3) := by decide +kernel
theorem dw_643 : decode code 643 = .ok (.aload_n 2, 1) := by decide +kernel
theorem dw_644 : decode code 644 = .ok (.aload_n 0, 1) := by decide +kernel
theorem dw_645 : decode code 645 = .ok (.iload_n 3, 1) := by decide +kernel
theorem dw_646 : decode code 646 = .ok (.iconst 1, 1) := by decide +kernel
theorem dw_647 : decode code 647 = .ok (.iadd, 1) := by decide +kernel
theorem dw_648 : decode code 648 = .ok (.iaload, 1) := by decide +kernel
theorem dw_649 : decode code 649 = .ok (.aload_n 0, 1) := by decide +kernel
theorem dw_650 : decode code 650 = .ok (.iload_n 3, 1) := by decide +kernel
theorem dw_651 : decode code 651 = .ok (.iconst 2, 1) := by decide +kernel
theorem dw_652 : decode code 652 = .ok (.iadd, 1) := by decide +kernel
theorem dw_653 : decode code 653 = .ok (.iaload, 1) := by decide +kernel
theorem dw_654 : decode code 654 = .ok (.invokevirtual 80, 3) := by decide +kernel
theorem dw_657 : decode code 657 = .ok (.if_icmp .eq 746, 3) := by decide +kernel
theorem dw_660 : decode code 660 = .ok (.iconst 0, 1) := by decide +kernel
theorem dw_661 : decode code 661 = .ok (.ireturn, 1) := by decide +kernel
theorem dw_662 : decode code 662 = .ok (.aload_n 1, 1) := by decide +kernel
theorem dw_663 : decode code 663 = .ok (.aload_n 0, 1) := by decide +kernel
theorem dw_664 : decode code 664 = .ok (.iload_n 3, 1) := by decide +kernel
theorem dw_665 : decode code 665 = .ok (.iconst 1, 1) := by decide +kernel
theorem dw_666 : decode code 666 = .ok (.iadd, 1) := by decide +kernel
theorem dw_667 : decode code 667 = .ok (.iaload, 1) := by decide +kernel
theorem dw_668 : decode code 668 = .ok (.aload_n 0, 1) := by decide +kernel
theorem dw_669 : decode code 669 = .ok (.iload_n 3, 1) := by decide +kernel
theorem dw_670 : decode code 670 = .ok (.iconst 2, 1) := by decide +kernel
theorem dw_671 : decode code 671 = .ok (.iadd, 1) := by decide +kernel
theorem dw_672 : decode code 672 = .ok (.iaload, 1) := by decide +kernel
theorem dw_673 : decode code 673 = .ok (.aload_n 0, 1) := by decide +kernel
theorem dw_674 : decode code 674 = .ok (.iload_n 3, 1) := by decide +kernel
theorem dw_675 : decode code 675 = .ok (.iconst 3, 1) := by decide +kernel
theorem dw_676 : decode code 676 = .ok (.iadd, 1) := by decide +kernel
theorem dw_677 : decode code 677 = .ok (.iaload, 1) := by decide +kernel
theorem dw_678 : decode code 678 = .ok (.invokevirtual 81, 3) := by decide +kernel
theorem dw_681 : decode code 681 = .ok (.aload_n 2, 1) := by decide +kernel
theorem dw_682 : decode code 682 = .ok (.aload_n 0, 1) := by decide +kernel
theorem dw_683 : decode code 683 = .ok (.iload_n 3, 1) := by decide +kernel
theorem dw_684 : decode code 684 = .ok (.iconst 1, 1) := by decide +kernel
theorem dw_685 : decode code 685 = .ok (.iadd, 1) := by decide +kernel
theorem dw_686 : decode code 686 = .ok (.iaload, 1) := by decide +kernel
theorem dw_687 : decode code 687 = .ok (.aload_n 0, 1) := by decide +kernel
theorem dw_688 : decode code 688 = .ok (.iload_n 3, 1) := by decide +kernel
theorem dw_689 : decode code 689 = .ok (.iconst 2, 1) := by decide +kernel
theorem dw_690 : decode code 690 = .ok (.iadd, 1) := by decide +kernel
theorem dw_691 : decode code 691 = .ok (.iaload, 1) := by decide +kernel
theorem dw_692 : decode code 692 = .ok (.aload_n 0, 1) := by decide +kernel
theorem dw_693 : decode code 693 = .ok (.iload_n 3, 1) := by decide +kernel
theorem dw_694 : decode code 694 = .ok (.iconst 3, 1) := by decide +kernel
theorem dw_695 : decode code 695 = .ok (.iadd, 1) := by decide +kernel
theorem dw_696 : decode code 696 = .ok (.iaload, 1) := by decide +kernel
theorem dw_697 : decode code 697 = .ok (.invokevirtual 84, 3) := by decide +kernel
theorem dw_700 : decode code 700 = .ok (.if_icmp .eq 703, 3) := by decide +kernel
theorem dw_703 : decode code 703 = .ok (.iconst 0, 1) := by decide +kernel
theorem dw_704 : decode code 704 = .ok (.ireturn, 1) := by decide +kernel
theorem dw_705 : decode code 705 = .ok (.aload_n 1, 1) := by decide +kernel
theorem dw_706 : decode code 706 = .ok (.aload_n 0, 1) := by decide +kernel
theorem dw_707 : decode code 707 = .ok (.iload_n 3, 1) := by decide +kernel
theorem dw_708 : decode code 708 = .ok (.iconst 1, 1) := by decide +kernel
theorem dw_709 : decode code 709 = .ok (.iadd, 1) := by decide +kernel
theorem dw_710 : decode code 710 = .ok (.iaload, 1) := by decide +kernel
theorem dw_711 : decode code 711 = .ok (.aload_n 0, 1) := by decide +kernel
theorem dw_712 : decode code 712 = .ok (.iload_n 3, 1) := by decide +kernel
theorem dw_713 : decode code 713 = .ok (.iconst 2, 1) := by decide +kernel
theorem dw_714 : decode code 714 = .ok (.iadd, 1) := by decide +kernel
theorem dw_715 : decode code 715 = .ok (.iaload, 1) := by decide +kernel
theorem dw_716 : decode code 716 = .ok (.invokevirtual 85, 3) := by decide +kernel
theorem dw_719 : decode code 719 = .ok (.aload_n 2, 1) := by decide +kernel
theorem dw_720 : decode code 720 = .ok (.aload_n 0, 1) := by decide +kernel
theorem dw_721 : decode code 721 = .ok (.iload_n 3, 1) := by decide +kernel
theorem dw_722 : decode code 722 = .ok (.iconst 1, 1) := by decide +kernel
theorem dw_723 : decode code 723 = .ok (.iadd, 1) := by decide +kernel
theorem dw_724 : decode code 724 = .ok (.iaload, 1) := by decide +kernel
theorem dw_725 : decode code 725 = .ok (.aload_n 0, 1) := by decide +kernel
theorem dw_726 : decode code 726 = .ok (.iload_n 3, 1) := by decide +kernel
theorem dw_727 : decode code 727 = .ok (.iconst 2, 1) := by decide +kernel
theorem dw_728 : decode code 728 = .ok (.iadd, 1) := by decide +kernel
theorem dw_729 : decode code 729 = .ok (.iaload, 1) := by decide +kernel
theorem dw_730 : decode code 730 = .ok (.invokevirtual 89, 3) := by decide +kernel
theorem dw_733 : decode code 733 = .ok (.lcmp, 1) := by decide +kernel
theorem dw_734 : decode code 734 = .ok (.ifCond .eq 669, 3) := by decide +kernel
theorem dw_737 : decode code 737 = .ok (.iconst 0, 1) := by decide +kernel
theorem dw_738 : decode code 738 = .ok (.ireturn, 1) := by decide +kernel
theorem dw_739 : decode code 739 = .ok (.aload_n 1, 1) := by decide +kernel
theorem dw_740 : decode code 740 = .ok (.aload_n 0, 1) := by decide +kernel
theorem dw_741 : decode code 741 = .ok (.iload_n 3, 1) := by decide +kernel
theorem dw_742 : decode code 742 = .ok (.iconst 1, 1) := by decide +kernel
theorem dw_743 : decode code 743 = .ok (.iadd, 1) := by decide +kernel
theorem dw_744 : decode code 744 = .ok (.iaload, 1) := by decide +kernel
theorem dw_745 : decode code 745 = .ok (.aload_n 0, 1) := by decide +kernel
theorem dw_746 : decode code 746 = .ok (.iload_n 3, 1) := by decide +kernel
theorem dw_747 : decode code 747 = .ok (.iconst 2, 1) := by decide +kernel
theorem dw_748 : decode code 748 = .ok (.iadd, 1) := by decide +kernel
theorem dw_749 : decode code 749 = .ok (.iaload, 1) := by decide +kernel
theorem dw_750 : decode code 750 = .ok (.invokevirtual 90, 3) := by decide +kernel
theorem dw_753 : decode code 753 = .ok (.aload_n 2, 1) := by decide +kernel
theorem dw_754 : decode code 754 = .ok (.aload_n 0, 1) := by decide +kernel
theorem dw_755 : decode code 755 = .ok (.iload_n 3, 1) := by decide +kernel
theorem dw_756 : decode code 756 = .ok (.iconst 1, 1) := by decide +kernel
theorem dw_757 : decode code 757 = .ok (.iadd, 1) := by decide +kernel
theorem dw_758 : decode code 758 = .ok (.iaload, 1) := by decide +kernel
theorem dw_759 : decode code 759 = .ok (.aload_n 0, 1) := by decide +kernel
theorem dw_760 : decode code 760 = .ok (.iload_n 3, 1) := by decide +kernel
theorem dw_761 : decode code 761 = .ok (.iconst 2, 1) := by decide +kernel
theorem dw_762 : decode code 762 = .ok (.iadd, 1) := by decide +kernel
theorem dw_763 : decode code 763 = .ok (.iaload, 1) := by decide +kernel
theorem dw_764 : decode code 764 = .ok (.invokevirtual 93, 3) := by decide +kernel
theorem dw_767 : decode code 767 = .ok (.if_icmp .eq 636, 3) := by decide +kernel
theorem dw_770 : decode code 770 = .ok (.iconst 0, 1) := by decide +kernel
theorem dw_771 : decode code 771 = .ok (.ireturn, 1) := by decide +kernel
theorem dw_772 : decode code 772 = .ok (.aload_n 1, 1) := by decide +kernel
theorem dw_773 : decode code 773 = .ok (.aload_n 0, 1) := by decide +kernel
theorem dw_774 : decode code 774 = .ok (.iload_n 3, 1) := by decide +kernel
theorem dw_775 : decode code 775 = .ok (.iconst 1, 1) := by decide +kernel
theorem dw_776 : decode code 776 = .ok (.iadd, 1) := by decide +kernel
theorem dw_777 : decode code 777 = .ok (.iaload, 1) := by decide +kernel
theorem dw_778 : decode code 778 = .ok (.aload_n 0, 1) := by decide +kernel
theorem dw_779 : decode code 779 = .ok (.iload_n 3, 1) := by decide +kernel
theorem dw_780 : decode code 780 = .ok (.iconst 2, 1) := by decide +kernel
theorem dw_781 : decode code 781 = .ok (.iadd, 1) := by decide +kernel
theorem dw_782 : decode code 782 = .ok (.iaload, 1) := by decide +kernel
theorem dw_783 : decode code 783 = .ok (.invokevirtual 94, 3) := by decide +kernel
theorem dw_786 : decode code 786 = .ok (.aload_n 2, 1) := by decide +kernel
theorem dw_787 : decode code 787 = .ok (.aload_n 0, 1) := by decide +kernel
theorem dw_788 : decode code 788 = .ok (.iload_n 3, 1) := by decide +kernel
theorem dw_789 : decode code 789 = .ok (.iconst 1, 1) := by decide +kernel
theorem dw_790 : decode code 790 = .ok (.iadd, 1) := by decide +kernel
theorem dw_791 : decode code 791 = .ok (.iaload, 1) := by decide +kernel
theorem dw_792 : decode code 792 = .ok (.aload_n 0, 1) := by decide +kernel
theorem dw_793 : decode code 793 = .ok (.iload_n 3, 1) := by decide +kernel
theorem dw_794 : decode code 794 = .ok (.iconst 2, 1) := by decide +kernel
theorem dw_795 : decode code 795 = .ok (.iadd, 1) := by decide +kernel
theorem dw_796 : decode code 796 = .ok (.iaload, 1) := by decide +kernel
theorem dw_797 : decode code 797 = .ok (.invokevirtual 97, 3) := by decide +kernel
theorem dw_800 : decode code 800 = .ok (.if_icmp .eq 603, 3) := by decide +kernel
theorem dw_803 : decode code 803 = .ok (.iconst 0, 1) := by decide +kernel
theorem dw_804 : decode code 804 = .ok (.ireturn, 1) := by decide +kernel
theorem dw_805 : decode code 805 = .ok (.aload_n 1, 1) := by decide +kernel
theorem dw_806 : decode code 806 = .ok (.aload_n 0, 1) := by decide +kernel
theorem dw_807 : decode code 807 = .ok (.iload_n 3, 1) := by decide +kernel
theorem dw_808 : decode code 808 = .ok (.iconst 1, 1) := by decide +kernel
theorem dw_809 : decode code 809 = .ok (.iadd, 1) := by decide +kernel
theorem dw_810 : decode code 810 = .ok (.iaload, 1) := by decide +kernel
theorem dw_811 : decode code 811 = .ok (.aload_n 0, 1) := by decide +kernel
theorem dw_812 : decode code 812 = .ok (.iload_n 3, 1) := by decide +kernel
theorem dw_813 : decode code 813 = .ok (.iconst 2, 1) := by decide +kernel
theorem dw_814 : decode code 814 = .ok (.iadd, 1) := by decide +kernel
theorem dw_815 : decode code 815 = .ok (.iaload, 1) := by decide +kernel
theorem dw_816 : decode code 816 = .ok (.aload_n 0, 1) := by decide +kernel
theorem dw_817 : decode code 817 = .ok (.iload_n 3, 1) := by decide +kernel
theorem dw_818 : decode code 818 = .ok (.iconst 3, 1) := by decide +kernel
theorem dw_819 : decode code 819 = .ok (.iadd, 1) := by decide +kernel
theorem dw_820 : decode code 820 = .ok (.iaload, 1) := by decide +kernel
theorem dw_821 : decode code 821 = .ok (.invokevirtual 98, 3) := by decide +kernel
theorem dw_824 : decode code 824 = .ok (.aload_n 2, 1) := by decide +kernel
theorem dw_825 : decode code 825 = .ok (.aload_n 0, 1) := by decide +kernel
theorem dw_826 : decode code 826 = .ok (.iload_n 3, 1) := by decide +kernel
theorem dw_827 : decode code 827 = .ok (.iconst 1, 1) := by decide +kernel
theorem dw_828 : decode code 828 = .ok (.iadd, 1) := by decide +kernel
theorem dw_829 : decode code 829 = .ok (.iaload, 1) := by decide +kernel
theorem dw_830 : decode code 830 = .ok (.aload_n 0, 1) := by decide +kernel
theorem dw_831 : decode code 831 = .ok (.iload_n 3, 1) := by decide +kernel
theorem dw_832 : decode code 832 = .ok (.iconst 2, 1) := by decide +kernel
theorem dw_833 : decode code 833 = .ok (.iadd, 1) := by decide +kernel
theorem dw_834 : decode code 834 = .ok (.iaload, 1) := by decide +kernel
theorem dw_835 : decode code 835 = .ok (.aload_n 0, 1) := by decide +kernel
theorem dw_836 : decode code 836 = .ok (.iload_n 3, 1) := by decide +kernel
theorem dw_837 : decode code 837 = .ok (.iconst 3, 1) := by decide +kernel
theorem dw_838 : decode code 838 = .ok (.iadd, 1) := by decide +kernel
theorem dw_839 : decode code 839 = .ok (.iaload, 1) := by decide +kernel
theorem dw_840 : decode code 840 = .ok (.invokevirtual 101, 3) := by decide +kernel
theorem dw_843 : decode code 843 = .ok (.if_icmp .eq 560, 3) := by decide +kernel
theorem dw_846 : decode code 846 = .ok (.iconst 0, 1) := by decide +kernel
theorem dw_847 : decode code 847 = .ok (.ireturn, 1) := by decide +kernel
theorem dw_848 : decode code 848 = .ok (.aload_n 1, 1) := by decide +kernel
theorem dw_849 : decode code 849 = .ok (.invokevirtual 102, 3) := by decide +kernel
theorem dw_852 : decode code 852 = .ok (.aload_n 2, 1) := by decide +kernel
theorem dw_853 : decode code 853 = .ok (.invokevirtual 105, 3) := by decide +kernel
theorem dw_856 : decode code 856 = .ok (.if_icmp .eq 547, 3) := by decide +kernel
theorem dw_859 : decode code 859 = .ok (.iconst 0, 1) := by decide +kernel
theorem dw_860 : decode code 860 = .ok (.ireturn, 1) := by decide +kernel
theorem dw_861 : decode code 861 = .ok (.aload_n 1, 1) := by decide +kernel
theorem dw_862 : decode code 862 = .ok (.aload_n 0, 1) := by decide +kernel
theorem dw_863 : decode code 863 = .ok (.iload_n 3, 1) := by decide +kernel
theorem dw_864 : decode code 864 = .ok (.iconst 1, 1) := by decide +kernel
theorem dw_865 : decode code 865 = .ok (.iadd, 1) := by decide +kernel
theorem dw_866 : decode code 866 = .ok (.iaload, 1) := by decide +kernel
theorem dw_867 : decode code 867 = .ok (.aload_n 0, 1) := by decide +kernel
theorem dw_868 : decode code 868 = .ok (.iload_n 3, 1) := by decide +kernel
theorem dw_869 : decode code 869 = .ok (.iconst 2, 1) := by decide +kernel
theorem dw_870 : decode code 870 = .ok (.iadd, 1) := by decide +kernel
theorem dw_871 : decode code 871 = .ok (.iaload, 1) := by decide +kernel
theorem dw_872 : decode code 872 = .ok (.invokevirtual 106, 3) := by decide +kernel
theorem dw_875 : decode code 875 = .ok (.aload_n 2, 1) := by decide +kernel
theorem dw_876 : decode code 876 = .ok (.aload_n 0, 1) := by decide +kernel
theorem dw_877 : decode code 877 = .ok (.iload_n 3, 1) := by decide +kernel
theorem dw_878 : decode code 878 = .ok (.iconst 1, 1) := by decide +kernel
theorem dw_879 : decode code 879 = .ok (.iadd, 1) := by decide +kernel
theorem dw_880 : decode code 880 = .ok (.iaload, 1) := by decide +kernel
theorem dw_881 : decode code 881 = .ok (.aload_n 0, 1) := by decide +kernel
theorem dw_882 : decode code 882 = .ok (.iload_n 3, 1) := by decide +kernel
theorem dw_883 : decode code 883 = .ok (.iconst 2, 1) := by decide +kernel
theorem dw_884 : decode code 884 = .ok (.iadd, 1) := by decide +kernel
theorem dw_885 : decode code 885 = .ok (.iaload, 1) := by decide +kernel
theorem dw_886 : decode code 886 = .ok (.invokevirtual 109, 3) := by decide +kernel
theorem dw_889 : decode code 889 = .ok (.if_icmp .eq 514, 3) := by decide +kernel
theorem dw_892 : decode code 892 = .ok (.iconst 0, 1) := by decide +kernel
theorem dw_893 : decode code 893 = .ok (.ireturn, 1) := by decide +kernel
theorem dw_894 : decode code 894 = .ok (.aload_n 1, 1) := by decide +kernel
theorem dw_895 : decode code 895 = .ok (.aload_n 0, 1) := by decide +kernel
theorem dw_896 : decode code 896 = .ok (.iload_n 3, 1) := by decide +kernel
theorem dw_897 : decode code 897 = .ok (.iconst 1, 1) := by decide +kernel
theorem dw_898 : decode code 898 = .ok (.iadd, 1) := by decide +kernel
theorem dw_899 : decode code 899 = .ok (.iaload, 1) := by decide +kernel
theorem dw_900 : decode code 900 = .ok (.aload_n 0, 1) := by decide +kernel
theorem dw_901 : decode code 901 = .ok (.iload_n 3, 1) := by decide +kernel
theorem dw_902 : decode code 902 = .ok (.iconst 2, 1) := by decide +kernel
theorem dw_903 : decode code 903 = .ok (.iadd, 1) := by decide +kernel
theorem dw_904 : decode code 904 = .ok (.iaload, 1) := by decide +kernel
theorem dw_905 : decode code 905 = .ok (.aload_n 0, 1) := by decide +kernel
theorem dw_906 : decode code 906 = .ok (.iload_n 3, 1) := by decide +kernel
theorem dw_907 : decode code 907 = .ok (.iconst 3, 1) := by decide +kernel
theorem dw_908 : decode code 908 = .ok (.iadd, 1) := by decide +kernel
theorem dw_909 : decode code 909 = .ok (.iaload, 1) := by decide +kernel
theorem dw_910 : decode code 910 = .ok (.invokevirtual 110, 3) := by decide +kernel
theorem dw_913 : decode code 913 = .ok (.aload_n 2, 1) := by decide +kernel
theorem dw_914 : decode code 914 = .ok (.aload_n 0, 1) := by decide +kernel
theorem dw_915 : decode code 915 = .ok (.iload_n 3, 1) := by decide +kernel
theorem dw_916 : decode code 916 = .ok (.iconst 1, 1) := by decide +kernel
theorem dw_917 : decode code 917 = .ok (.iadd, 1) := by decide +kernel
theorem dw_918 : decode code 918 = .ok (.iaload, 1) := by decide +kernel
theorem dw_919 : decode code 919 = .ok (.aload_n 0, 1) := by decide +kernel
theorem dw_920 : decode code 920 = .ok (.iload_n 3, 1) := by decide +kernel
theorem dw_921 : decode code 921 = .ok (.iconst 2, 1) := by decide +kernel
theorem dw_922 : decode code 922 = .ok (.iadd, 1) := by decide +kernel
theorem dw_923 : decode code 923 = .ok (.iaload, 1) := by decide +kernel
theorem dw_924 : decode code 924 = .ok (.aload_n 0, 1) := by decide +kernel
theorem dw_925 : decode code 925 = .ok (.iload_n 3, 1) := by decide +kernel
theorem dw_926 : decode code 926 = .ok (.iconst 3, 1) := by decide +kernel
theorem dw_927 : decode code 927 = .ok (.iadd, 1) := by decide +kernel
theorem dw_928 : decode code 928 = .ok (.iaload, 1) := by decide +kernel
theorem dw_929 : decode code 929 = .ok (.invokevirtual 113, 3) := by decide +kernel
theorem dw_932 : decode code 932 = .ok (.if_icmp .eq 471, 3) := by decide +kernel
theorem dw_935 : decode code 935 = .ok (.iconst 0, 1) := by decide +kernel
theorem dw_936 : decode code 936 = .ok (.ireturn, 1) := by decide +kernel
theorem dw_937 : decode code 937 = .ok (.aload_n 1, 1) := by decide +kernel
theorem dw_938 : decode code 938 = .ok (.aload_n 0, 1) := by decide +kernel
theorem dw_939 : decode code 939 = .ok (.iload_n 3, 1) := by decide +kernel
theorem dw_940 : decode code 940 = .ok (.iconst 1, 1) := by decide +kernel
theorem dw_941 : decode code 941 = .ok (.iadd, 1) := by decide +kernel
theorem dw_942 : decode code 942 = .ok (.iaload, 1) := by decide +kernel
theorem dw_943 : decode code 943 = .ok (.invokevirtual 114, 3) := by decide +kernel
theorem dw_946 : decode code 946 = .ok (.aload_n 2, 1) := by decide +kernel
theorem dw_947 : decode code 947 = .ok (.aload_n 0, 1) := by decide +kernel
theorem dw_948 : decode code 948 = .ok (.iload_n 3, 1) := by decide +kernel
theorem dw_949 : decode code 949 = .ok (.iconst 1, 1) := by decide +kernel
theorem dw_950 : decode code 950 = .ok (.iadd, 1) := by decide +kernel
theorem dw_951 : decode code 951 = .ok (.iaload, 1) := by decide +kernel
theorem dw_952 : decode code 952 = .ok (.invokevirtual 117, 3) := by decide +kernel
theorem dw_955 : decode code 955 = .ok (.if_icmp .eq 448, 3) := by decide +kernel
theorem dw_958 : decode code 958 = .ok (.iconst 0, 1) := by decide +kernel
theorem dw_959 : decode code 959 = .ok (.ireturn, 1) := by decide +kernel
theorem dw_960 : decode code 960 = .ok (.aload_n 1, 1) := by decide +kernel
theorem dw_961 : decode code 961 = .ok (.invokevirtual 118, 3) := by decide +kernel
theorem dw_964 : decode code 964 = .ok (.aload_n 2, 1) := by decide +kernel
theorem dw_965 : decode code 965 = .ok (.invokevirtual 121, 3) := by decide +kernel
theorem dw_968 : decode code 968 = .ok (.if_icmp .eq 435, 3) := by decide +kernel
theorem dw_971 : decode code 971 = .ok (.iconst 0, 1) := by decide +kernel
theorem dw_972 : decode code 972 = .ok (.ireturn, 1) := by decide +kernel
theorem dw_973 : decode code 973 = .ok (.aload_n 1, 1) := by decide +kernel
theorem dw_974 : decode code 974 = .ok (.invokevirtual 122, 3) := by decide +kernel
theorem dw_977 : decode code 977 = .ok (.aload_n 2, 1) := by decide +kernel
theorem dw_978 : decode code 978 = .ok (.invokevirtual 125, 3) := by decide +kernel
theorem dw_981 : decode code 981 = .ok (.if_icmp .eq 422, 3) := by decide +kernel
theorem dw_984 : decode code 984 = .ok (.iconst 0, 1) := by decide +kernel
theorem dw_985 : decode code 985 = .ok (.ireturn, 1) := by decide +kernel
theorem dw_986 : decode code 986 = .ok (.aload_n 1, 1) := by decide +kernel
theorem dw_987 : decode code 987 = .ok (.invokevirtual 126, 3) := by decide +kernel
theorem dw_990 : decode code 990 = .ok (.aload_n 2, 1) := by decide +kernel
theorem dw_991 : decode code 991 = .ok (.invokevirtual 129, 3) := by decide +kernel
theorem dw_994 : decode code 994 = .ok (.if_icmp .eq 409, 3) := by decide +kernel
theorem dw_997 : decode code 997 = .ok (.iconst 0, 1) := by decide +kernel
theorem dw_998 : decode code 998 = .ok (.ireturn, 1) := by decide +kernel
theorem dw_999 : decode code 999 = .ok (.aload_n 1, 1) := by decide +kernel
theorem dw_1000 : decode code 1000 = .ok (.invokevirtual 130, 3) := by decide +kernel
theorem dw_1003 : decode code 1003 = .ok (.aload_n 2, 1) := by decide +kernel
theorem dw_1004 : decode code 1004 = .ok (.invokevirtual 133, 3) := by decide +kernel
theorem dw_1007 : decode code 1007 = .ok (.if_icmp .eq 396, 3) := by decide +kernel
theorem dw_1010 : decode code 1010 = .ok (.iconst 0, 1) := by decide +kernel
theorem dw_1011 : decode code 1011 = .ok (.ireturn, 1) := by decide +kernel
theorem dw_1012 : decode code 1012 = .ok (.aload_n 1, 1) := by decide +kernel
theorem dw_1013 : decode code 1013 = .ok (.aload_n 0, 1) := by decide +kernel
theorem dw_1014 : decode code 1014 = .ok (.iload_n 3, 1) := by decide +kernel
theorem dw_1015 : decode code 1015 = .ok (.iconst 1, 1) := by decide +kernel
theorem dw_1016 : decode code 1016 = .ok (.iadd, 1) := by decide +kernel
theorem dw_1017 : decode code 1017 = .ok (.iaload, 1) := by decide +kernel
theorem dw_1018 : decode code 1018 = .ok (.invokevirtual 134, 3) := by decide +kernel
theorem dw_1021 : decode code 1021 = .ok (.aload_n 2, 1) := by decide +kernel
theorem dw_1022 : decode code 1022 = .ok (.aload_n 0, 1) := by decide +kernel
theorem dw_1023 : decode code 1023 = .ok (.iload_n 3, 1) := by decide +kernel
theorem dw_1024 : decode code 1024 = .ok (.iconst 1, 1) := by decide +kernel
theorem dw_1025 : decode code 1025 = .ok (.iadd, 1) := by decide +kernel
theorem dw_1026 : decode code 1026 = .ok (.iaload, 1) := by decide +kernel
theorem dw_1027 : decode code 1027 = .ok (.invokevirtual 137, 3) := by decide +kernel
theorem dw_1030 : decode code 1030 = .ok (.if_icmp .eq 373, 3) := by decide +kernel
theorem dw_1033 : decode code 1033 = .ok (.iconst 0, 1) := by decide +kernel
theorem dw_1034 : decode code 1034 = .ok (.ireturn, 1) := by decide +kernel
theorem dw_1035 : decode code 1035 = .ok (.aload_n 1, 1) := by decide +kernel
theorem dw_1036 : decode code 1036 = .ok (.aload_n 0, 1) := by decide +kernel
theorem dw_1037 : decode code 1037 = .ok (.iload_n 3, 1) := by decide +kernel
theorem dw_1038 : decode code 1038 = .ok (.iconst 1, 1) := by decide +kernel
theorem dw_1039 : decode code 1039 = .ok (.iadd, 1) := by decide +kernel
theorem dw_1040 : decode code 1040 = .ok (.iaload, 1) := by decide +kernel
theorem dw_1041 : decode code 1041 = .ok (.aload_n 0, 1) := by decide +kernel
theorem dw_1042 : decode code 1042 = .ok (.iload_n 3, 1) := by decide +kernel
theorem dw_1043 : decode code 1043 = .ok (.iconst 2, 1) := by decide +kernel
theorem dw_1044 : decode code 1044 = .ok (.iadd, 1) := by decide +kernel
theorem dw_1045 : decode code 1045 = .ok (.iaload, 1) := by decide +kernel
theorem dw_1046 : decode code 1046 = .ok (.aload_n 0, 1) := by decide +kernel
theorem dw_1047 : decode code 1047 = .ok (.iload_n 3, 1) := by decide +kernel
theorem dw_1048 : decode code 1048 = .ok (.iconst 3, 1) := by decide +kernel
theorem dw_1049 : decode code 1049 = .ok (.iadd, 1) := by decide +kernel
theorem dw_1050 : decode code 1050 = .ok (.iaload, 1) := by decide +kernel
theorem dw_1051 : decode code 1051 = .ok (.invokevirtual 138, 3) := by decide +kernel
theorem dw_1054 : decode code 1054 = .ok (.aload_n 2, 1) := by decide +kernel
theorem dw_1055 : decode code 1055 = .ok (.aload_n 0, 1) := by decide +kernel
theorem dw_1056 : decode code 1056 = .ok (.iload_n 3, 1) := by decide +kernel
theorem dw_1057 : decode code 1057 = .ok (.iconst 1, 1) := by decide +kernel
theorem dw_1058 : decode code 1058 = .ok (.iadd, 1) := by decide +kernel
theorem dw_1059 : decode code 1059 = .ok (.iaload, 1) := by decide +kernel
theorem dw_1060 : decode code 1060 = .ok (.aload_n 0, 1) := by decide +kernel
theorem dw_1061 : decode code 1061 = .ok (.iload_n 3, 1) := by decide +kernel
theorem dw_1062 : decode code 1062 = .ok (.iconst 2, 1) := by decide +kernel
theorem dw_1063 : decode code 1063 = .ok (.iadd, 1) := by decide +kernel
theorem dw_1064 : decode code 1064 = .ok (.iaload, 1) := by decide +kernel
theorem dw_1065 : decode code 1065 = .ok (.aload_n 0, 1) := by decide +kernel
theorem dw_1066 : decode code 1066 = .ok (.iload_n 3, 1) := by decide +kernel
theorem dw_1067 : decode code 1067 = .ok (.iconst 3, 1) := by decide +kernel
theorem dw_1068 : decode code 1068 = .ok (.iadd, 1) := by decide +kernel
theorem dw_1069 : decode code 1069 = .ok (.iaload, 1) := by decide +kernel
theorem dw_1070 : decode code 1070 = .ok (.invokevirtual 141, 3) := by decide +kernel
theorem dw_1073 : decode code 1073 = .ok (.if_icmp .eq 330, 3) := by decide +kernel
theorem dw_1076 : decode code 1076 = .ok (.iconst 0, 1) := by decide +kernel
theorem dw_1077 : decode code 1077 = .ok (.ireturn, 1) := by decide +kernel
theorem dw_1078 : decode code 1078 = .ok (.aload_n 1, 1) := by decide +kernel
theorem dw_1079 : decode code 1079 = .ok (.aload_n 0, 1) := by decide +kernel
theorem dw_1080 : decode code 1080 = .ok (.iload_n 3, 1) := by decide +kernel
theorem dw_1081 : decode code 1081 = .ok (.iconst 1, 1) := by decide +kernel
theorem dw_1082 : decode code 1082 = .ok (.iadd, 1) := by decide +kernel
theorem dw_1083 : decode code 1083 = .ok (.iaload, 1) := by decide +kernel
theorem dw_1084 : decode code 1084 = .ok (.invokevirtual 142, 3) := by decide +kernel
theorem dw_1087 : decode code 1087 = .ok (.aload_n 2, 1) := by decide +kernel
theorem dw_1088 : decode code 1088 = .ok (.aload_n 0, 1) := by decide +kernel
theorem dw_1089 : decode code 1089 = .ok (.iload_n 3, 1) := by decide +kernel
theorem dw_1090 : decode code 1090 = .ok (.iconst 1, 1) := by decide +kernel
theorem dw_1091 : decode code 1091 = .ok (.iadd, 1) := by decide +kernel
theorem dw_1092 : decode code 1092 = .ok (.iaload, 1) := by decide +kernel
theorem dw_1093 : decode code 1093 = .ok (.invokevirtual 145, 3) := by decide +kernel
theorem dw_1096 : decode code 1096 = .ok (.if_icmp .eq 307, 3) := by decide +kernel
theorem dw_1099 : decode code 1099 = .ok (.iconst 0, 1) := by decide +kernel
theorem dw_1100 : decode code 1100 = .ok (.ireturn, 1) := by decide +kernel
theorem dw_1101 : decode code 1101 = .ok (.aload_n 1, 1) := by decide +kernel
theorem dw_1102 : decode code 1102 = .ok (.aload_n 0, 1) := by decide +kernel
theorem dw_1103 : decode code 1103 = .ok (.iload_n 3, 1) := by decide +kernel
theorem dw_1104 : decode code 1104 = .ok (.iconst 1, 1) := by decide +kernel
theorem dw_1105 : decode code 1105 = .ok (.iadd, 1) := by decide +kernel
theorem dw_1106 : decode code 1106 = .ok (.iaload, 1) := by decide +kernel
theorem dw_1107 : decode code 1107 = .ok (.aload_n 0, 1) := by decide +kernel
theorem dw_1108 : decode code 1108 = .ok (.iload_n 3, 1) := by decide +kernel
theorem dw_1109 : decode code 1109 = .ok (.iconst 2, 1) := by decide +kernel
theorem dw_1110 : decode code 1110 = .ok (.iadd, 1) := by decide +kernel
theorem dw_1111 : decode code 1111 = .ok (.iaload, 1) := by decide +kernel
theorem dw_1112 : decode code 1112 = .ok (.invokevirtual 146, 3) := by decide +kernel
theorem dw_1115 : decode code 1115 = .ok (.aload_n 2, 1) := by decide +kernel
theorem dw_1116 : decode code 1116 = .ok (.aload_n 0, 1) := by decide +kernel
theorem dw_1117 : decode code 1117 = .ok (.iload_n 3, 1) := by decide +kernel
theorem dw_1118 : decode code 1118 = .ok (.iconst 1, 1) := by decide +kernel
theorem dw_1119 : decode code 1119 = .ok (.iadd, 1) := by decide +kernel
theorem dw_1120 : decode code 1120 = .ok (.iaload, 1) := by decide +kernel
theorem dw_1121 : decode code 1121 = .ok (.aload_n 0, 1) := by decide +kernel
theorem dw_1122 : decode code 1122 = .ok (.iload_n 3, 1) := by decide +kernel
theorem dw_1123 : decode code 1123 = .ok (.iconst 2, 1) := by decide +kernel
theorem dw_1124 : decode code 1124 = .ok (.iadd, 1) := by decide +kernel
theorem dw_1125 : decode code 1125 = .ok (.iaload, 1) := by decide +kernel
theorem dw_1126 : decode code 1126 = .ok (.invokevirtual 149, 3) := by decide +kernel
theorem dw_1129 : decode code 1129 = .ok (.if_icmp .eq 274, 3) := by decide +kernel
theorem dw_1132 : decode code 1132 = .ok (.iconst 0, 1) := by decide +kernel
theorem dw_1133 : decode code 1133 = .ok (.ireturn, 1) := by decide +kernel
theorem dw_1134 : decode code 1134 = .ok (.aload_n 1, 1) := by decide +kernel
theorem dw_1135 : decode code 1135 = .ok (.aload_n 0, 1) := by decide +kernel
theorem dw_1136 : decode code 1136 = .ok (.iload_n 3, 1) := by decide +kernel
theorem dw_1137 : decode code 1137 = .ok (.iconst 1, 1) := by decide +kernel
theorem dw_1138 : decode code 1138 = .ok (.iadd, 1) := by decide +kernel
theorem dw_1139 : decode code 1139 = .ok (.iaload, 1) := by decide +kernel
theorem dw_1140 : decode code 1140 = .ok (.aload_n 0, 1) := by decide +kernel
theorem dw_1141 : decode code 1141 = .ok (.iload_n 3, 1) := by decide +kernel
theorem dw_1142 : decode code 1142 = .ok (.iconst 2, 1) := by decide +kernel
theorem dw_1143 : decode code 1143 = .ok (.iadd, 1) := by decide +kernel
theorem dw_1144 : decode code 1144 = .ok (.iaload, 1) := by decide +kernel
theorem dw_1145 : decode code 1145 = .ok (.aload_n 0, 1) := by decide +kernel
theorem dw_1146 : decode code 1146 = .ok (.iload_n 3, 1) := by decide +kernel
theorem dw_1147 : decode code 1147 = .ok (.iconst 3, 1) := by decide +kernel
theorem dw_1148 : decode code 1148 = .ok (.iadd, 1) := by decide +kernel
theorem dw_1149 : decode code 1149 = .ok (.iaload, 1) := by decide +kernel
theorem dw_1150 : decode code 1150 = .ok (.invokevirtual 150, 3) := by decide +kernel
theorem dw_1153 : decode code 1153 = .ok (.aload_n 2, 1) := by decide +kernel
theorem dw_1154 : decode code 1154 = .ok (.aload_n 0, 1) := by decide +kernel
theorem dw_1155 : decode code 1155 = .ok (.iload_n 3, 1) := by decide +kernel
theorem dw_1156 : decode code 1156 = .ok (.iconst 1, 1) := by decide +kernel
theorem dw_1157 : decode code 1157 = .ok (.iadd, 1) := by decide +kernel
theorem dw_1158 : decode code 1158 = .ok (.iaload, 1) := by decide +kernel
theorem dw_1159 : decode code 1159 = .ok (.aload_n 0, 1) := by decide +kernel
theorem dw_1160 : decode code 1160 = .ok (.iload_n 3, 1) := by decide +kernel
theorem dw_1161 : decode code 1161 = .ok (.iconst 2, 1) := by decide +kernel
theorem dw_1162 : decode code 1162 = .ok (.iadd, 1) := by decide +kernel
theorem dw_1163 : decode code 1163 = .ok (.iaload, 1) := by decide +kernel
theorem dw_1164 : decode code 1164 = .ok (.aload_n 0, 1) := by decide +kernel
theorem dw_1165 : decode code 1165 = .ok (.iload_n 3, 1) := by decide +kernel
theorem dw_1166 : decode code 1166 = .ok (.iconst 3, 1) := by decide +kernel
theorem dw_1167 : decode code 1167 = .ok (.iadd, 1) := by decide +kernel
theorem dw_1168 : decode code 1168 = .ok (.iaload, 1) := by decide +kernel
theorem dw_1169 : decode code 1169 = .ok (.invokevirtual 153, 3) := by decide +kernel
theorem dw_1172 : decode code 1172 = .ok (.if_icmp .eq 231, 3) := by decide +kernel
theorem dw_1175 : decode code 1175 = .ok (.iconst 0, 1) := by decide +kernel
theorem dw_1176 : decode code 1176 = .ok (.ireturn, 1) := by decide +kernel
theorem dw_1177 : decode code 1177 = .ok (.aload_n 1, 1) := by decide +kernel
theorem dw_1178 : decode code 1178 = .ok (.aload_n 0, 1) := by decide +kernel
theorem dw_1179 : decode code 1179 = .ok (.iload_n 3, 1) := by decide +kernel
theorem dw_1180 : decode code 1180 = .ok (.iconst 1, 1) := by decide +kernel
theorem dw_1181 : decode code 1181 = .ok (.iadd, 1) := by decide +kernel
theorem dw_1182 : decode code 1182 = .ok (.iaload, 1) := by decide +kernel
theorem dw_1183 : decode code 1183 = .ok (.aload_n 0, 1) := by decide +kernel
theorem dw_1184 : decode code 1184 = .ok (.iload_n 3, 1) := by decide +kernel
theorem dw_1185 : decode code 1185 = .ok (.iconst 2, 1) := by decide +kernel
theorem dw_1186 : decode code 1186 = .ok (.iadd, 1) := by decide +kernel
theorem dw_1187 : decode code 1187 = .ok (.iaload, 1) := by decide +kernel
theorem dw_1188 : decode code 1188 = .ok (.aload_n 0, 1) := by decide +kernel
theorem dw_1189 : decode code 1189 = .ok (.iload_n 3, 1) := by decide +kernel
theorem dw_1190 : decode code 1190 = .ok (.iconst 3, 1) := by decide +kernel
theorem dw_1191 : decode code 1191 = .ok (.iadd, 1) := by decide +kernel
theorem dw_1192 : decode code 1192 = .ok (.iaload, 1) := by decide +kernel
theorem dw_1193 : decode code 1193 = .ok (.i2l, 1) := by decide +kernel
theorem dw_1194 : decode code 1194 = .ok (.bipush 32, 2) := by decide +kernel
theorem dw_1196 : decode code 1196 = .ok (.lshl, 1) := by decide +kernel
theorem dw_1197 : decode code 1197 = .ok (.aload_n 0, 1) := by decide +kernel
theorem dw_1198 : decode code 1198 = .ok (.iload_n 3, 1) := by decide +kernel
theorem dw_1199 : decode code 1199 = .ok (.iconst 4, 1) := by decide +kernel
theorem dw_1200 : decode code 1200 = .ok (.iadd, 1) := by decide +kernel
theorem dw_1201 : decode code 1201 = .ok (.iaload, 1) := by decide +kernel
theorem dw_1202 : decode code 1202 = .ok (.i2l, 1) := by decide +kernel
theorem dw_1203 : decode code 1203 = .ok (.ldc2_w 154, 3) := by decide +kernel
theorem dw_1206 : decode code 1206 = .ok (.land, 1) := by decide +kernel
theorem dw_1207 : decode code 1207 = .ok (.lor, 1) := by decide +kernel
theorem dw_1208 : decode code 1208 = .ok (.invokevirtual 156, 3) := by decide +kernel
theorem dw_1211 : decode code 1211 = .ok (.aload_n 2, 1) := by decide +kernel
theorem dw_1212 : decode code 1212 = .ok (.aload_n 0, 1) := by decide +kernel
theorem dw_1213 : decode code 1213 = .ok (.iload_n 3, 1) := by decide +kernel
theorem dw_1214 : decode code 1214 = .ok (.iconst 1, 1) := by decide +kernel
theorem dw_1215 : decode code 1215 = .ok (.iadd, 1) := by decide +kernel
theorem dw_1216 : decode code 1216 = .ok (.iaload, 1) := by decide +kernel
theorem dw_1217 : decode code 1217 = .ok (.aload_n 0, 1) := by decide +kernel
theorem dw_1218 : decode code 1218 = .ok (.iload_n 3, 1) := by decide +kernel
theorem dw_1219 : decode code 1219 = .ok (.iconst 2, 1) := by decide +kernel
theorem dw_1220 : decode code 1220 = .ok (.iadd, 1) := by decide +kernel
theorem dw_1221 : decode code 1221 = .ok (.iaload, 1) := by decide +kernel
theorem dw_1222 : decode code 1222 = .ok (.aload_n 0, 1) := by decide +kernel
theorem dw_1223 : decode code 1223 = .ok (.iload_n 3, 1) := by decide +kernel
theorem dw_1224 : decode code 1224 = .ok (.iconst 3, 1) := by decide +kernel
theorem dw_1225 : decode code 1225 = .ok (.iadd, 1) := by decide +kernel
theorem dw_1226 : decode code 1226 = .ok (.iaload, 1) := by decide +kernel
theorem dw_1227 : decode code 1227 = .ok (.i2l, 1) := by decide +kernel
theorem dw_1228 : decode code 1228 = .ok (.bipush 32, 2) := by decide +kernel
theorem dw_1230 : decode code 1230 = .ok (.lshl, 1) := by decide +kernel
theorem dw_1231 : decode code 1231 = .ok (.aload_n 0, 1) := by decide +kernel
theorem dw_1232 : decode code 1232 = .ok (.iload_n 3, 1) := by decide +kernel
theorem dw_1233 : decode code 1233 = .ok (.iconst 4, 1) := by decide +kernel
theorem dw_1234 : decode code 1234 = .ok (.iadd, 1) := by decide +kernel
theorem dw_1235 : decode code 1235 = .ok (.iaload, 1) := by decide +kernel
theorem dw_1236 : decode code 1236 = .ok (.i2l, 1) := by decide +kernel
theorem dw_1237 : decode code 1237 = .ok (.ldc2_w 154, 3) := by decide +kernel
theorem dw_1240 : decode code 1240 = .ok (.land, 1) := by decide +kernel
theorem dw_1241 : decode code 1241 = .ok (.lor, 1) := by decide +kernel
theorem dw_1242 : decode code 1242 = .ok (.invokevirtual 160, 3) := by decide +kernel
theorem dw_1245 : decode code 1245 = .ok (.if_icmp .eq 158, 3) := by decide +kernel
theorem dw_1248 : decode code 1248 = .ok (.iconst 0, 1) := by decide +kernel
theorem dw_1249 : decode code 1249 = .ok (.ireturn, 1) := by decide +kernel
theorem dw_1250 : decode code 1250 = .ok (.aload_n 1, 1) := by decide +kernel
theorem dw_1251 : decode code 1251 = .ok (.aload_n 0, 1) := by decide +kernel
theorem dw_1252 : decode code 1252 = .ok (.iload_n 3, 1) := by decide +kernel
theorem dw_1253 : decode code 1253 = .ok (.iconst 1, 1) := by decide +kernel
theorem dw_1254 : decode code 1254 = .ok (.iadd, 1) := by decide +kernel
theorem dw_1255 : decode code 1255 = .ok (.iaload, 1) := by decide +kernel
theorem dw_1256 : decode code 1256 = .ok (.aload_n 0, 1) := by decide +kernel
theorem dw_1257 : decode code 1257 = .ok (.iload_n 3, 1) := by decide +kernel
theorem dw_1258 : decode code 1258 = .ok (.iconst 2, 1) := by decide +kernel
theorem dw_1259 : decode code 1259 = .ok (.iadd, 1) := by decide +kernel
theorem dw_1260 : decode code 1260 = .ok (.iaload, 1) := by decide +kernel
theorem dw_1261 : decode code 1261 = .ok (.invokevirtual 161, 3) := by decide +kernel
theorem dw_1264 : decode code 1264 = .ok (.aload_n 2, 1) := by decide +kernel
theorem dw_1265 : decode code 1265 = .ok (.aload_n 0, 1) := by decide +kernel
theorem dw_1266 : decode code 1266 = .ok (.iload_n 3, 1) := by decide +kernel
theorem dw_1267 : decode code 1267 = .ok (.iconst 1, 1) := by decide +kernel
theorem dw_1268 : decode code 1268 = .ok (.iadd, 1) := by decide +kernel
theorem dw_1269 : decode code 1269 = .ok (.iaload, 1) := by decide +kernel
theorem dw_1270 : decode code 1270 = .ok (.aload_n 0, 1) := by decide +kernel
theorem dw_1271 : decode code 1271 = .ok (.iload_n 3, 1) := by decide +kernel
theorem dw_1272 : decode code 1272 = .ok (.iconst 2, 1) := by decide +kernel
theorem dw_1273 : decode code 1273 = .ok (.iadd, 1) := by decide +kernel
theorem dw_1274 : decode code 1274 = .ok (.iaload, 1) := by decide +kernel
theorem dw_1275 : decode code 1275 = .ok (.invokevirtual 164, 3) := by decide +kernel
theorem dw_1278 : decode code 1278 = .ok (.lcmp, 1) := by decide +kernel
theorem dw_1279 : decode code 1279 = .ok (.ifCond .eq 124, 3) := by decide +kernel
theorem dw_1282 : decode code 1282 = .ok (.iconst 0, 1) := by decide +kernel
theorem dw_1283 : decode code 1283 = .ok (.ireturn, 1) := by decide +kernel
theorem dw_1284 : decode code 1284 = .ok (.aload_n 1, 1) := by decide +kernel
theorem dw_1285 : decode code 1285 = .ok (.aload_n 0, 1) := by decide +kernel
theorem dw_1286 : decode code 1286 = .ok (.iload_n 3, 1) := by decide +kernel
theorem dw_1287 : decode code 1287 = .ok (.iconst 1, 1) := by decide +kernel
theorem dw_1288 : decode code 1288 = .ok (.iadd, 1) := by decide +kernel
theorem dw_1289 : decode code 1289 = .ok (.iaload, 1) := by decide +kernel
theorem dw_1290 : decode code 1290 = .ok (.aload_n 0, 1) := by decide +kernel
theorem dw_1291 : decode code 1291 = .ok (.iload_n 3, 1) := by decide +kernel
theorem dw_1292 : decode code 1292 = .ok (.iconst 2, 1) := by decide +kernel
theorem dw_1293 : decode code 1293 = .ok (.iadd, 1) := by decide +kernel
theorem dw_1294 : decode code 1294 = .ok (.iaload, 1) := by decide +kernel
theorem dw_1295 : decode code 1295 = .ok (.aload_n 0, 1) := by decide +kernel
theorem dw_1296 : decode code 1296 = .ok (.iload_n 3, 1) := by decide +kernel
theorem dw_1297 : decode code 1297 = .ok (.iconst 3, 1) := by decide +kernel
theorem dw_1298 : decode code 1298 = .ok (.iadd, 1) := by decide +kernel
theorem dw_1299 : decode code 1299 = .ok (.iaload, 1) := by decide +kernel
theorem dw_1300 : decode code 1300 = .ok (.aload_n 0, 1) := by decide +kernel
theorem dw_1301 : decode code 1301 = .ok (.iload_n 3, 1) := by decide +kernel
theorem dw_1302 : decode code 1302 = .ok (.iconst 4, 1) := by decide +kernel
theorem dw_1303 : decode code 1303 = .ok (.iadd, 1) := by decide +kernel
theorem dw_1304 : decode code 1304 = .ok (.iaload, 1) := by decide +kernel
theorem dw_1305 : decode code 1305 = .ok (.aload_n 0, 1) := by decide +kernel
theorem dw_1306 : decode code 1306 = .ok (.iload_n 3, 1) := by decide +kernel
theorem dw_1307 : decode code 1307 = .ok (.iconst 5, 1) := by decide +kernel
theorem dw_1308 : decode code 1308 = .ok (.iadd, 1) := by decide +kernel
theorem dw_1309 : decode code 1309 = .ok (.iaload, 1) := by decide +kernel
theorem dw_1310 : decode code 1310 = .ok (.invokevirtual 165, 3) := by decide +kernel
theorem dw_1313 : decode code 1313 = .ok (.aload_n 2, 1) := by decide +kernel
theorem dw_1314 : decode code 1314 = .ok (.aload_n 0, 1) := by decide +kernel
theorem dw_1315 : decode code 1315 = .ok (.iload_n 3, 1) := by decide +kernel
theorem dw_1316 : decode code 1316 = .ok (.iconst 1, 1) := by decide +kernel
theorem dw_1317 : decode code 1317 = .ok (.iadd, 1) := by decide +kernel
theorem dw_1318 : decode code 1318 = .ok (.iaload, 1) := by decide +kernel
theorem dw_1319 : decode code 1319 = .ok (.aload_n 0, 1) := by decide +kernel
theorem dw_1320 : decode code 1320 = .ok (.iload_n 3, 1) := by decide +kernel
theorem dw_1321 : decode code 1321 = .ok (.iconst 2, 1) := by decide +kernel
theorem dw_1322 : decode code 1322 = .ok (.iadd, 1) := by decide +kernel
theorem dw_1323 : decode code 1323 = .ok (.iaload, 1) := by decide +kernel
theorem dw_1324 : decode code 1324 = .ok (.aload_n 0, 1) := by decide +kernel
theorem dw_1325 : decode code 1325 = .ok (.iload_n 3, 1) := by decide +kernel
theorem dw_1326 : decode code 1326 = .ok (.iconst 3, 1) := by decide +kernel
theorem dw_1327 : decode code 1327 = .ok (.iadd, 1) := by decide +kernel
theorem dw_1328 : decode code 1328 = .ok (.iaload, 1) := by decide +kernel
theorem dw_1329 : decode code 1329 = .ok (.aload_n 0, 1) := by decide +kernel
theorem dw_1330 : decode code 1330 = .ok (.iload_n 3, 1) := by decide +kernel
theorem dw_1331 : decode code 1331 = .ok (.iconst 4, 1) := by decide +kernel
theorem dw_1332 : decode code 1332 = .ok (.iadd, 1) := by decide +kernel
theorem dw_1333 : decode code 1333 = .ok (.iaload, 1) := by decide +kernel
theorem dw_1334 : decode code 1334 = .ok (.aload_n 0, 1) := by decide +kernel
theorem dw_1335 : decode code 1335 = .ok (.iload_n 3, 1) := by decide +kernel
theorem dw_1336 : decode code 1336 = .ok (.iconst 5, 1) := by decide +kernel
theorem dw_1337 : decode code 1337 = .ok (.iadd, 1) := by decide +kernel
theorem dw_1338 : decode code 1338 = .ok (.iaload, 1) := by decide +kernel
theorem dw_1339 : decode code 1339 = .ok (.invokevirtual 169, 3) := by decide +kernel
theorem dw_1342 : decode code 1342 = .ok (.if_icmp .eq 61, 3) := by decide +kernel
theorem dw_1345 : decode code 1345 = .ok (.iconst 0, 1) := by decide +kernel
theorem dw_1346 : decode code 1346 = .ok (.ireturn, 1) := by decide +kernel
theorem dw_1347 : decode code 1347 = .ok (.aload_n 1, 1) := by decide +kernel
theorem dw_1348 : decode code 1348 = .ok (.aload_n 0, 1) := by decide +kernel
theorem dw_1349 : decode code 1349 = .ok (.iload_n 3, 1) := by decide +kernel
theorem dw_1350 : decode code 1350 = .ok (.iconst 1, 1) := by decide +kernel
theorem dw_1351 : decode code 1351 = .ok (.iadd, 1) := by decide +kernel
theorem dw_1352 : decode code 1352 = .ok (.iaload, 1) := by decide +kernel
theorem dw_1353 : decode code 1353 = .ok (.aload_n 0, 1) := by decide +kernel
theorem dw_1354 : decode code 1354 = .ok (.iload_n 3, 1) := by decide +kernel
theorem dw_1355 : decode code 1355 = .ok (.iconst 2, 1) := by decide +kernel
theorem dw_1356 : decode code 1356 = .ok (.iadd, 1) := by decide +kernel
theorem dw_1357 : decode code 1357 = .ok (.iaload, 1) := by decide +kernel
theorem dw_1358 : decode code 1358 = .ok (.invokevirtual 170, 3) := by decide +kernel
theorem dw_1361 : decode code 1361 = .ok (.aload_n 2, 1) := by decide +kernel
theorem dw_1362 : decode code 1362 = .ok (.aload_n 0, 1) := by decide +kernel
theorem dw_1363 : decode code 1363 = .ok (.iload_n 3, 1) := by decide +kernel
theorem dw_1364 : decode code 1364 = .ok (.iconst 1, 1) := by decide +kernel
theorem dw_1365 : decode code 1365 = .ok (.iadd, 1) := by decide +kernel
theorem dw_1366 : decode code 1366 = .ok (.iaload, 1) := by decide +kernel
theorem dw_1367 : decode code 1367 = .ok (.aload_n 0, 1) := by decide +kernel
theorem dw_1368 : decode code 1368 = .ok (.iload_n 3, 1) := by decide +kernel
theorem dw_1369 : decode code 1369 = .ok (.iconst 2, 1) := by decide +kernel
theorem dw_1370 : decode code 1370 = .ok (.iadd, 1) := by decide +kernel
theorem dw_1371 : decode code 1371 = .ok (.iaload, 1) := by decide +kernel
theorem dw_1372 : decode code 1372 = .ok (.invokevirtual 173, 3) := by decide +kernel
theorem dw_1375 : decode code 1375 = .ok (.if_icmp .eq 28, 3) := by decide +kernel
theorem dw_1378 : decode code 1378 = .ok (.iconst 0, 1) := by decide +kernel
theorem dw_1379 : decode code 1379 = .ok (.ireturn, 1) := by decide +kernel
theorem dw_1380 : decode code 1380 = .ok (.aload_n 1, 1) := by decide +kernel
theorem dw_1381 : decode code 1381 = .ok (.aload_n 0, 1) := by decide +kernel
theorem dw_1382 : decode code 1382 = .ok (.iload_n 3, 1) := by decide +kernel
theorem dw_1383 : decode code 1383 = .ok (.iconst 1, 1) := by decide +kernel
theorem dw_1384 : decode code 1384 = .ok (.iadd, 1) := by decide +kernel
theorem dw_1385 : decode code 1385 = .ok (.iaload, 1) := by decide +kernel
theorem dw_1386 : decode code 1386 = .ok (.invokevirtual 174, 3) := by decide +kernel
theorem dw_1389 : decode code 1389 = .ok (.aload_n 2, 1) := by decide +kernel
theorem dw_1390 : decode code 1390 = .ok (.aload_n 0, 1) := by decide +kernel
theorem dw_1391 : decode code 1391 = .ok (.iload_n 3, 1) := by decide +kernel
theorem dw_1392 : decode code 1392 = .ok (.iconst 1, 1) := by decide +kernel
theorem dw_1393 : decode code 1393 = .ok (.iadd, 1) := by decide +kernel
theorem dw_1394 : decode code 1394 = .ok (.iaload, 1) := by decide +kernel
theorem dw_1395 : decode code 1395 = .ok (.invokevirtual 177, 3) := by decide +kernel
theorem dw_1398 : decode code 1398 = .ok (.if_icmp .eq 5, 3) := by decide +kernel
theorem dw_1401 : decode code 1401 = .ok (.iconst 0, 1) := by decide +kernel
theorem dw_1402 : decode code 1402 = .ok (.ireturn, 1) := by decide +kernel
theorem dw_1403 : decode code 1403 = .ok (.iinc 3 6, 3) := by decide +kernel
theorem dw_1406 : decode code 1406 = .ok (.goto (-1388), 3) := by decide +kernel
theorem dw_1409 : decode code 1409 = .ok (.iconst 1, 1) := by decide +kernel
theorem dw_1410 : decode code 1410 = .ok (.ireturn, 1) := by decide +kernel
