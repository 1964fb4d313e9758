theorem d_Law_law_0 : decode code 0 = .ok (.new 7, 3) := by decide +kernel
theorem d_Law_law_3 : decode code 3 = .ok (.dup, 1) := by decide +kernel
theorem d_Law_law_4 : decode code 4 = .ok (.invokespecial 9, 3) := by decide +kernel
theorem d_Law_law_7 : decode code 7 = .ok (.astore_n 1, 1) := by decide +kernel
theorem d_Law_law_8 : decode code 8 = .ok (.new 10, 3) := by decide +kernel
theorem d_Law_law_11 : decode code 11 = .ok (.dup, 1) := by decide +kernel
theorem d_Law_law_12 : decode code 12 = .ok (.invokespecial 12, 3) := by decide +kernel
theorem d_Law_law_15 : decode code 15 = .ok (.astore_n 2, 1) := by decide +kernel
theorem d_Law_law_16 : decode code 16 = .ok (.iconst 0, 1) := by decide +kernel
theorem d_Law_law_17 : decode code 17 = .ok (.istore_n 3, 1) := by decide +kernel
theorem d_Law_law_18 : decode code 18 = .ok (.iload_n 3, 1) := by decide +kernel
theorem d_Law_law_19 : decode code 19 = .ok (.aload_n 0, 1) := by decide +kernel
theorem d_Law_law_20 : decode code 20 = .ok (.arraylength, 1) := by decide +kernel
theorem d_Law_law_21 : decode code 21 = .ok (.bipush 6, 2) := by decide +kernel
theorem d_Law_law_23 : decode code 23 = .ok (.isub, 1) := by decide +kernel
theorem d_Law_law_24 : decode code 24 = .ok (.if_icmp .gt 1448, 3) := by decide +kernel
theorem d_Law_law_27 : decode code 27 = .ok (.aload_n 0, 1) := by decide +kernel
theorem d_Law_law_28 : decode code 28 = .ok (.iload_n 3, 1) := by decide +kernel
theorem d_Law_law_29 : decode code 29 = .ok (.iaload, 1) := by decide +kernel
theorem d_Law_law_30 : decode code 30 = .ok (.bipush 63, 2) := by decide +kernel
theorem d_Law_law_32 : decode code 32 = .ok (.iand, 1) := by decide +kernel
theorem d_Law_law_33 : decode code 33 = .ok (.tableswitch 1433 0 40 #[179, 202, 235, 268, 301, 334, 367, 410, 443, 476, 519, 542, 575, 598, 621, 664, 697, 720, 743, 766, 799, 832, 865, 898, 931, 964, 987, 1020, 1053, 1066, 1079, 1122, 1196, 1259, 1282, 1315, 1348, 1361, 1374, 1387, 1410], 179) := by decide +kernel
theorem d_Law_law_212 : decode code 212 = .ok (.aload_n 1, 1) := by decide +kernel
theorem d_Law_law_213 : decode code 213 = .ok (.aload_n 0, 1) := by decide +kernel
theorem d_Law_law_214 : decode code 214 = .ok (.iload_n 3, 1) := by decide +kernel
theorem d_Law_law_215 : decode code 215 = .ok (.iconst 1, 1) := by decide +kernel
theorem d_Law_law_216 : decode code 216 = .ok (.iadd, 1) := by decide +kernel
theorem d_Law_law_217 : decode code 217 = .ok (.iaload, 1) := by decide +kernel
theorem d_Law_law_218 : decode code 218 = .ok (.invokevirtual 13, 3) := by decide +kernel
theorem d_Law_law_221 : decode code 221 = .ok (.aload_n 2, 1) := by decide +kernel
theorem d_Law_law_222 : decode code 222 = .ok (.aload_n 0, 1) := by decide +kernel
theorem d_Law_law_223 : decode code 223 = .ok (.iload_n 3, 1) := by decide +kernel
theorem d_Law_law_224 : decode code 224 = .ok (.iconst 1, 1) := by decide +kernel
theorem d_Law_law_225 : decode code 225 = .ok (.iadd, 1) := by decide +kernel
theorem d_Law_law_226 : decode code 226 = .ok (.iaload, 1) := by decide +kernel
theorem d_Law_law_227 : decode code 227 = .ok (.invokevirtual 17, 3) := by decide +kernel
theorem d_Law_law_230 : decode code 230 = .ok (.if_icmp .eq 1236, 3) := by decide +kernel
theorem d_Law_law_233 : decode code 233 = .ok (.iconst 0, 1) := by decide +kernel
theorem d_Law_law_234 : decode code 234 = .ok (.ireturn, 1) := by decide +kernel
theorem d_Law_law_235 : decode code 235 = .ok (.aload_n 1, 1) := by decide +kernel
theorem d_Law_law_236 : decode code 236 = .ok (.aload_n 0, 1) := by decide +kernel
theorem d_Law_law_237 : decode code 237 = .ok (.iload_n 3, 1) := by decide +kernel
theorem d_Law_law_238 : decode code 238 = .ok (.iconst 1, 1) := by decide +kernel
theorem d_Law_law_239 : decode code 239 = .ok (.iadd, 1) := by decide +kernel
theorem d_Law_law_240 : decode code 240 = .ok (.iaload, 1) := by decide +kernel
theorem d_Law_law_241 : decode code 241 = .ok (.aload_n 0, 1) := by decide +kernel
theorem d_Law_law_242 : decode code 242 = .ok (.iload_n 3, 1) := by decide +kernel
theorem d_Law_law_243 : decode code 243 = .ok (.iconst 2, 1) := by decide +kernel
theorem d_Law_law_244 : decode code 244 = .ok (.iadd, 1) := by decide +kernel
theorem d_Law_law_245 : decode code 245 = .ok (.iaload, 1) := by decide +kernel
theorem d_Law_law_246 : decode code 246 = .ok (.invokevirtual 18, 3) := by decide +kernel
theorem d_Law_law_249 : decode code 249 = .ok (.aload_n 2, 1) := by decide +kernel
theorem d_Law_law_250 : decode code 250 = .ok (.aload_n 0, 1) := by decide +kernel
theorem d_Law_law_251 : decode code 251 = .ok (.iload_n 3, 1) := by decide +kernel
theorem d_Law_law_252 : decode code 252 = .ok (.iconst 1, 1) := by decide +kernel
theorem d_Law_law_253 : decode code 253 = .ok (.iadd, 1) := by decide +kernel
theorem d_Law_law_254 : decode code 254 = .ok (.iaload, 1) := by decide +kernel
theorem d_Law_law_255 : decode code 255 = .ok (.aload_n 0, 1) := by decide +kernel
theorem d_Law_law_256 : decode code 256 = .ok (.iload_n 3, 1) := by decide +kernel
theorem d_Law_law_257 : decode code 257 = .ok (.iconst 2, 1) := by decide +kernel
theorem d_Law_law_258 : decode code 258 = .ok (.iadd, 1) := by decide +kernel
theorem d_Law_law_259 : decode code 259 = .ok (.iaload, 1) := by decide +kernel
theorem d_Law_law_260 : decode code 260 = .ok (.invokevirtual 22, 3) := by decide +kernel
theorem d_Law_law_263 : decode code 263 = .ok (.if_icmp .eq 1203, 3) := by decide +kernel
theorem d_Law_law_266 : decode code 266 = .ok (.iconst 0, 1) := by decide +kernel
theorem d_Law_law_267 : decode code 267 = .ok (.ireturn, 1) := by decide +kernel
theorem d_Law_law_268 : decode code 268 = .ok (.aload_n 1, 1) := by decide +kernel
theorem d_Law_law_269 : decode code 269 = .ok (.aload_n 0, 1) := by decide +kernel
theorem d_Law_law_270 : decode code 270 = .ok (.iload_n 3, 1) := by decide +kernel
theorem d_Law_law_271 : decode code 271 = .ok (.iconst 1, 1) := by decide +kernel
theorem d_Law_law_272 : decode code 272 = .ok (.iadd, 1) := by decide +kernel
theorem d_Law_law_273 : decode code 273 = .ok (.iaload, 1) := by decide +kernel
theorem d_Law_law_274 : decode code 274 = .ok (.aload_n 0, 1) := by decide +kernel
theorem d_Law_law_275 : decode code 275 = .ok (.iload_n 3, 1) := by decide +kernel
theorem d_Law_law_276 : decode code 276 = .ok (.iconst 2, 1) := by decide +kernel
theorem d_Law_law_277 : decode code 277 = .ok (.iadd, 1) := by decide +kernel
theorem d_Law_law_278 : decode code 278 = .ok (.iaload, 1) := by decide +kernel
theorem d_Law_law_279 : decode code 279 = .ok (.invokevirtual 23, 3) := by decide +kernel
theorem d_Law_law_282 : decode code 282 = .ok (.aload_n 2, 1) := by decide +kernel
theorem d_Law_law_283 : decode code 283 = .ok (.aload_n 0, 1) := by decide +kernel
theorem d_Law_law_284 : decode code 284 = .ok (.iload_n 3, 1) := by decide +kernel
theorem d_Law_law_285 : decode code 285 = .ok (.iconst 1, 1) := by decide +kernel
theorem d_Law_law_286 : decode code 286 = .ok (.iadd, 1) := by decide +kernel
theorem d_Law_law_287 : decode code 287 = .ok (.iaload, 1) := by decide +kernel
theorem d_Law_law_288 : decode code 288 = .ok (.aload_n 0, 1) := by decide +kernel
theorem d_Law_law_289 : decode code 289 = .ok (.iload_n 3, 1) := by decide +kernel
theorem d_Law_law_290 : decode code 290 = .ok (.iconst 2, 1) := by decide +kernel
theorem d_Law_law_291 : decode code 291 = .ok (.iadd, 1) := by decide +kernel
theorem d_Law_law_292 : decode code 292 = .ok (.iaload, 1) := by decide +kernel
theorem d_Law_law_293 : decode code 293 = .ok (.invokevirtual 26, 3) := by decide +kernel
theorem d_Law_law_296 : decode code 296 = .ok (.if_icmp .eq 1170, 3) := by decide +kernel
theorem d_Law_law_299 : decode code 299 = .ok (.iconst 0, 1) := by decide +kernel
theorem d_Law_law_300 : decode code 300 = .ok (.ireturn, 1) := by decide +kernel
theorem d_Law_law_301 : decode code 301 = .ok (.aload_n 1, 1) := by decide +kernel
theorem d_Law_law_302 : decode code 302 = .ok (.aload_n 0, 1) := by decide +kernel
theorem d_Law_law_303 : decode code 303 = .ok (.iload_n 3, 1) := by decide +kernel
theorem d_Law_law_304 : decode code 304 = .ok (.iconst 1, 1) := by decide +kernel
theorem d_Law_law_305 : decode code 305 = .ok (.iadd, 1) := by decide +kernel
theorem d_Law_law_306 : decode code 306 = .ok (.iaload, 1) := by decide +kernel
theorem d_Law_law_307 : decode code 307 = .ok (.aload_n 0, 1) := by decide +kernel
theorem d_Law_law_308 : decode code 308 = .ok (.iload_n 3, 1) := by decide +kernel
theorem d_Law_law_309 : decode code 309 = .ok (.iconst 2, 1) := by decide +kernel
theorem d_Law_law_310 : decode code 310 = .ok (.iadd, 1) := by decide +kernel
theorem d_Law_law_311 : decode code 311 = .ok (.iaload, 1) := by decide +kernel
theorem d_Law_law_312 : decode code 312 = .ok (.invokevirtual 27, 3) := by decide +kernel
theorem d_Law_law_315 : decode code 315 = .ok (.aload_n 2, 1) := by decide +kernel
theorem d_Law_law_316 : decode code 316 = .ok (.aload_n 0, 1) := by decide +kernel
theorem d_Law_law_317 : decode code 317 = .ok (.iload_n 3, 1) := by decide +kernel
theorem d_Law_law_318 : decode code 318 = .ok (.iconst 1, 1) := by decide +kernel
theorem d_Law_law_319 : decode code 319 = .ok (.iadd, 1) := by decide +kernel
theorem d_Law_law_320 : decode code 320 = .ok (.iaload, 1) := by decide +kernel
theorem d_Law_law_321 : decode code 321 = .ok (.aload_n 0, 1) := by decide +kernel
theorem d_Law_law_322 : decode code 322 = .ok (.iload_n 3, 1) := by decide +kernel
theorem d_Law_law_323 : decode code 323 = .ok (.iconst 2, 1) := by decide +kernel
theorem d_Law_law_324 : decode code 324 = .ok (.iadd, 1) := by decide +kernel
theorem d_Law_law_325 : decode code 325 = .ok (.iaload, 1) := by decide +kernel
theorem d_Law_law_326 : decode code 326 = .ok (.invokevirtual 30, 3) := by decide +kernel
theorem d_Law_law_329 : decode code 329 = .ok (.if_icmp .eq 1137, 3) := by decide +kernel
theorem d_Law_law_332 : decode code 332 = .ok (.iconst 0, 1) := by decide +kernel
theorem d_Law_law_333 : decode code 333 = .ok (.ireturn, 1) := by decide +kernel
theorem d_Law_law_334 : decode code 334 = .ok (.aload_n 1, 1) := by decide +kernel
theorem d_Law_law_335 : decode code 335 = .ok (.aload_n 0, 1) := by decide +kernel
theorem d_Law_law_336 : decode code 336 = .ok (.iload_n 3, 1) := by decide +kernel
theorem d_Law_law_337 : decode code 337 = .ok (.iconst 1, 1) := by decide +kernel
theorem d_Law_law_338 : decode code 338 = .ok (.iadd, 1) := by decide +kernel
theorem d_Law_law_339 : decode code 339 = .ok (.iaload, 1) := by decide +kernel
theorem d_Law_law_340 : decode code 340 = .ok (.aload_n 0, 1) := by decide +kernel
theorem d_Law_law_341 : decode code 341 = .ok (.iload_n 3, 1) := by decide +kernel
theorem d_Law_law_342 : decode code 342 = .ok (.iconst 2, 1) := by decide +kernel
theorem d_Law_law_343 : decode code 343 = .ok (.iadd, 1) := by decide +kernel
theorem d_Law_law_344 : decode code 344 = .ok (.iaload, 1) := by decide +kernel
theorem d_Law_law_345 : decode code 345 = .ok (.invokevirtual 31, 3) := by decide +kernel
theorem d_Law_law_348 : decode code 348 = .ok (.aload_n 2, 1) := by decide +kernel
theorem d_Law_law_349 : decode code 349 = .ok (.aload_n 0, 1) := by decide +kernel
theorem d_Law_law_350 : decode code 350 = .ok (.iload_n 3, 1) := by decide +kernel
theorem d_Law_law_351 : decode code 351 = .ok (.iconst 1, 1) := by decide +kernel
theorem d_Law_law_352 : decode code 352 = .ok (.iadd, 1) := by decide +kernel
theorem d_Law_law_353 : decode code 353 = .ok (.iaload, 1) := by decide +kernel
theorem d_Law_law_354 : decode code 354 = .ok (.aload_n 0, 1) := by decide +kernel
theorem d_Law_law_355 : decode code 355 = .ok (.iload_n 3, 1) := by decide +kernel
theorem d_Law_law_356 : decode code 356 = .ok (.iconst 2, 1) := by decide +kernel
theorem d_Law_law_357 : decode code 357 = .ok (.iadd, 1) := by decide +kernel
theorem d_Law_law_358 : decode code 358 = .ok (.iaload, 1) := by decide +kernel
theorem d_Law_law_359 : decode code 359 = .ok (.invokevirtual 34, 3) := by decide +kernel
theorem d_Law_law_362 : decode code 362 = .ok (.if_icmp .eq 1104, 3) := by decide +kernel
theorem d_Law_law_365 : decode code 365 = .ok (.iconst 0, 1) := by decide +kernel
theorem d_Law_law_366 : decode code 366 = .ok (.ireturn, 1) := by decide +kernel
theorem d_Law_law_367 : decode code 367 = .ok (.aload_n 1, 1) := by decide +kernel
theorem d_Law_law_368 : decode code 368 = .ok (.aload_n 0, 1) := by decide +kernel
theorem d_Law_law_369 : decode code 369 = .ok (.iload_n 3, 1) := by decide +kernel
theorem d_Law_law_370 : decode code 370 = .ok (.iconst 1, 1) := by decide +kernel
theorem d_Law_law_371 : decode code 371 = .ok (.iadd, 1) := by decide +kernel
theorem d_Law_law_372 : decode code 372 = .ok (.iaload, 1) := by decide +kernel
theorem d_Law_law_373 : decode code 373 = .ok (.aload_n 0, 1) := by decide +kernel
theorem d_Law_law_374 : decode code 374 = .ok (.iload_n 3, 1) := by decide +kernel
theorem d_Law_law_375 : decode code 375 = .ok (.iconst 2, 1) := by decide +kernel
theorem d_Law_law_376 : decode code 376 = .ok (.iadd, 1) := by decide +kernel
theorem d_Law_law_377 : decode code 377 = .ok (.iaload, 1) := by decide +kernel
theorem d_Law_law_378 : decode code 378 = .ok (.invokevirtual 35, 3) := by decide +kernel
theorem d_Law_law_381 : decode code 381 = .ok (.aload_n 2, 1) := by decide +kernel
theorem d_Law_law_382 : decode code 382 = .ok (.aload_n 0, 1) := by decide +kernel
theorem d_Law_law_383 : decode code 383 = .ok (.iload_n 3, 1) := by decide +kernel
theorem d_Law_law_384 : decode code 384 = .ok (.iconst 1, 1) := by decide +kernel
theorem d_Law_law_385 : decode code 385 = .ok (.iadd, 1) := by decide +kernel
theorem d_Law_law_386 : decode code 386 = .ok (.iaload, 1) := by decide +kernel
theorem d_Law_law_387 : decode code 387 = .ok (.aload_n 0, 1) := by decide +kernel
theorem d_Law_law_388 : decode code 388 = .ok (.iload_n 3, 1) := by decide +kernel
theorem d_Law_law_389 : decode code 389 = .ok (.iconst 2, 1) := by decide +kernel
theorem d_Law_law_390 : decode code 390 = .ok (.iadd, 1) := by decide +kernel
theorem d_Law_law_391 : decode code 391 = .ok (.iaload, 1) := by decide +kernel
theorem d_Law_law_392 : decode code 392 = .ok (.invokevirtual 38, 3) := by decide +kernel
theorem d_Law_law_395 : decode code 395 = .ok (.if_icmp .eq 1071, 3) := by decide +kernel
theorem d_Law_law_398 : decode code 398 = .ok (.iconst 0, 1) := by decide +kernel
theorem d_Law_law_399 : decode code 399 = .ok (.ireturn, 1) := by decide +kernel
theorem d_Law_law_400 : decode code 400 = .ok (.aload_n 1, 1) := by decide +kernel
theorem d_Law_law_401 : decode code 401 = .ok (.aload_n 0, 1) := by decide +kernel
theorem d_Law_law_402 : decode code 402 = .ok (.iload_n 3, 1) := by decide +kernel
theorem d_Law_law_403 : decode code 403 = .ok (.iconst 1, 1) := by decide +kernel
theorem d_Law_law_404 : decode code 404 = .ok (.iadd, 1) := by decide +kernel
theorem d_Law_law_405 : decode code 405 = .ok (.iaload, 1) := by decide +kernel
theorem d_Law_law_406 : decode code 406 = .ok (.aload_n 0, 1) := by decide +kernel
theorem d_Law_law_407 : decode code 407 = .ok (.iload_n 3, 1) := by decide +kernel
theorem d_Law_law_408 : decode code 408 = .ok (.iconst 2, 1) := by decide +kernel
theorem d_Law_law_409 : decode code 409 = .ok (.iadd, 1) := by decide +kernel
theorem d_Law_law_410 : decode code 410 = .ok (.iaload, 1) := by decide +kernel
theorem d_Law_law_411 : decode code 411 = .ok (.aload_n 0, 1) := by decide +kernel
theorem d_Law_law_412 : decode code 412 = .ok (.iload_n 3, 1) := by decide +kernel
theorem d_Law_law_413 : decode code 413 = .ok (.iconst 3, 1) := by decide +kernel
theorem d_Law_law_414 : decode code 414 = .ok (.iadd, 1) := by decide +kernel
theorem d_Law_law_415 : decode code 415 = .ok (.iaload, 1) := by decide +kernel
theorem d_Law_law_416 : decode code 416 = .ok (.invokevirtual 39, 3) := by decide +kernel
theorem d_Law_law_419 : decode code 419 = .ok (.aload_n 2, 1) := by decide +kernel
theorem d_Law_law_420 : decode code 420 = .ok (.aload_n 0, 1) := by decide +kernel
theorem d_Law_law_421 : decode code 421 = .ok (.iload_n 3, 1) := by decide +kernel
theorem d_Law_law_422 : decode code 422 = .ok (.iconst 1, 1) := by decide +kernel
theorem d_Law_law_423 : decode code 423 = .ok (.iadd, 1) := by decide +kernel
theorem d_Law_law_424 : decode code 424 = .ok (.iaload, 1) := by decide +kernel
theorem d_Law_law_425 : decode code 425 = .ok (.aload_n 0, 1) := by decide +kernel
theorem d_Law_law_426 : decode code 426 = .ok (.iload_n 3, 1) := by decide +kernel
theorem d_Law_law_427 : decode code 427 = .ok (.iconst 2, 1) := by decide +kernel
theorem d_Law_law_428 : decode code 428 = .ok (.iadd, 1) := by decide +kernel
theorem d_Law_law_429 : decode code 429 = .ok (.iaload, 1) := by decide +kernel
theorem d_Law_law_430 : decode code 430 = .ok (.aload_n 0, 1) := by decide +kernel
theorem d_Law_law_431 : decode code 431 = .ok (.iload_n 3, 1) := by decide +kernel
theorem d_Law_law_432 : decode code 432 = .ok (.iconst 3, 1) := by decide +kernel
theorem d_Law_law_433 : decode code 433 = .ok (.iadd, 1) := by decide +kernel
theorem d_Law_law_434 : decode code 434 = .ok (.iaload, 1) := by decide +kernel
theorem d_Law_law_435 : decode code 435 = .ok (.invokevirtual 43, 3) := by decide +kernel
theorem d_Law_law_438 : decode code 438 = .ok (.if_icmp .eq 1028, 3) := by decide +kernel
theorem d_Law_law_441 : decode code 441 = .ok (.iconst 0, 1) := by decide +kernel
theorem d_Law_law_442 : decode code 442 = .ok (.ireturn, 1) := by decide +kernel
theorem d_Law_law_443 : decode code 443 = .ok (.aload_n 1, 1) := by decide +kernel
theorem d_Law_law_444 : decode code 444 = .ok (.aload_n 0, 1) := by decide +kernel
theorem d_Law_law_445 : decode code 445 = .ok (.iload_n 3, 1) := by decide +kernel
theorem d_Law_law_446 : decode code 446 = .ok (.iconst 1, 1) := by decide +kernel
theorem d_Law_law_447 : decode code 447 = .ok (.iadd, 1) := by decide +kernel
theorem d_Law_law_448 : decode code 448 = .ok (.iaload, 1) := by decide +kernel
theorem d_Law_law_449 : decode code 449 = .ok (.aload_n 0, 1) := by decide +kernel
theorem d_Law_law_450 : decode code 450 = .ok (.iload_n 3, 1) := by decide +kernel
theorem d_Law_law_451 : decode code 451 = .ok (.iconst 2, 1) := by decide +kernel
theorem d_Law_law_452 : decode code 452 = .ok (.iadd, 1) := by decide +kernel
theorem d_Law_law_453 : decode code 453 = .ok (.iaload, 1) := by decide +kernel
theorem d_Law_law_454 : decode code 454 = .ok (.invokevirtual 44, 3) := by decide +kernel
theorem d_Law_law_457 : decode code 457 = .ok (.aload_n 2, 1) := by decide +kernel
theorem d_Law_law_458 : decode code 458 = .ok (.aload_n 0, 1) := by decide +kernel
theorem d_Law_law_459 : decode code 459 = .ok (.iload_n 3, 1) := by decide +kernel
theorem d_Law_law_460 : decode code 460 = .ok (.iconst 1, 1) := by decide +kernel
theorem d_Law_law_461 : decode code 461 = .ok (.iadd, 1) := by decide +kernel
theorem d_Law_law_462 : decode code 462 = .ok (.iaload, 1) := by decide +kernel
theorem d_Law_law_463 : decode code 463 = .ok (.aload_n 0, 1) := by decide +kernel
theorem d_Law_law_464 : decode code 464 = .ok (.iload_n 3, 1) := by decide +kernel
theorem d_Law_law_465 : decode code 465 = .ok (.iconst 2, 1) := by decide +kernel
theorem d_Law_law_466 : decode code 466 = .ok (.iadd, 1) := by decide +kernel
theorem d_Law_law_467 : decode code 467 = .ok (.iaload, 1) := by decide +kernel
theorem d_Law_law_468 : decode code 468 = .ok (.invokevirtual 47, 3) := by decide +kernel
theorem d_Law_law_471 : decode code 471 = .ok (.if_icmp .eq 995, 3) := by decide +kernel
theorem d_Law_law_474 : decode code 474 = .ok (.iconst 0, 1) := by decide +kernel
theorem d_Law_law_475 : decode code 475 = .ok (.ireturn, 1) := by decide +kernel
theorem d_Law_law_476 : decode code 476 = .ok (.aload_n 1, 1) := by decide +kernel
theorem d_Law_law_477 : decode code 477 = .ok (.aload_n 0, 1) := by decide +kernel
theorem d_Law_law_478 : decode code 478 = .ok (.iload_n 3, 1) := by decide +kernel
theorem d_Law_law_479 : decode code 479 = .ok (.iconst 1, 1) := by decide +kernel
theorem d_Law_law_480 : decode code 480 = .ok (.iadd, 1) := by decide +kernel
theorem d_Law_law_481 : decode code 481 = .ok (.iaload, 1) := by decide +kernel
theorem d_Law_law_482 : decode code 482 = .ok (.aload_n 0, 1) := by decide +kernel
theorem d_Law_law_483 : decode code 483 = .ok (.iload_n 3, 1) := by decide +kernel
theorem d_Law_law_484 : decode code 484 = .ok (.iconst 2, 1) := by decide +kernel
theorem d_Law_law_485 : decode code 485 = .ok (.iadd, 1) := by decide +kernel
theorem d_Law_law_486 : decode code 486 = .ok (.iaload, 1) := by decide +kernel
theorem d_Law_law_487 : decode code 487 = .ok (.invokevirtual 48, 3) := by decide +kernel
theorem d_Law_law_490 : decode code 490 = .ok (.aload_n 2, 1) := by decide +kernel
theorem d_Law_law_491 : decode code 491 = .ok (.aload_n 0, 1) := by decide +kernel
theorem d_Law_law_492 : decode code 492 = .ok (.iload_n 3, 1) := by decide +kernel
theorem d_Law_law_493 : decode code 493 = .ok (.iconst 1, 1) := by decide +kernel
theorem d_Law_law_494 : decode code 494 = .ok (.iadd, 1) := by decide +kernel
theorem d_Law_law_495 : decode code 495 = .ok (.iaload, 1) := by decide +kernel
theorem d_Law_law_496 : decode code 496 = .ok (.aload_n 0, 1) := by decide +kernel
theorem d_Law_law_497 : decode code 497 = .ok (.iload_n 3, 1) := by decide +kernel
theorem d_Law_law_498 : decode code 498 = .ok (.iconst 2, 1) := by decide +kernel
theorem d_Law_law_499 : decode code 499 = .ok (.iadd, 1) := by decide +kernel
