/-! THE LAW'S ROWS -/
theorem tb_L_law : mv_tb k_L_law = t_L_law := rfl
theorem r_L_law_0 : mv_in k_L_law 0 = some (.new 8, 3, 7, 0, 141) := by decide +kernel
theorem r_L_law_3 : mv_in k_L_law 3 = some (.dup, 4, 0, 0, 0) := by decide +kernel
theorem r_L_law_4 : mv_in k_L_law 4 = some (.invokespecial 141, 7, k_X10_init, 1, 143) := by decide +kernel
theorem r_L_law_7 : mv_in k_L_law 7 = some (.astore_n 1, 8, 0, 0, 0) := by decide +kernel
theorem r_L_law_8 : mv_in k_L_law 8 = some (.new 142, 11, 8, 0, 1260) := by decide +kernel
theorem r_L_law_11 : mv_in k_L_law 11 = some (.dup, 12, 0, 0, 0) := by decide +kernel
theorem r_L_law_12 : mv_in k_L_law 12 = some (.invokespecial 144, 15, k_X11_init, 1, 1262) := by decide +kernel
theorem r_L_law_15 : mv_in k_L_law 15 = some (.astore_n 2, 16, 0, 0, 0) := by decide +kernel
theorem r_L_law_16 : mv_in k_L_law 16 = some (.iconst 1, 17, 0, 0, 0) := by decide +kernel
theorem r_L_law_17 : mv_in k_L_law 17 = some (.newarray .long, 19, 22, 0, 0) := by decide +kernel
theorem r_L_law_19 : mv_in k_L_law 19 = some (.astore_n 3, 20, 0, 0, 0) := by decide +kernel
theorem r_L_law_20 : mv_in k_L_law 20 = some (.iconst 1, 21, 0, 0, 0) := by decide +kernel
theorem r_L_law_21 : mv_in k_L_law 21 = some (.newarray .double, 23, 23, 0, 0) := by decide +kernel
theorem r_L_law_23 : mv_in k_L_law 23 = some (.astore 4, 25, 0, 0, 0) := by decide +kernel
theorem r_L_law_25 : mv_in k_L_law 25 = some (.iconst 0, 26, 0, 0, 0) := by decide +kernel
theorem r_L_law_26 : mv_in k_L_law 26 = some (.istore 5, 28, 0, 0, 0) := by decide +kernel
theorem r_L_law_28 : mv_in k_L_law 28 = some (.iload 5, 30, 0, 0, 0) := by decide +kernel
theorem r_L_law_30 : mv_in k_L_law 30 = some (.aload_n 0, 31, 0, 0, 0) := by decide +kernel
theorem r_L_law_31 : mv_in k_L_law 31 = some (.arraylength, 32, 0, 0, 0) := by decide +kernel
theorem r_L_law_32 : mv_in k_L_law 32 = some (.iconst 4, 33, 0, 0, 0) := by decide +kernel
theorem r_L_law_33 : mv_in k_L_law 33 = some (.isub, 34, 0, 0, 0) := by decide +kernel
theorem r_L_law_34 : mv_in k_L_law 34 = some (.if_icmp .gt 2518, 37, 2552, 0, 0) := by decide +kernel
theorem r_L_law_37 : mv_in k_L_law 37 = some (.aload_n 0, 38, 0, 0, 0) := by decide +kernel
theorem r_L_law_38 : mv_in k_L_law 38 = some (.iload 5, 40, 0, 0, 0) := by decide +kernel
theorem r_L_law_40 : mv_in k_L_law 40 = some (.iaload, 41, 0, 0, 0) := by decide +kernel
theorem r_L_law_41 : mv_in k_L_law 41 = some (.bipush 63, 43, 0, 0, 0) := by decide +kernel
theorem r_L_law_43 : mv_in k_L_law 43 = some (.iand, 44, 0, 0, 0) := by decide +kernel
theorem r_L_law_44 : mv_in k_L_law 44 = some (.tableswitch 2502 0 47 #[208, 288, 356, 424, 480, 536, 549, 617, 673, 686, 742, 798, 854, 910, 966, 1029, 1085, 1141, 1197, 1253, 1266, 1279, 1335, 1348, 1361, 1375, 1440, 1506, 1574, 1642, 1686, 1754, 1822, 1890, 1946, 2014, 2082, 2138, 2151, 2209, 2253, 2297, 2341, 2354, 2367, 2423, 2467, 2478], 252, 44, 0, 0) := by decide +kernel
theorem r_L_law_252 : mv_in k_L_law 252 = some (.aload_n 1, 253, 0, 0, 0) := by decide +kernel
theorem r_L_law_253 : mv_in k_L_law 253 = some (.aload_n 0, 254, 0, 0, 0) := by decide +kernel
theorem r_L_law_254 : mv_in k_L_law 254 = some (.iload 5, 256, 0, 0, 0) := by decide +kernel
theorem r_L_law_256 : mv_in k_L_law 256 = some (.iconst 1, 257, 0, 0, 0) := by decide +kernel
theorem r_L_law_257 : mv_in k_L_law 257 = some (.iadd, 258, 0, 0, 0) := by decide +kernel
theorem r_L_law_258 : mv_in k_L_law 258 = some (.iaload, 259, 0, 0, 0) := by decide +kernel
theorem r_L_law_259 : mv_in k_L_law 259 = some (.aload_n 0, 260, 0, 0, 0) := by decide +kernel
theorem r_L_law_260 : mv_in k_L_law 260 = some (.iload 5, 262, 0, 0, 0) := by decide +kernel
theorem r_L_law_262 : mv_in k_L_law 262 = some (.iconst 2, 263, 0, 0, 0) := by decide +kernel
theorem r_L_law_263 : mv_in k_L_law 263 = some (.iadd, 264, 0, 0, 0) := by decide +kernel
theorem r_L_law_264 : mv_in k_L_law 264 = some (.iaload, 265, 0, 0, 0) := by decide +kernel
theorem r_L_law_265 : mv_in k_L_law 265 = some (.aload_n 0, 266, 0, 0, 0) := by decide +kernel
theorem r_L_law_266 : mv_in k_L_law 266 = some (.iload 5, 268, 0, 0, 0) := by decide +kernel
theorem r_L_law_268 : mv_in k_L_law 268 = some (.iconst 3, 269, 0, 0, 0) := by decide +kernel
theorem r_L_law_269 : mv_in k_L_law 269 = some (.iadd, 270, 0, 0, 0) := by decide +kernel
theorem r_L_law_270 : mv_in k_L_law 270 = some (.iaload, 271, 0, 0, 0) := by decide +kernel
theorem r_L_law_271 : mv_in k_L_law 271 = some (.aload_n 3, 272, 0, 0, 0) := by decide +kernel
theorem r_L_law_272 : mv_in k_L_law 272 = some (.invokestatic 145, 275, k_L_addBasin, 5, 773) := by decide +kernel
theorem r_L_law_275 : mv_in k_L_law 275 = some (.istore 6, 277, 0, 0, 0) := by decide +kernel
theorem r_L_law_277 : mv_in k_L_law 277 = some (.aload_n 2, 278, 0, 0, 0) := by decide +kernel
theorem r_L_law_278 : mv_in k_L_law 278 = some (.aload_n 0, 279, 0, 0, 0) := by decide +kernel
theorem r_L_law_279 : mv_in k_L_law 279 = some (.iload 5, 281, 0, 0, 0) := by decide +kernel
theorem r_L_law_281 : mv_in k_L_law 281 = some (.iconst 1, 282, 0, 0, 0) := by decide +kernel
theorem r_L_law_282 : mv_in k_L_law 282 = some (.iadd, 283, 0, 0, 0) := by decide +kernel
theorem r_L_law_283 : mv_in k_L_law 283 = some (.iaload, 284, 0, 0, 0) := by decide +kernel
theorem r_L_law_284 : mv_in k_L_law 284 = some (.aload_n 0, 285, 0, 0, 0) := by decide +kernel
theorem r_L_law_285 : mv_in k_L_law 285 = some (.iload 5, 287, 0, 0, 0) := by decide +kernel
theorem r_L_law_287 : mv_in k_L_law 287 = some (.iconst 2, 288, 0, 0, 0) := by decide +kernel
theorem r_L_law_288 : mv_in k_L_law 288 = some (.iadd, 289, 0, 0, 0) := by decide +kernel
theorem r_L_law_289 : mv_in k_L_law 289 = some (.iaload, 290, 0, 0, 0) := by decide +kernel
theorem r_L_law_290 : mv_in k_L_law 290 = some (.aload_n 0, 291, 0, 0, 0) := by decide +kernel
theorem r_L_law_291 : mv_in k_L_law 291 = some (.iload 5, 293, 0, 0, 0) := by decide +kernel
theorem r_L_law_293 : mv_in k_L_law 293 = some (.iconst 3, 294, 0, 0, 0) := by decide +kernel
theorem r_L_law_294 : mv_in k_L_law 294 = some (.iadd, 295, 0, 0, 0) := by decide +kernel
theorem r_L_law_295 : mv_in k_L_law 295 = some (.iaload, 296, 0, 0, 0) := by decide +kernel
theorem r_L_law_296 : mv_in k_L_law 296 = some (.invokevirtual 150, 299, k_X11_addBasin, 4, 1319) := by decide +kernel
theorem r_L_law_299 : mv_in k_L_law 299 = some (.istore 7, 301, 0, 0, 0) := by decide +kernel
theorem r_L_law_301 : mv_in k_L_law 301 = some (.aload_n 2, 302, 0, 0, 0) := by decide +kernel
theorem r_L_law_302 : mv_in k_L_law 302 = some (.invokevirtual 151, 305, k_X11_thrown, 1, 1315) := by decide +kernel
theorem r_L_law_305 : mv_in k_L_law 305 = some (.iload 6, 307, 0, 0, 0) := by decide +kernel
theorem r_L_law_307 : mv_in k_L_law 307 = some (.if_icmp .eq 5, 310, 312, 0, 0) := by decide +kernel
theorem r_L_law_310 : mv_in k_L_law 310 = some (.iconst 0, 311, 0, 0, 0) := by decide +kernel
theorem r_L_law_311 : mv_in k_L_law 311 = some (.ireturn, 312, 1, 0, 0) := by decide +kernel
theorem r_L_law_312 : mv_in k_L_law 312 = some (.iload 6, 314, 0, 0, 0) := by decide +kernel
theorem r_L_law_314 : mv_in k_L_law 314 = some (.ifCond .ne 15, 317, 329, 0, 0) := by decide +kernel
theorem r_L_law_317 : mv_in k_L_law 317 = some (.aload_n 3, 318, 0, 0, 0) := by decide +kernel
theorem r_L_law_318 : mv_in k_L_law 318 = some (.iconst 0, 319, 0, 0, 0) := by decide +kernel
theorem r_L_law_319 : mv_in k_L_law 319 = some (.laload, 320, 0, 0, 0) := by decide +kernel
theorem r_L_law_320 : mv_in k_L_law 320 = some (.iload 7, 322, 0, 0, 0) := by decide +kernel
theorem r_L_law_322 : mv_in k_L_law 322 = some (.i2l, 323, 0, 0, 0) := by decide +kernel
theorem r_L_law_323 : mv_in k_L_law 323 = some (.lcmp, 324, 0, 0, 0) := by decide +kernel
theorem r_L_law_324 : mv_in k_L_law 324 = some (.ifCond .eq 5, 327, 329, 0, 0) := by decide +kernel
theorem r_L_law_327 : mv_in k_L_law 327 = some (.iconst 0, 328, 0, 0, 0) := by decide +kernel
theorem r_L_law_328 : mv_in k_L_law 328 = some (.ireturn, 329, 1, 0, 0) := by decide +kernel
theorem r_L_law_329 : mv_in k_L_law 329 = some (.goto 2217, 332, 2546, 0, 0) := by decide +kernel
theorem r_L_law_332 : mv_in k_L_law 332 = some (.aload_n 1, 333, 0, 0, 0) := by decide +kernel
theorem r_L_law_333 : mv_in k_L_law 333 = some (.aload_n 0, 334, 0, 0, 0) := by decide +kernel
theorem r_L_law_334 : mv_in k_L_law 334 = some (.iload 5, 336, 0, 0, 0) := by decide +kernel
theorem r_L_law_336 : mv_in k_L_law 336 = some (.iconst 1, 337, 0, 0, 0) := by decide +kernel
theorem r_L_law_337 : mv_in k_L_law 337 = some (.iadd, 338, 0, 0, 0) := by decide +kernel
theorem r_L_law_338 : mv_in k_L_law 338 = some (.iaload, 339, 0, 0, 0) := by decide +kernel
theorem r_L_law_339 : mv_in k_L_law 339 = some (.aload_n 0, 340, 0, 0, 0) := by decide +kernel
theorem r_L_law_340 : mv_in k_L_law 340 = some (.iload 5, 342, 0, 0, 0) := by decide +kernel
theorem r_L_law_342 : mv_in k_L_law 342 = some (.iconst 2, 343, 0, 0, 0) := by decide +kernel
theorem r_L_law_343 : mv_in k_L_law 343 = some (.iadd, 344, 0, 0, 0) := by decide +kernel
theorem r_L_law_344 : mv_in k_L_law 344 = some (.iaload, 345, 0, 0, 0) := by decide +kernel
theorem r_L_law_345 : mv_in k_L_law 345 = some (.aload_n 3, 346, 0, 0, 0) := by decide +kernel
theorem r_L_law_346 : mv_in k_L_law 346 = some (.invokestatic 154, 349, k_L_setGate, 4, 784) := by decide +kernel
theorem r_L_law_349 : mv_in k_L_law 349 = some (.istore 6, 351, 0, 0, 0) := by decide +kernel
theorem r_L_law_351 : mv_in k_L_law 351 = some (.aload_n 2, 352, 0, 0, 0) := by decide +kernel
theorem r_L_law_352 : mv_in k_L_law 352 = some (.aload_n 0, 353, 0, 0, 0) := by decide +kernel
theorem r_L_law_353 : mv_in k_L_law 353 = some (.iload 5, 355, 0, 0, 0) := by decide +kernel
theorem r_L_law_355 : mv_in k_L_law 355 = some (.iconst 1, 356, 0, 0, 0) := by decide +kernel
theorem r_L_law_356 : mv_in k_L_law 356 = some (.iadd, 357, 0, 0, 0) := by decide +kernel
theorem r_L_law_357 : mv_in k_L_law 357 = some (.iaload, 358, 0, 0, 0) := by decide +kernel
theorem r_L_law_358 : mv_in k_L_law 358 = some (.aload_n 0, 359, 0, 0, 0) := by decide +kernel
theorem r_L_law_359 : mv_in k_L_law 359 = some (.iload 5, 361, 0, 0, 0) := by decide +kernel
theorem r_L_law_361 : mv_in k_L_law 361 = some (.iconst 2, 362, 0, 0, 0) := by decide +kernel
theorem r_L_law_362 : mv_in k_L_law 362 = some (.iadd, 363, 0, 0, 0) := by decide +kernel
theorem r_L_law_363 : mv_in k_L_law 363 = some (.iaload, 364, 0, 0, 0) := by decide +kernel
theorem r_L_law_364 : mv_in k_L_law 364 = some (.invokevirtual 157, 367, k_X11_setGate, 3, 1346) := by decide +kernel
theorem r_L_law_367 : mv_in k_L_law 367 = some (.istore 7, 369, 0, 0, 0) := by decide +kernel
theorem r_L_law_369 : mv_in k_L_law 369 = some (.aload_n 2, 370, 0, 0, 0) := by decide +kernel
theorem r_L_law_370 : mv_in k_L_law 370 = some (.invokevirtual 151, 373, k_X11_thrown, 1, 1315) := by decide +kernel
theorem r_L_law_373 : mv_in k_L_law 373 = some (.iload 6, 375, 0, 0, 0) := by decide +kernel
theorem r_L_law_375 : mv_in k_L_law 375 = some (.if_icmp .eq 5, 378, 380, 0, 0) := by decide +kernel
theorem r_L_law_378 : mv_in k_L_law 378 = some (.iconst 0, 379, 0, 0, 0) := by decide +kernel
theorem r_L_law_379 : mv_in k_L_law 379 = some (.ireturn, 380, 1, 0, 0) := by decide +kernel
theorem r_L_law_380 : mv_in k_L_law 380 = some (.iload 6, 382, 0, 0, 0) := by decide +kernel
theorem r_L_law_382 : mv_in k_L_law 382 = some (.ifCond .ne 15, 385, 397, 0, 0) := by decide +kernel
theorem r_L_law_385 : mv_in k_L_law 385 = some (.aload_n 3, 386, 0, 0, 0) := by decide +kernel
theorem r_L_law_386 : mv_in k_L_law 386 = some (.iconst 0, 387, 0, 0, 0) := by decide +kernel
theorem r_L_law_387 : mv_in k_L_law 387 = some (.laload, 388, 0, 0, 0) := by decide +kernel
theorem r_L_law_388 : mv_in k_L_law 388 = some (.iload 7, 390, 0, 0, 0) := by decide +kernel
theorem r_L_law_390 : mv_in k_L_law 390 = some (.i2l, 391, 0, 0, 0) := by decide +kernel
theorem r_L_law_391 : mv_in k_L_law 391 = some (.lcmp, 392, 0, 0, 0) := by decide +kernel
theorem r_L_law_392 : mv_in k_L_law 392 = some (.ifCond .eq 5, 395, 397, 0, 0) := by decide +kernel
theorem r_L_law_395 : mv_in k_L_law 395 = some (.iconst 0, 396, 0, 0, 0) := by decide +kernel
theorem r_L_law_396 : mv_in k_L_law 396 = some (.ireturn, 397, 1, 0, 0) := by decide +kernel
theorem r_L_law_397 : mv_in k_L_law 397 = some (.goto 2149, 400, 2546, 0, 0) := by decide +kernel
theorem r_L_law_400 : mv_in k_L_law 400 = some (.aload_n 1, 401, 0, 0, 0) := by decide +kernel
theorem r_L_law_401 : mv_in k_L_law 401 = some (.aload_n 0, 402, 0, 0, 0) := by decide +kernel
theorem r_L_law_402 : mv_in k_L_law 402 = some (.iload 5, 404, 0, 0, 0) := by decide +kernel
theorem r_L_law_404 : mv_in k_L_law 404 = some (.iconst 1, 405, 0, 0, 0) := by decide +kernel
theorem r_L_law_405 : mv_in k_L_law 405 = some (.iadd, 406, 0, 0, 0) := by decide +kernel
theorem r_L_law_406 : mv_in k_L_law 406 = some (.iaload, 407, 0, 0, 0) := by decide +kernel
theorem r_L_law_407 : mv_in k_L_law 407 = some (.aload_n 0, 408, 0, 0, 0) := by decide +kernel
theorem r_L_law_408 : mv_in k_L_law 408 = some (.iload 5, 410, 0, 0, 0) := by decide +kernel
theorem r_L_law_410 : mv_in k_L_law 410 = some (.iconst 2, 411, 0, 0, 0) := by decide +kernel
theorem r_L_law_411 : mv_in k_L_law 411 = some (.iadd, 412, 0, 0, 0) := by decide +kernel
theorem r_L_law_412 : mv_in k_L_law 412 = some (.iaload, 413, 0, 0, 0) := by decide +kernel
theorem r_L_law_413 : mv_in k_L_law 413 = some (.aload_n 3, 414, 0, 0, 0) := by decide +kernel
theorem r_L_law_414 : mv_in k_L_law 414 = some (.invokestatic 158, 417, k_L_setAutomatic, 4, 814) := by decide +kernel
theorem r_L_law_417 : mv_in k_L_law 417 = some (.istore 6, 419, 0, 0, 0) := by decide +kernel
theorem r_L_law_419 : mv_in k_L_law 419 = some (.aload_n 2, 420, 0, 0, 0) := by decide +kernel
theorem r_L_law_420 : mv_in k_L_law 420 = some (.aload_n 0, 421, 0, 0, 0) := by decide +kernel
theorem r_L_law_421 : mv_in k_L_law 421 = some (.iload 5, 423, 0, 0, 0) := by decide +kernel
theorem r_L_law_423 : mv_in k_L_law 423 = some (.iconst 1, 424, 0, 0, 0) := by decide +kernel
theorem r_L_law_424 : mv_in k_L_law 424 = some (.iadd, 425, 0, 0, 0) := by decide +kernel
theorem r_L_law_425 : mv_in k_L_law 425 = some (.iaload, 426, 0, 0, 0) := by decide +kernel
theorem r_L_law_426 : mv_in k_L_law 426 = some (.aload_n 0, 427, 0, 0, 0) := by decide +kernel
theorem r_L_law_427 : mv_in k_L_law 427 = some (.iload 5, 429, 0, 0, 0) := by decide +kernel
theorem r_L_law_429 : mv_in k_L_law 429 = some (.iconst 2, 430, 0, 0, 0) := by decide +kernel
theorem r_L_law_430 : mv_in k_L_law 430 = some (.iadd, 431, 0, 0, 0) := by decide +kernel
theorem r_L_law_431 : mv_in k_L_law 431 = some (.iaload, 432, 0, 0, 0) := by decide +kernel
theorem r_L_law_432 : mv_in k_L_law 432 = some (.invokevirtual 160, 435, k_X11_setAutomatic, 3, 1362) := by decide +kernel
theorem r_L_law_435 : mv_in k_L_law 435 = some (.istore 7, 437, 0, 0, 0) := by decide +kernel
theorem r_L_law_437 : mv_in k_L_law 437 = some (.aload_n 2, 438, 0, 0, 0) := by decide +kernel
theorem r_L_law_438 : mv_in k_L_law 438 = some (.invokevirtual 151, 441, k_X11_thrown, 1, 1315) := by decide +kernel
theorem r_L_law_441 : mv_in k_L_law 441 = some (.iload 6, 443, 0, 0, 0) := by decide +kernel
theorem r_L_law_443 : mv_in k_L_law 443 = some (.if_icmp .eq 5, 446, 448, 0, 0) := by decide +kernel
theorem r_L_law_446 : mv_in k_L_law 446 = some (.iconst 0, 447, 0, 0, 0) := by decide +kernel
theorem r_L_law_447 : mv_in k_L_law 447 = some (.ireturn, 448, 1, 0, 0) := by decide +kernel
theorem r_L_law_448 : mv_in k_L_law 448 = some (.iload 6, 450, 0, 0, 0) := by decide +kernel
theorem r_L_law_450 : mv_in k_L_law 450 = some (.ifCond .ne 15, 453, 465, 0, 0) := by decide +kernel
theorem r_L_law_453 : mv_in k_L_law 453 = some (.aload_n 3, 454, 0, 0, 0) := by decide +kernel
theorem r_L_law_454 : mv_in k_L_law 454 = some (.iconst 0, 455, 0, 0, 0) := by decide +kernel
theorem r_L_law_455 : mv_in k_L_law 455 = some (.laload, 456, 0, 0, 0) := by decide +kernel
theorem r_L_law_456 : mv_in k_L_law 456 = some (.iload 7, 458, 0, 0, 0) := by decide +kernel
theorem r_L_law_458 : mv_in k_L_law 458 = some (.i2l, 459, 0, 0, 0) := by decide +kernel
theorem r_L_law_459 : mv_in k_L_law 459 = some (.lcmp, 460, 0, 0, 0) := by decide +kernel
theorem r_L_law_460 : mv_in k_L_law 460 = some (.ifCond .eq 5, 463, 465, 0, 0) := by decide +kernel
theorem r_L_law_463 : mv_in k_L_law 463 = some (.iconst 0, 464, 0, 0, 0) := by decide +kernel
theorem r_L_law_464 : mv_in k_L_law 464 = some (.ireturn, 465, 1, 0, 0) := by decide +kernel
theorem r_L_law_465 : mv_in k_L_law 465 = some (.goto 2081, 468, 2546, 0, 0) := by decide +kernel
theorem r_L_law_468 : mv_in k_L_law 468 = some (.aload_n 1, 469, 0, 0, 0) := by decide +kernel
theorem r_L_law_469 : mv_in k_L_law 469 = some (.aload_n 0, 470, 0, 0, 0) := by decide +kernel
theorem r_L_law_470 : mv_in k_L_law 470 = some (.iload 5, 472, 0, 0, 0) := by decide +kernel
theorem r_L_law_472 : mv_in k_L_law 472 = some (.iconst 1, 473, 0, 0, 0) := by decide +kernel
theorem r_L_law_473 : mv_in k_L_law 473 = some (.iadd, 474, 0, 0, 0) := by decide +kernel
theorem r_L_law_474 : mv_in k_L_law 474 = some (.iaload, 475, 0, 0, 0) := by decide +kernel
theorem r_L_law_475 : mv_in k_L_law 475 = some (.aload_n 3, 476, 0, 0, 0) := by decide +kernel
theorem r_L_law_476 : mv_in k_L_law 476 = some (.invokestatic 161, 479, k_L_setManual, 3, 823) := by decide +kernel
theorem r_L_law_479 : mv_in k_L_law 479 = some (.istore 6, 481, 0, 0, 0) := by decide +kernel
theorem r_L_law_481 : mv_in k_L_law 481 = some (.aload_n 2, 482, 0, 0, 0) := by decide +kernel
theorem r_L_law_482 : mv_in k_L_law 482 = some (.aload_n 0, 483, 0, 0, 0) := by decide +kernel
theorem r_L_law_483 : mv_in k_L_law 483 = some (.iload 5, 485, 0, 0, 0) := by decide +kernel
theorem r_L_law_485 : mv_in k_L_law 485 = some (.iconst 1, 486, 0, 0, 0) := by decide +kernel
theorem r_L_law_486 : mv_in k_L_law 486 = some (.iadd, 487, 0, 0, 0) := by decide +kernel
theorem r_L_law_487 : mv_in k_L_law 487 = some (.iaload, 488, 0, 0, 0) := by decide +kernel
theorem r_L_law_488 : mv_in k_L_law 488 = some (.invokevirtual 164, 491, k_X11_setManual, 2, 1374) := by decide +kernel
theorem r_L_law_491 : mv_in k_L_law 491 = some (.istore 7, 493, 0, 0, 0) := by decide +kernel
theorem r_L_law_493 : mv_in k_L_law 493 = some (.aload_n 2, 494, 0, 0, 0) := by decide +kernel
theorem r_L_law_494 : mv_in k_L_law 494 = some (.invokevirtual 151, 497, k_X11_thrown, 1, 1315) := by decide +kernel
theorem r_L_law_497 : mv_in k_L_law 497 = some (.iload 6, 499, 0, 0, 0) := by decide +kernel
theorem r_L_law_499 : mv_in k_L_law 499 = some (.if_icmp .eq 5, 502, 504, 0, 0) := by decide +kernel
theorem r_L_law_502 : mv_in k_L_law 502 = some (.iconst 0, 503, 0, 0, 0) := by decide +kernel
theorem r_L_law_503 : mv_in k_L_law 503 = some (.ireturn, 504, 1, 0, 0) := by decide +kernel
theorem r_L_law_504 : mv_in k_L_law 504 = some (.iload 6, 506, 0, 0, 0) := by decide +kernel
theorem r_L_law_506 : mv_in k_L_law 506 = some (.ifCond .ne 15, 509, 521, 0, 0) := by decide +kernel
theorem r_L_law_509 : mv_in k_L_law 509 = some (.aload_n 3, 510, 0, 0, 0) := by decide +kernel
theorem r_L_law_510 : mv_in k_L_law 510 = some (.iconst 0, 511, 0, 0, 0) := by decide +kernel
theorem r_L_law_511 : mv_in k_L_law 511 = some (.laload, 512, 0, 0, 0) := by decide +kernel
theorem r_L_law_512 : mv_in k_L_law 512 = some (.iload 7, 514, 0, 0, 0) := by decide +kernel
theorem r_L_law_514 : mv_in k_L_law 514 = some (.i2l, 515, 0, 0, 0) := by decide +kernel
theorem r_L_law_515 : mv_in k_L_law 515 = some (.lcmp, 516, 0, 0, 0) := by decide +kernel
theorem r_L_law_516 : mv_in k_L_law 516 = some (.ifCond .eq 5, 519, 521, 0, 0) := by decide +kernel
theorem r_L_law_519 : mv_in k_L_law 519 = some (.iconst 0, 520, 0, 0, 0) := by decide +kernel
theorem r_L_law_520 : mv_in k_L_law 520 = some (.ireturn, 521, 1, 0, 0) := by decide +kernel
theorem r_L_law_521 : mv_in k_L_law 521 = some (.goto 2025, 524, 2546, 0, 0) := by decide +kernel
theorem r_L_law_524 : mv_in k_L_law 524 = some (.aload_n 1, 525, 0, 0, 0) := by decide +kernel
theorem r_L_law_525 : mv_in k_L_law 525 = some (.aload_n 0, 526, 0, 0, 0) := by decide +kernel
theorem r_L_law_526 : mv_in k_L_law 526 = some (.iload 5, 528, 0, 0, 0) := by decide +kernel
theorem r_L_law_528 : mv_in k_L_law 528 = some (.iconst 1, 529, 0, 0, 0) := by decide +kernel
theorem r_L_law_529 : mv_in k_L_law 529 = some (.iadd, 530, 0, 0, 0) := by decide +kernel
theorem r_L_law_530 : mv_in k_L_law 530 = some (.iaload, 531, 0, 0, 0) := by decide +kernel
theorem r_L_law_531 : mv_in k_L_law 531 = some (.aload_n 3, 532, 0, 0, 0) := by decide +kernel
theorem r_L_law_532 : mv_in k_L_law 532 = some (.invokestatic 165, 535, k_L_addRain, 3, 832) := by decide +kernel
theorem r_L_law_535 : mv_in k_L_law 535 = some (.istore 6, 537, 0, 0, 0) := by decide +kernel
theorem r_L_law_537 : mv_in k_L_law 537 = some (.aload_n 2, 538, 0, 0, 0) := by decide +kernel
theorem r_L_law_538 : mv_in k_L_law 538 = some (.aload_n 0, 539, 0, 0, 0) := by decide +kernel
theorem r_L_law_539 : mv_in k_L_law 539 = some (.iload 5, 541, 0, 0, 0) := by decide +kernel
theorem r_L_law_541 : mv_in k_L_law 541 = some (.iconst 1, 542, 0, 0, 0) := by decide +kernel
theorem r_L_law_542 : mv_in k_L_law 542 = some (.iadd, 543, 0, 0, 0) := by decide +kernel
theorem r_L_law_543 : mv_in k_L_law 543 = some (.iaload, 544, 0, 0, 0) := by decide +kernel
theorem r_L_law_544 : mv_in k_L_law 544 = some (.invokevirtual 167, 547, k_X11_addRain, 2, 1382) := by decide +kernel
theorem r_L_law_547 : mv_in k_L_law 547 = some (.istore 7, 549, 0, 0, 0) := by decide +kernel
theorem r_L_law_549 : mv_in k_L_law 549 = some (.aload_n 2, 550, 0, 0, 0) := by decide +kernel
theorem r_L_law_550 : mv_in k_L_law 550 = some (.invokevirtual 151, 553, k_X11_thrown, 1, 1315) := by decide +kernel
theorem r_L_law_553 : mv_in k_L_law 553 = some (.iload 6, 555, 0, 0, 0) := by decide +kernel
theorem r_L_law_555 : mv_in k_L_law 555 = some (.if_icmp .eq 5, 558, 560, 0, 0) := by decide +kernel
theorem r_L_law_558 : mv_in k_L_law 558 = some (.iconst 0, 559, 0, 0, 0) := by decide +kernel
theorem r_L_law_559 : mv_in k_L_law 559 = some (.ireturn, 560, 1, 0, 0) := by decide +kernel
theorem r_L_law_560 : mv_in k_L_law 560 = some (.iload 6, 562, 0, 0, 0) := by decide +kernel
theorem r_L_law_562 : mv_in k_L_law 562 = some (.ifCond .ne 15, 565, 577, 0, 0) := by decide +kernel
theorem r_L_law_565 : mv_in k_L_law 565 = some (.aload_n 3, 566, 0, 0, 0) := by decide +kernel
theorem r_L_law_566 : mv_in k_L_law 566 = some (.iconst 0, 567, 0, 0, 0) := by decide +kernel
theorem r_L_law_567 : mv_in k_L_law 567 = some (.laload, 568, 0, 0, 0) := by decide +kernel
theorem r_L_law_568 : mv_in k_L_law 568 = some (.iload 7, 570, 0, 0, 0) := by decide +kernel
theorem r_L_law_570 : mv_in k_L_law 570 = some (.i2l, 571, 0, 0, 0) := by decide +kernel
theorem r_L_law_571 : mv_in k_L_law 571 = some (.lcmp, 572, 0, 0, 0) := by decide +kernel
theorem r_L_law_572 : mv_in k_L_law 572 = some (.ifCond .eq 5, 575, 577, 0, 0) := by decide +kernel
theorem r_L_law_575 : mv_in k_L_law 575 = some (.iconst 0, 576, 0, 0, 0) := by decide +kernel
theorem r_L_law_576 : mv_in k_L_law 576 = some (.ireturn, 577, 1, 0, 0) := by decide +kernel
theorem r_L_law_577 : mv_in k_L_law 577 = some (.goto 1969, 580, 2546, 0, 0) := by decide +kernel
theorem r_L_law_580 : mv_in k_L_law 580 = some (.aload_n 1, 581, 0, 0, 0) := by decide +kernel
theorem r_L_law_581 : mv_in k_L_law 581 = some (.invokevirtual 168, 584, k_X10_clearForecast, 1, 375) := by decide +kernel
theorem r_L_law_584 : mv_in k_L_law 584 = some (.aload_n 2, 585, 0, 0, 0) := by decide +kernel
theorem r_L_law_585 : mv_in k_L_law 585 = some (.invokevirtual 171, 588, k_X11_clearForecast, 1, 1390) := by decide +kernel
theorem r_L_law_588 : mv_in k_L_law 588 = some (.if_icmp .eq 1958, 591, 2546, 0, 0) := by decide +kernel
theorem r_L_law_591 : mv_in k_L_law 591 = some (.iconst 0, 592, 0, 0, 0) := by decide +kernel
theorem r_L_law_592 : mv_in k_L_law 592 = some (.ireturn, 593, 1, 0, 0) := by decide +kernel
theorem r_L_law_593 : mv_in k_L_law 593 = some (.aload_n 1, 594, 0, 0, 0) := by decide +kernel
theorem r_L_law_594 : mv_in k_L_law 594 = some (.aload_n 0, 595, 0, 0, 0) := by decide +kernel
theorem r_L_law_595 : mv_in k_L_law 595 = some (.iload 5, 597, 0, 0, 0) := by decide +kernel
theorem r_L_law_597 : mv_in k_L_law 597 = some (.iconst 1, 598, 0, 0, 0) := by decide +kernel
theorem r_L_law_598 : mv_in k_L_law 598 = some (.iadd, 599, 0, 0, 0) := by decide +kernel
theorem r_L_law_599 : mv_in k_L_law 599 = some (.iaload, 600, 0, 0, 0) := by decide +kernel
theorem r_L_law_600 : mv_in k_L_law 600 = some (.aload_n 0, 601, 0, 0, 0) := by decide +kernel
theorem r_L_law_601 : mv_in k_L_law 601 = some (.iload 5, 603, 0, 0, 0) := by decide +kernel
theorem r_L_law_603 : mv_in k_L_law 603 = some (.iconst 2, 604, 0, 0, 0) := by decide +kernel
theorem r_L_law_604 : mv_in k_L_law 604 = some (.iadd, 605, 0, 0, 0) := by decide +kernel
theorem r_L_law_605 : mv_in k_L_law 605 = some (.iaload, 606, 0, 0, 0) := by decide +kernel
theorem r_L_law_606 : mv_in k_L_law 606 = some (.aload_n 3, 607, 0, 0, 0) := by decide +kernel
theorem r_L_law_607 : mv_in k_L_law 607 = some (.invokestatic 172, 610, k_L_pour, 4, 841) := by decide +kernel
theorem r_L_law_610 : mv_in k_L_law 610 = some (.istore 6, 612, 0, 0, 0) := by decide +kernel
theorem r_L_law_612 : mv_in k_L_law 612 = some (.aload_n 2, 613, 0, 0, 0) := by decide +kernel
theorem r_L_law_613 : mv_in k_L_law 613 = some (.aload_n 0, 614, 0, 0, 0) := by decide +kernel
theorem r_L_law_614 : mv_in k_L_law 614 = some (.iload 5, 616, 0, 0, 0) := by decide +kernel
theorem r_L_law_616 : mv_in k_L_law 616 = some (.iconst 1, 617, 0, 0, 0) := by decide +kernel
theorem r_L_law_617 : mv_in k_L_law 617 = some (.iadd, 618, 0, 0, 0) := by decide +kernel
theorem r_L_law_618 : mv_in k_L_law 618 = some (.iaload, 619, 0, 0, 0) := by decide +kernel
theorem r_L_law_619 : mv_in k_L_law 619 = some (.aload_n 0, 620, 0, 0, 0) := by decide +kernel
theorem r_L_law_620 : mv_in k_L_law 620 = some (.iload 5, 622, 0, 0, 0) := by decide +kernel
theorem r_L_law_622 : mv_in k_L_law 622 = some (.iconst 2, 623, 0, 0, 0) := by decide +kernel
theorem r_L_law_623 : mv_in k_L_law 623 = some (.iadd, 624, 0, 0, 0) := by decide +kernel
theorem r_L_law_624 : mv_in k_L_law 624 = some (.iaload, 625, 0, 0, 0) := by decide +kernel
theorem r_L_law_625 : mv_in k_L_law 625 = some (.invokevirtual 174, 628, k_X11_pour, 3, 1402) := by decide +kernel
theorem r_L_law_628 : mv_in k_L_law 628 = some (.istore 7, 630, 0, 0, 0) := by decide +kernel
theorem r_L_law_630 : mv_in k_L_law 630 = some (.aload_n 2, 631, 0, 0, 0) := by decide +kernel
theorem r_L_law_631 : mv_in k_L_law 631 = some (.invokevirtual 151, 634, k_X11_thrown, 1, 1315) := by decide +kernel
theorem r_L_law_634 : mv_in k_L_law 634 = some (.iload 6, 636, 0, 0, 0) := by decide +kernel
theorem r_L_law_636 : mv_in k_L_law 636 = some (.if_icmp .eq 5, 639, 641, 0, 0) := by decide +kernel
theorem r_L_law_639 : mv_in k_L_law 639 = some (.iconst 0, 640, 0, 0, 0) := by decide +kernel
theorem r_L_law_640 : mv_in k_L_law 640 = some (.ireturn, 641, 1, 0, 0) := by decide +kernel
theorem r_L_law_641 : mv_in k_L_law 641 = some (.iload 6, 643, 0, 0, 0) := by decide +kernel
theorem r_L_law_643 : mv_in k_L_law 643 = some (.ifCond .ne 15, 646, 658, 0, 0) := by decide +kernel
theorem r_L_law_646 : mv_in k_L_law 646 = some (.aload_n 3, 647, 0, 0, 0) := by decide +kernel
theorem r_L_law_647 : mv_in k_L_law 647 = some (.iconst 0, 648, 0, 0, 0) := by decide +kernel
theorem r_L_law_648 : mv_in k_L_law 648 = some (.laload, 649, 0, 0, 0) := by decide +kernel
theorem r_L_law_649 : mv_in k_L_law 649 = some (.iload 7, 651, 0, 0, 0) := by decide +kernel
theorem r_L_law_651 : mv_in k_L_law 651 = some (.i2l, 652, 0, 0, 0) := by decide +kernel
theorem r_L_law_652 : mv_in k_L_law 652 = some (.lcmp, 653, 0, 0, 0) := by decide +kernel
theorem r_L_law_653 : mv_in k_L_law 653 = some (.ifCond .eq 5, 656, 658, 0, 0) := by decide +kernel
theorem r_L_law_656 : mv_in k_L_law 656 = some (.iconst 0, 657, 0, 0, 0) := by decide +kernel
theorem r_L_law_657 : mv_in k_L_law 657 = some (.ireturn, 658, 1, 0, 0) := by decide +kernel
theorem r_L_law_658 : mv_in k_L_law 658 = some (.goto 1888, 661, 2546, 0, 0) := by decide +kernel
theorem r_L_law_661 : mv_in k_L_law 661 = some (.aload_n 1, 662, 0, 0, 0) := by decide +kernel
theorem r_L_law_662 : mv_in k_L_law 662 = some (.aload_n 0, 663, 0, 0, 0) := by decide +kernel
theorem r_L_law_663 : mv_in k_L_law 663 = some (.iload 5, 665, 0, 0, 0) := by decide +kernel
theorem r_L_law_665 : mv_in k_L_law 665 = some (.iconst 1, 666, 0, 0, 0) := by decide +kernel
theorem r_L_law_666 : mv_in k_L_law 666 = some (.iadd, 667, 0, 0, 0) := by decide +kernel
theorem r_L_law_667 : mv_in k_L_law 667 = some (.iaload, 668, 0, 0, 0) := by decide +kernel
theorem r_L_law_668 : mv_in k_L_law 668 = some (.aload_n 3, 669, 0, 0, 0) := by decide +kernel
theorem r_L_law_669 : mv_in k_L_law 669 = some (.invokestatic 175, 672, k_L_advance, 3, 850) := by decide +kernel
theorem r_L_law_672 : mv_in k_L_law 672 = some (.istore 6, 674, 0, 0, 0) := by decide +kernel
theorem r_L_law_674 : mv_in k_L_law 674 = some (.aload_n 2, 675, 0, 0, 0) := by decide +kernel
theorem r_L_law_675 : mv_in k_L_law 675 = some (.aload_n 0, 676, 0, 0, 0) := by decide +kernel
theorem r_L_law_676 : mv_in k_L_law 676 = some (.iload 5, 678, 0, 0, 0) := by decide +kernel
theorem r_L_law_678 : mv_in k_L_law 678 = some (.iconst 1, 679, 0, 0, 0) := by decide +kernel
theorem r_L_law_679 : mv_in k_L_law 679 = some (.iadd, 680, 0, 0, 0) := by decide +kernel
theorem r_L_law_680 : mv_in k_L_law 680 = some (.iaload, 681, 0, 0, 0) := by decide +kernel
theorem r_L_law_681 : mv_in k_L_law 681 = some (.invokevirtual 177, 684, k_X11_advance, 2, 1414) := by decide +kernel
theorem r_L_law_684 : mv_in k_L_law 684 = some (.istore 7, 686, 0, 0, 0) := by decide +kernel
theorem r_L_law_686 : mv_in k_L_law 686 = some (.aload_n 2, 687, 0, 0, 0) := by decide +kernel
theorem r_L_law_687 : mv_in k_L_law 687 = some (.invokevirtual 151, 690, k_X11_thrown, 1, 1315) := by decide +kernel
theorem r_L_law_690 : mv_in k_L_law 690 = some (.iload 6, 692, 0, 0, 0) := by decide +kernel
theorem r_L_law_692 : mv_in k_L_law 692 = some (.if_icmp .eq 5, 695, 697, 0, 0) := by decide +kernel
theorem r_L_law_695 : mv_in k_L_law 695 = some (.iconst 0, 696, 0, 0, 0) := by decide +kernel
theorem r_L_law_696 : mv_in k_L_law 696 = some (.ireturn, 697, 1, 0, 0) := by decide +kernel
theorem r_L_law_697 : mv_in k_L_law 697 = some (.iload 6, 699, 0, 0, 0) := by decide +kernel
theorem r_L_law_699 : mv_in k_L_law 699 = some (.ifCond .ne 15, 702, 714, 0, 0) := by decide +kernel
theorem r_L_law_702 : mv_in k_L_law 702 = some (.aload_n 3, 703, 0, 0, 0) := by decide +kernel
theorem r_L_law_703 : mv_in k_L_law 703 = some (.iconst 0, 704, 0, 0, 0) := by decide +kernel
theorem r_L_law_704 : mv_in k_L_law 704 = some (.laload, 705, 0, 0, 0) := by decide +kernel
theorem r_L_law_705 : mv_in k_L_law 705 = some (.iload 7, 707, 0, 0, 0) := by decide +kernel
theorem r_L_law_707 : mv_in k_L_law 707 = some (.i2l, 708, 0, 0, 0) := by decide +kernel
theorem r_L_law_708 : mv_in k_L_law 708 = some (.lcmp, 709, 0, 0, 0) := by decide +kernel
theorem r_L_law_709 : mv_in k_L_law 709 = some (.ifCond .eq 5, 712, 714, 0, 0) := by decide +kernel
theorem r_L_law_712 : mv_in k_L_law 712 = some (.iconst 0, 713, 0, 0, 0) := by decide +kernel
theorem r_L_law_713 : mv_in k_L_law 713 = some (.ireturn, 714, 1, 0, 0) := by decide +kernel
theorem r_L_law_714 : mv_in k_L_law 714 = some (.goto 1832, 717, 2546, 0, 0) := by decide +kernel
theorem r_L_law_717 : mv_in k_L_law 717 = some (.aload_n 1, 718, 0, 0, 0) := by decide +kernel
theorem r_L_law_718 : mv_in k_L_law 718 = some (.invokevirtual 178, 721, k_X10_basinCount, 1, 633) := by decide +kernel
theorem r_L_law_721 : mv_in k_L_law 721 = some (.aload_n 2, 722, 0, 0, 0) := by decide +kernel
theorem r_L_law_722 : mv_in k_L_law 722 = some (.invokevirtual 181, 725, k_X11_basinCount, 1, 1430) := by decide +kernel
theorem r_L_law_725 : mv_in k_L_law 725 = some (.if_icmp .eq 1821, 728, 2546, 0, 0) := by decide +kernel
theorem r_L_law_728 : mv_in k_L_law 728 = some (.iconst 0, 729, 0, 0, 0) := by decide +kernel
theorem r_L_law_729 : mv_in k_L_law 729 = some (.ireturn, 730, 1, 0, 0) := by decide +kernel
theorem r_L_law_730 : mv_in k_L_law 730 = some (.aload_n 1, 731, 0, 0, 0) := by decide +kernel
theorem r_L_law_731 : mv_in k_L_law 731 = some (.aload_n 0, 732, 0, 0, 0) := by decide +kernel
theorem r_L_law_732 : mv_in k_L_law 732 = some (.iload 5, 734, 0, 0, 0) := by decide +kernel
theorem r_L_law_734 : mv_in k_L_law 734 = some (.iconst 1, 735, 0, 0, 0) := by decide +kernel
theorem r_L_law_735 : mv_in k_L_law 735 = some (.iadd, 736, 0, 0, 0) := by decide +kernel
theorem r_L_law_736 : mv_in k_L_law 736 = some (.iaload, 737, 0, 0, 0) := by decide +kernel
theorem r_L_law_737 : mv_in k_L_law 737 = some (.aload_n 3, 738, 0, 0, 0) := by decide +kernel
theorem r_L_law_738 : mv_in k_L_law 738 = some (.invokestatic 182, 741, k_L_capacity, 3, 859) := by decide +kernel
theorem r_L_law_741 : mv_in k_L_law 741 = some (.istore 6, 743, 0, 0, 0) := by decide +kernel
theorem r_L_law_743 : mv_in k_L_law 743 = some (.aload_n 2, 744, 0, 0, 0) := by decide +kernel
theorem r_L_law_744 : mv_in k_L_law 744 = some (.aload_n 0, 745, 0, 0, 0) := by decide +kernel
theorem r_L_law_745 : mv_in k_L_law 745 = some (.iload 5, 747, 0, 0, 0) := by decide +kernel
theorem r_L_law_747 : mv_in k_L_law 747 = some (.iconst 1, 748, 0, 0, 0) := by decide +kernel
theorem r_L_law_748 : mv_in k_L_law 748 = some (.iadd, 749, 0, 0, 0) := by decide +kernel
theorem r_L_law_749 : mv_in k_L_law 749 = some (.iaload, 750, 0, 0, 0) := by decide +kernel
theorem r_L_law_750 : mv_in k_L_law 750 = some (.invokevirtual 184, 753, k_X11_capacity, 2, 1438) := by decide +kernel
theorem r_L_law_753 : mv_in k_L_law 753 = some (.istore 7, 755, 0, 0, 0) := by decide +kernel
theorem r_L_law_755 : mv_in k_L_law 755 = some (.aload_n 2, 756, 0, 0, 0) := by decide +kernel
theorem r_L_law_756 : mv_in k_L_law 756 = some (.invokevirtual 151, 759, k_X11_thrown, 1, 1315) := by decide +kernel
theorem r_L_law_759 : mv_in k_L_law 759 = some (.iload 6, 761, 0, 0, 0) := by decide +kernel
theorem r_L_law_761 : mv_in k_L_law 761 = some (.if_icmp .eq 5, 764, 766, 0, 0) := by decide +kernel
theorem r_L_law_764 : mv_in k_L_law 764 = some (.iconst 0, 765, 0, 0, 0) := by decide +kernel
theorem r_L_law_765 : mv_in k_L_law 765 = some (.ireturn, 766, 1, 0, 0) := by decide +kernel
theorem r_L_law_766 : mv_in k_L_law 766 = some (.iload 6, 768, 0, 0, 0) := by decide +kernel
theorem r_L_law_768 : mv_in k_L_law 768 = some (.ifCond .ne 15, 771, 783, 0, 0) := by decide +kernel
theorem r_L_law_771 : mv_in k_L_law 771 = some (.aload_n 3, 772, 0, 0, 0) := by decide +kernel
theorem r_L_law_772 : mv_in k_L_law 772 = some (.iconst 0, 773, 0, 0, 0) := by decide +kernel
theorem r_L_law_773 : mv_in k_L_law 773 = some (.laload, 774, 0, 0, 0) := by decide +kernel
theorem r_L_law_774 : mv_in k_L_law 774 = some (.iload 7, 776, 0, 0, 0) := by decide +kernel
theorem r_L_law_776 : mv_in k_L_law 776 = some (.i2l, 777, 0, 0, 0) := by decide +kernel
theorem r_L_law_777 : mv_in k_L_law 777 = some (.lcmp, 778, 0, 0, 0) := by decide +kernel
theorem r_L_law_778 : mv_in k_L_law 778 = some (.ifCond .eq 5, 781, 783, 0, 0) := by decide +kernel
theorem r_L_law_781 : mv_in k_L_law 781 = some (.iconst 0, 782, 0, 0, 0) := by decide +kernel
theorem r_L_law_782 : mv_in k_L_law 782 = some (.ireturn, 783, 1, 0, 0) := by decide +kernel
theorem r_L_law_783 : mv_in k_L_law 783 = some (.goto 1763, 786, 2546, 0, 0) := by decide +kernel
theorem r_L_law_786 : mv_in k_L_law 786 = some (.aload_n 1, 787, 0, 0, 0) := by decide +kernel
theorem r_L_law_787 : mv_in k_L_law 787 = some (.aload_n 0, 788, 0, 0, 0) := by decide +kernel
theorem r_L_law_788 : mv_in k_L_law 788 = some (.iload 5, 790, 0, 0, 0) := by decide +kernel
theorem r_L_law_790 : mv_in k_L_law 790 = some (.iconst 1, 791, 0, 0, 0) := by decide +kernel
theorem r_L_law_791 : mv_in k_L_law 791 = some (.iadd, 792, 0, 0, 0) := by decide +kernel
theorem r_L_law_792 : mv_in k_L_law 792 = some (.iaload, 793, 0, 0, 0) := by decide +kernel
theorem r_L_law_793 : mv_in k_L_law 793 = some (.aload_n 3, 794, 0, 0, 0) := by decide +kernel
theorem r_L_law_794 : mv_in k_L_law 794 = some (.invokestatic 185, 797, k_L_level, 3, 871) := by decide +kernel
theorem r_L_law_797 : mv_in k_L_law 797 = some (.istore 6, 799, 0, 0, 0) := by decide +kernel
theorem r_L_law_799 : mv_in k_L_law 799 = some (.aload_n 2, 800, 0, 0, 0) := by decide +kernel
theorem r_L_law_800 : mv_in k_L_law 800 = some (.aload_n 0, 801, 0, 0, 0) := by decide +kernel
theorem r_L_law_801 : mv_in k_L_law 801 = some (.iload 5, 803, 0, 0, 0) := by decide +kernel
theorem r_L_law_803 : mv_in k_L_law 803 = some (.iconst 1, 804, 0, 0, 0) := by decide +kernel
theorem r_L_law_804 : mv_in k_L_law 804 = some (.iadd, 805, 0, 0, 0) := by decide +kernel
theorem r_L_law_805 : mv_in k_L_law 805 = some (.iaload, 806, 0, 0, 0) := by decide +kernel
theorem r_L_law_806 : mv_in k_L_law 806 = some (.invokevirtual 187, 809, k_X11_level, 2, 1450) := by decide +kernel
theorem r_L_law_809 : mv_in k_L_law 809 = some (.istore 7, 811, 0, 0, 0) := by decide +kernel
theorem r_L_law_811 : mv_in k_L_law 811 = some (.aload_n 2, 812, 0, 0, 0) := by decide +kernel
theorem r_L_law_812 : mv_in k_L_law 812 = some (.invokevirtual 151, 815, k_X11_thrown, 1, 1315) := by decide +kernel
theorem r_L_law_815 : mv_in k_L_law 815 = some (.iload 6, 817, 0, 0, 0) := by decide +kernel
theorem r_L_law_817 : mv_in k_L_law 817 = some (.if_icmp .eq 5, 820, 822, 0, 0) := by decide +kernel
theorem r_L_law_820 : mv_in k_L_law 820 = some (.iconst 0, 821, 0, 0, 0) := by decide +kernel
theorem r_L_law_821 : mv_in k_L_law 821 = some (.ireturn, 822, 1, 0, 0) := by decide +kernel
theorem r_L_law_822 : mv_in k_L_law 822 = some (.iload 6, 824, 0, 0, 0) := by decide +kernel
theorem r_L_law_824 : mv_in k_L_law 824 = some (.ifCond .ne 15, 827, 839, 0, 0) := by decide +kernel
theorem r_L_law_827 : mv_in k_L_law 827 = some (.aload_n 3, 828, 0, 0, 0) := by decide +kernel
theorem r_L_law_828 : mv_in k_L_law 828 = some (.iconst 0, 829, 0, 0, 0) := by decide +kernel
theorem r_L_law_829 : mv_in k_L_law 829 = some (.laload, 830, 0, 0, 0) := by decide +kernel
theorem r_L_law_830 : mv_in k_L_law 830 = some (.iload 7, 832, 0, 0, 0) := by decide +kernel
theorem r_L_law_832 : mv_in k_L_law 832 = some (.i2l, 833, 0, 0, 0) := by decide +kernel
theorem r_L_law_833 : mv_in k_L_law 833 = some (.lcmp, 834, 0, 0, 0) := by decide +kernel
theorem r_L_law_834 : mv_in k_L_law 834 = some (.ifCond .eq 5, 837, 839, 0, 0) := by decide +kernel
theorem r_L_law_837 : mv_in k_L_law 837 = some (.iconst 0, 838, 0, 0, 0) := by decide +kernel
theorem r_L_law_838 : mv_in k_L_law 838 = some (.ireturn, 839, 1, 0, 0) := by decide +kernel
theorem r_L_law_839 : mv_in k_L_law 839 = some (.goto 1707, 842, 2546, 0, 0) := by decide +kernel
theorem r_L_law_842 : mv_in k_L_law 842 = some (.aload_n 1, 843, 0, 0, 0) := by decide +kernel
theorem r_L_law_843 : mv_in k_L_law 843 = some (.aload_n 0, 844, 0, 0, 0) := by decide +kernel
theorem r_L_law_844 : mv_in k_L_law 844 = some (.iload 5, 846, 0, 0, 0) := by decide +kernel
theorem r_L_law_846 : mv_in k_L_law 846 = some (.iconst 1, 847, 0, 0, 0) := by decide +kernel
theorem r_L_law_847 : mv_in k_L_law 847 = some (.iadd, 848, 0, 0, 0) := by decide +kernel
theorem r_L_law_848 : mv_in k_L_law 848 = some (.iaload, 849, 0, 0, 0) := by decide +kernel
theorem r_L_law_849 : mv_in k_L_law 849 = some (.aload_n 3, 850, 0, 0, 0) := by decide +kernel
theorem r_L_law_850 : mv_in k_L_law 850 = some (.invokestatic 188, 853, k_L_catchment, 3, 878) := by decide +kernel
theorem r_L_law_853 : mv_in k_L_law 853 = some (.istore 6, 855, 0, 0, 0) := by decide +kernel
theorem r_L_law_855 : mv_in k_L_law 855 = some (.aload_n 2, 856, 0, 0, 0) := by decide +kernel
theorem r_L_law_856 : mv_in k_L_law 856 = some (.aload_n 0, 857, 0, 0, 0) := by decide +kernel
theorem r_L_law_857 : mv_in k_L_law 857 = some (.iload 5, 859, 0, 0, 0) := by decide +kernel
theorem r_L_law_859 : mv_in k_L_law 859 = some (.iconst 1, 860, 0, 0, 0) := by decide +kernel
theorem r_L_law_860 : mv_in k_L_law 860 = some (.iadd, 861, 0, 0, 0) := by decide +kernel
theorem r_L_law_861 : mv_in k_L_law 861 = some (.iaload, 862, 0, 0, 0) := by decide +kernel
theorem r_L_law_862 : mv_in k_L_law 862 = some (.invokevirtual 190, 865, k_X11_catchment, 2, 1454) := by decide +kernel
theorem r_L_law_865 : mv_in k_L_law 865 = some (.istore 7, 867, 0, 0, 0) := by decide +kernel
theorem r_L_law_867 : mv_in k_L_law 867 = some (.aload_n 2, 868, 0, 0, 0) := by decide +kernel
theorem r_L_law_868 : mv_in k_L_law 868 = some (.invokevirtual 151, 871, k_X11_thrown, 1, 1315) := by decide +kernel
theorem r_L_law_871 : mv_in k_L_law 871 = some (.iload 6, 873, 0, 0, 0) := by decide +kernel
theorem r_L_law_873 : mv_in k_L_law 873 = some (.if_icmp .eq 5, 876, 878, 0, 0) := by decide +kernel
theorem r_L_law_876 : mv_in k_L_law 876 = some (.iconst 0, 877, 0, 0, 0) := by decide +kernel
theorem r_L_law_877 : mv_in k_L_law 877 = some (.ireturn, 878, 1, 0, 0) := by decide +kernel
theorem r_L_law_878 : mv_in k_L_law 878 = some (.iload 6, 880, 0, 0, 0) := by decide +kernel
theorem r_L_law_880 : mv_in k_L_law 880 = some (.ifCond .ne 15, 883, 895, 0, 0) := by decide +kernel
theorem r_L_law_883 : mv_in k_L_law 883 = some (.aload_n 3, 884, 0, 0, 0) := by decide +kernel
theorem r_L_law_884 : mv_in k_L_law 884 = some (.iconst 0, 885, 0, 0, 0) := by decide +kernel
theorem r_L_law_885 : mv_in k_L_law 885 = some (.laload, 886, 0, 0, 0) := by decide +kernel
theorem r_L_law_886 : mv_in k_L_law 886 = some (.iload 7, 888, 0, 0, 0) := by decide +kernel
theorem r_L_law_888 : mv_in k_L_law 888 = some (.i2l, 889, 0, 0, 0) := by decide +kernel
theorem r_L_law_889 : mv_in k_L_law 889 = some (.lcmp, 890, 0, 0, 0) := by decide +kernel
theorem r_L_law_890 : mv_in k_L_law 890 = some (.ifCond .eq 5, 893, 895, 0, 0) := by decide +kernel
theorem r_L_law_893 : mv_in k_L_law 893 = some (.iconst 0, 894, 0, 0, 0) := by decide +kernel
theorem r_L_law_894 : mv_in k_L_law 894 = some (.ireturn, 895, 1, 0, 0) := by decide +kernel
theorem r_L_law_895 : mv_in k_L_law 895 = some (.goto 1651, 898, 2546, 0, 0) := by decide +kernel
theorem r_L_law_898 : mv_in k_L_law 898 = some (.aload_n 1, 899, 0, 0, 0) := by decide +kernel
theorem r_L_law_899 : mv_in k_L_law 899 = some (.aload_n 0, 900, 0, 0, 0) := by decide +kernel
theorem r_L_law_900 : mv_in k_L_law 900 = some (.iload 5, 902, 0, 0, 0) := by decide +kernel
theorem r_L_law_902 : mv_in k_L_law 902 = some (.iconst 1, 903, 0, 0, 0) := by decide +kernel
theorem r_L_law_903 : mv_in k_L_law 903 = some (.iadd, 904, 0, 0, 0) := by decide +kernel
theorem r_L_law_904 : mv_in k_L_law 904 = some (.iaload, 905, 0, 0, 0) := by decide +kernel
theorem r_L_law_905 : mv_in k_L_law 905 = some (.aload_n 3, 906, 0, 0, 0) := by decide +kernel
theorem r_L_law_906 : mv_in k_L_law 906 = some (.invokestatic 191, 909, k_L_fieldValue, 3, 885) := by decide +kernel
theorem r_L_law_909 : mv_in k_L_law 909 = some (.istore 6, 911, 0, 0, 0) := by decide +kernel
theorem r_L_law_911 : mv_in k_L_law 911 = some (.aload_n 2, 912, 0, 0, 0) := by decide +kernel
theorem r_L_law_912 : mv_in k_L_law 912 = some (.aload_n 0, 913, 0, 0, 0) := by decide +kernel
theorem r_L_law_913 : mv_in k_L_law 913 = some (.iload 5, 915, 0, 0, 0) := by decide +kernel
theorem r_L_law_915 : mv_in k_L_law 915 = some (.iconst 1, 916, 0, 0, 0) := by decide +kernel
theorem r_L_law_916 : mv_in k_L_law 916 = some (.iadd, 917, 0, 0, 0) := by decide +kernel
theorem r_L_law_917 : mv_in k_L_law 917 = some (.iaload, 918, 0, 0, 0) := by decide +kernel
theorem r_L_law_918 : mv_in k_L_law 918 = some (.invokevirtual 193, 921, k_X11_fieldValue, 2, 1458) := by decide +kernel
theorem r_L_law_921 : mv_in k_L_law 921 = some (.istore 7, 923, 0, 0, 0) := by decide +kernel
theorem r_L_law_923 : mv_in k_L_law 923 = some (.aload_n 2, 924, 0, 0, 0) := by decide +kernel
theorem r_L_law_924 : mv_in k_L_law 924 = some (.invokevirtual 151, 927, k_X11_thrown, 1, 1315) := by decide +kernel
theorem r_L_law_927 : mv_in k_L_law 927 = some (.iload 6, 929, 0, 0, 0) := by decide +kernel
theorem r_L_law_929 : mv_in k_L_law 929 = some (.if_icmp .eq 5, 932, 934, 0, 0) := by decide +kernel
theorem r_L_law_932 : mv_in k_L_law 932 = some (.iconst 0, 933, 0, 0, 0) := by decide +kernel
theorem r_L_law_933 : mv_in k_L_law 933 = some (.ireturn, 934, 1, 0, 0) := by decide +kernel
theorem r_L_law_934 : mv_in k_L_law 934 = some (.iload 6, 936, 0, 0, 0) := by decide +kernel
theorem r_L_law_936 : mv_in k_L_law 936 = some (.ifCond .ne 15, 939, 951, 0, 0) := by decide +kernel
theorem r_L_law_939 : mv_in k_L_law 939 = some (.aload_n 3, 940, 0, 0, 0) := by decide +kernel
theorem r_L_law_940 : mv_in k_L_law 940 = some (.iconst 0, 941, 0, 0, 0) := by decide +kernel
theorem r_L_law_941 : mv_in k_L_law 941 = some (.laload, 942, 0, 0, 0) := by decide +kernel
theorem r_L_law_942 : mv_in k_L_law 942 = some (.iload 7, 944, 0, 0, 0) := by decide +kernel
theorem r_L_law_944 : mv_in k_L_law 944 = some (.i2l, 945, 0, 0, 0) := by decide +kernel
theorem r_L_law_945 : mv_in k_L_law 945 = some (.lcmp, 946, 0, 0, 0) := by decide +kernel
theorem r_L_law_946 : mv_in k_L_law 946 = some (.ifCond .eq 5, 949, 951, 0, 0) := by decide +kernel
theorem r_L_law_949 : mv_in k_L_law 949 = some (.iconst 0, 950, 0, 0, 0) := by decide +kernel
theorem r_L_law_950 : mv_in k_L_law 950 = some (.ireturn, 951, 1, 0, 0) := by decide +kernel
theorem r_L_law_951 : mv_in k_L_law 951 = some (.goto 1595, 954, 2546, 0, 0) := by decide +kernel
theorem r_L_law_954 : mv_in k_L_law 954 = some (.aload_n 1, 955, 0, 0, 0) := by decide +kernel
theorem r_L_law_955 : mv_in k_L_law 955 = some (.aload_n 0, 956, 0, 0, 0) := by decide +kernel
theorem r_L_law_956 : mv_in k_L_law 956 = some (.iload 5, 958, 0, 0, 0) := by decide +kernel
theorem r_L_law_958 : mv_in k_L_law 958 = some (.iconst 1, 959, 0, 0, 0) := by decide +kernel
theorem r_L_law_959 : mv_in k_L_law 959 = some (.iadd, 960, 0, 0, 0) := by decide +kernel
theorem r_L_law_960 : mv_in k_L_law 960 = some (.iaload, 961, 0, 0, 0) := by decide +kernel
theorem r_L_law_961 : mv_in k_L_law 961 = some (.aload_n 3, 962, 0, 0, 0) := by decide +kernel
theorem r_L_law_962 : mv_in k_L_law 962 = some (.invokestatic 194, 965, k_L_opening, 3, 892) := by decide +kernel
theorem r_L_law_965 : mv_in k_L_law 965 = some (.istore 6, 967, 0, 0, 0) := by decide +kernel
theorem r_L_law_967 : mv_in k_L_law 967 = some (.aload_n 2, 968, 0, 0, 0) := by decide +kernel
theorem r_L_law_968 : mv_in k_L_law 968 = some (.aload_n 0, 969, 0, 0, 0) := by decide +kernel
theorem r_L_law_969 : mv_in k_L_law 969 = some (.iload 5, 971, 0, 0, 0) := by decide +kernel
theorem r_L_law_971 : mv_in k_L_law 971 = some (.iconst 1, 972, 0, 0, 0) := by decide +kernel
theorem r_L_law_972 : mv_in k_L_law 972 = some (.iadd, 973, 0, 0, 0) := by decide +kernel
theorem r_L_law_973 : mv_in k_L_law 973 = some (.iaload, 974, 0, 0, 0) := by decide +kernel
theorem r_L_law_974 : mv_in k_L_law 974 = some (.invokevirtual 196, 977, k_X11_opening, 2, 1462) := by decide +kernel
theorem r_L_law_977 : mv_in k_L_law 977 = some (.istore 7, 979, 0, 0, 0) := by decide +kernel
theorem r_L_law_979 : mv_in k_L_law 979 = some (.aload_n 2, 980, 0, 0, 0) := by decide +kernel
theorem r_L_law_980 : mv_in k_L_law 980 = some (.invokevirtual 151, 983, k_X11_thrown, 1, 1315) := by decide +kernel
theorem r_L_law_983 : mv_in k_L_law 983 = some (.iload 6, 985, 0, 0, 0) := by decide +kernel
theorem r_L_law_985 : mv_in k_L_law 985 = some (.if_icmp .eq 5, 988, 990, 0, 0) := by decide +kernel
theorem r_L_law_988 : mv_in k_L_law 988 = some (.iconst 0, 989, 0, 0, 0) := by decide +kernel
theorem r_L_law_989 : mv_in k_L_law 989 = some (.ireturn, 990, 1, 0, 0) := by decide +kernel
theorem r_L_law_990 : mv_in k_L_law 990 = some (.iload 6, 992, 0, 0, 0) := by decide +kernel
theorem r_L_law_992 : mv_in k_L_law 992 = some (.ifCond .ne 15, 995, 1007, 0, 0) := by decide +kernel
theorem r_L_law_995 : mv_in k_L_law 995 = some (.aload_n 3, 996, 0, 0, 0) := by decide +kernel
theorem r_L_law_996 : mv_in k_L_law 996 = some (.iconst 0, 997, 0, 0, 0) := by decide +kernel
theorem r_L_law_997 : mv_in k_L_law 997 = some (.laload, 998, 0, 0, 0) := by decide +kernel
theorem r_L_law_998 : mv_in k_L_law 998 = some (.iload 7, 1000, 0, 0, 0) := by decide +kernel
theorem r_L_law_1000 : mv_in k_L_law 1000 = some (.i2l, 1001, 0, 0, 0) := by decide +kernel
theorem r_L_law_1001 : mv_in k_L_law 1001 = some (.lcmp, 1002, 0, 0, 0) := by decide +kernel
theorem r_L_law_1002 : mv_in k_L_law 1002 = some (.ifCond .eq 5, 1005, 1007, 0, 0) := by decide +kernel
theorem r_L_law_1005 : mv_in k_L_law 1005 = some (.iconst 0, 1006, 0, 0, 0) := by decide +kernel
theorem r_L_law_1006 : mv_in k_L_law 1006 = some (.ireturn, 1007, 1, 0, 0) := by decide +kernel
theorem r_L_law_1007 : mv_in k_L_law 1007 = some (.goto 1539, 1010, 2546, 0, 0) := by decide +kernel
theorem r_L_law_1010 : mv_in k_L_law 1010 = some (.aload_n 1, 1011, 0, 0, 0) := by decide +kernel
theorem r_L_law_1011 : mv_in k_L_law 1011 = some (.aload_n 0, 1012, 0, 0, 0) := by decide +kernel
theorem r_L_law_1012 : mv_in k_L_law 1012 = some (.iload 5, 1014, 0, 0, 0) := by decide +kernel
theorem r_L_law_1014 : mv_in k_L_law 1014 = some (.iconst 1, 1015, 0, 0, 0) := by decide +kernel
theorem r_L_law_1015 : mv_in k_L_law 1015 = some (.iadd, 1016, 0, 0, 0) := by decide +kernel
theorem r_L_law_1016 : mv_in k_L_law 1016 = some (.iaload, 1017, 0, 0, 0) := by decide +kernel
theorem r_L_law_1017 : mv_in k_L_law 1017 = some (.aload_n 3, 1018, 0, 0, 0) := by decide +kernel
theorem r_L_law_1018 : mv_in k_L_law 1018 = some (.invokestatic 197, 1021, k_L_isAutomatic, 3, 899) := by decide +kernel
theorem r_L_law_1021 : mv_in k_L_law 1021 = some (.istore 6, 1023, 0, 0, 0) := by decide +kernel
theorem r_L_law_1023 : mv_in k_L_law 1023 = some (.aload_n 2, 1024, 0, 0, 0) := by decide +kernel
theorem r_L_law_1024 : mv_in k_L_law 1024 = some (.aload_n 0, 1025, 0, 0, 0) := by decide +kernel
theorem r_L_law_1025 : mv_in k_L_law 1025 = some (.iload 5, 1027, 0, 0, 0) := by decide +kernel
theorem r_L_law_1027 : mv_in k_L_law 1027 = some (.iconst 1, 1028, 0, 0, 0) := by decide +kernel
theorem r_L_law_1028 : mv_in k_L_law 1028 = some (.iadd, 1029, 0, 0, 0) := by decide +kernel
theorem r_L_law_1029 : mv_in k_L_law 1029 = some (.iaload, 1030, 0, 0, 0) := by decide +kernel
theorem r_L_law_1030 : mv_in k_L_law 1030 = some (.invokevirtual 199, 1033, k_X11_isAutomatic, 2, 1466) := by decide +kernel
theorem r_L_law_1033 : mv_in k_L_law 1033 = some (.istore 7, 1035, 0, 0, 0) := by decide +kernel
theorem r_L_law_1035 : mv_in k_L_law 1035 = some (.aload_n 2, 1036, 0, 0, 0) := by decide +kernel
theorem r_L_law_1036 : mv_in k_L_law 1036 = some (.invokevirtual 151, 1039, k_X11_thrown, 1, 1315) := by decide +kernel
theorem r_L_law_1039 : mv_in k_L_law 1039 = some (.iload 6, 1041, 0, 0, 0) := by decide +kernel
theorem r_L_law_1041 : mv_in k_L_law 1041 = some (.if_icmp .eq 5, 1044, 1046, 0, 0) := by decide +kernel
theorem r_L_law_1044 : mv_in k_L_law 1044 = some (.iconst 0, 1045, 0, 0, 0) := by decide +kernel
theorem r_L_law_1045 : mv_in k_L_law 1045 = some (.ireturn, 1046, 1, 0, 0) := by decide +kernel
theorem r_L_law_1046 : mv_in k_L_law 1046 = some (.iload 6, 1048, 0, 0, 0) := by decide +kernel
theorem r_L_law_1048 : mv_in k_L_law 1048 = some (.ifCond .ne 22, 1051, 1070, 0, 0) := by decide +kernel
theorem r_L_law_1051 : mv_in k_L_law 1051 = some (.aload_n 3, 1052, 0, 0, 0) := by decide +kernel
theorem r_L_law_1052 : mv_in k_L_law 1052 = some (.iconst 0, 1053, 0, 0, 0) := by decide +kernel
theorem r_L_law_1053 : mv_in k_L_law 1053 = some (.laload, 1054, 0, 0, 0) := by decide +kernel
theorem r_L_law_1054 : mv_in k_L_law 1054 = some (.iload 7, 1056, 0, 0, 0) := by decide +kernel
theorem r_L_law_1056 : mv_in k_L_law 1056 = some (.ifCond .eq 7, 1059, 1063, 0, 0) := by decide +kernel
theorem r_L_law_1059 : mv_in k_L_law 1059 = some (.lconst 1, 1060, 0, 0, 0) := by decide +kernel
theorem r_L_law_1060 : mv_in k_L_law 1060 = some (.goto 4, 1063, 1064, 0, 0) := by decide +kernel
theorem r_L_law_1063 : mv_in k_L_law 1063 = some (.lconst 0, 1064, 0, 0, 0) := by decide +kernel
theorem r_L_law_1064 : mv_in k_L_law 1064 = some (.lcmp, 1065, 0, 0, 0) := by decide +kernel
theorem r_L_law_1065 : mv_in k_L_law 1065 = some (.ifCond .eq 5, 1068, 1070, 0, 0) := by decide +kernel
theorem r_L_law_1068 : mv_in k_L_law 1068 = some (.iconst 0, 1069, 0, 0, 0) := by decide +kernel
theorem r_L_law_1069 : mv_in k_L_law 1069 = some (.ireturn, 1070, 1, 0, 0) := by decide +kernel
theorem r_L_law_1070 : mv_in k_L_law 1070 = some (.goto 1476, 1073, 2546, 0, 0) := by decide +kernel
theorem r_L_law_1073 : mv_in k_L_law 1073 = some (.aload_n 1, 1074, 0, 0, 0) := by decide +kernel
theorem r_L_law_1074 : mv_in k_L_law 1074 = some (.aload_n 0, 1075, 0, 0, 0) := by decide +kernel
theorem r_L_law_1075 : mv_in k_L_law 1075 = some (.iload 5, 1077, 0, 0, 0) := by decide +kernel
theorem r_L_law_1077 : mv_in k_L_law 1077 = some (.iconst 1, 1078, 0, 0, 0) := by decide +kernel
theorem r_L_law_1078 : mv_in k_L_law 1078 = some (.iadd, 1079, 0, 0, 0) := by decide +kernel
theorem r_L_law_1079 : mv_in k_L_law 1079 = some (.iaload, 1080, 0, 0, 0) := by decide +kernel
theorem r_L_law_1080 : mv_in k_L_law 1080 = some (.aload_n 3, 1081, 0, 0, 0) := by decide +kernel
theorem r_L_law_1081 : mv_in k_L_law 1081 = some (.invokestatic 200, 1084, k_L_threshold, 3, 906) := by decide +kernel
theorem r_L_law_1084 : mv_in k_L_law 1084 = some (.istore 6, 1086, 0, 0, 0) := by decide +kernel
theorem r_L_law_1086 : mv_in k_L_law 1086 = some (.aload_n 2, 1087, 0, 0, 0) := by decide +kernel
theorem r_L_law_1087 : mv_in k_L_law 1087 = some (.aload_n 0, 1088, 0, 0, 0) := by decide +kernel
theorem r_L_law_1088 : mv_in k_L_law 1088 = some (.iload 5, 1090, 0, 0, 0) := by decide +kernel
theorem r_L_law_1090 : mv_in k_L_law 1090 = some (.iconst 1, 1091, 0, 0, 0) := by decide +kernel
theorem r_L_law_1091 : mv_in k_L_law 1091 = some (.iadd, 1092, 0, 0, 0) := by decide +kernel
theorem r_L_law_1092 : mv_in k_L_law 1092 = some (.iaload, 1093, 0, 0, 0) := by decide +kernel
theorem r_L_law_1093 : mv_in k_L_law 1093 = some (.invokevirtual 202, 1096, k_X11_threshold, 2, 1470) := by decide +kernel
theorem r_L_law_1096 : mv_in k_L_law 1096 = some (.istore 7, 1098, 0, 0, 0) := by decide +kernel
theorem r_L_law_1098 : mv_in k_L_law 1098 = some (.aload_n 2, 1099, 0, 0, 0) := by decide +kernel
theorem r_L_law_1099 : mv_in k_L_law 1099 = some (.invokevirtual 151, 1102, k_X11_thrown, 1, 1315) := by decide +kernel
theorem r_L_law_1102 : mv_in k_L_law 1102 = some (.iload 6, 1104, 0, 0, 0) := by decide +kernel
theorem r_L_law_1104 : mv_in k_L_law 1104 = some (.if_icmp .eq 5, 1107, 1109, 0, 0) := by decide +kernel
theorem r_L_law_1107 : mv_in k_L_law 1107 = some (.iconst 0, 1108, 0, 0, 0) := by decide +kernel
theorem r_L_law_1108 : mv_in k_L_law 1108 = some (.ireturn, 1109, 1, 0, 0) := by decide +kernel
theorem r_L_law_1109 : mv_in k_L_law 1109 = some (.iload 6, 1111, 0, 0, 0) := by decide +kernel
theorem r_L_law_1111 : mv_in k_L_law 1111 = some (.ifCond .ne 15, 1114, 1126, 0, 0) := by decide +kernel
theorem r_L_law_1114 : mv_in k_L_law 1114 = some (.aload_n 3, 1115, 0, 0, 0) := by decide +kernel
theorem r_L_law_1115 : mv_in k_L_law 1115 = some (.iconst 0, 1116, 0, 0, 0) := by decide +kernel
theorem r_L_law_1116 : mv_in k_L_law 1116 = some (.laload, 1117, 0, 0, 0) := by decide +kernel
theorem r_L_law_1117 : mv_in k_L_law 1117 = some (.iload 7, 1119, 0, 0, 0) := by decide +kernel
theorem r_L_law_1119 : mv_in k_L_law 1119 = some (.i2l, 1120, 0, 0, 0) := by decide +kernel
theorem r_L_law_1120 : mv_in k_L_law 1120 = some (.lcmp, 1121, 0, 0, 0) := by decide +kernel
theorem r_L_law_1121 : mv_in k_L_law 1121 = some (.ifCond .eq 5, 1124, 1126, 0, 0) := by decide +kernel
theorem r_L_law_1124 : mv_in k_L_law 1124 = some (.iconst 0, 1125, 0, 0, 0) := by decide +kernel
theorem r_L_law_1125 : mv_in k_L_law 1125 = some (.ireturn, 1126, 1, 0, 0) := by decide +kernel
theorem r_L_law_1126 : mv_in k_L_law 1126 = some (.goto 1420, 1129, 2546, 0, 0) := by decide +kernel
theorem r_L_law_1129 : mv_in k_L_law 1129 = some (.aload_n 1, 1130, 0, 0, 0) := by decide +kernel
theorem r_L_law_1130 : mv_in k_L_law 1130 = some (.aload_n 0, 1131, 0, 0, 0) := by decide +kernel
theorem r_L_law_1131 : mv_in k_L_law 1131 = some (.iload 5, 1133, 0, 0, 0) := by decide +kernel
theorem r_L_law_1133 : mv_in k_L_law 1133 = some (.iconst 1, 1134, 0, 0, 0) := by decide +kernel
theorem r_L_law_1134 : mv_in k_L_law 1134 = some (.iadd, 1135, 0, 0, 0) := by decide +kernel
theorem r_L_law_1135 : mv_in k_L_law 1135 = some (.iaload, 1136, 0, 0, 0) := by decide +kernel
theorem r_L_law_1136 : mv_in k_L_law 1136 = some (.aload_n 3, 1137, 0, 0, 0) := by decide +kernel
theorem r_L_law_1137 : mv_in k_L_law 1137 = some (.invokestatic 203, 1140, k_L_spilled, 3, 930) := by decide +kernel
theorem r_L_law_1140 : mv_in k_L_law 1140 = some (.istore 6, 1142, 0, 0, 0) := by decide +kernel
theorem r_L_law_1142 : mv_in k_L_law 1142 = some (.aload_n 2, 1143, 0, 0, 0) := by decide +kernel
theorem r_L_law_1143 : mv_in k_L_law 1143 = some (.aload_n 0, 1144, 0, 0, 0) := by decide +kernel
theorem r_L_law_1144 : mv_in k_L_law 1144 = some (.iload 5, 1146, 0, 0, 0) := by decide +kernel
theorem r_L_law_1146 : mv_in k_L_law 1146 = some (.iconst 1, 1147, 0, 0, 0) := by decide +kernel
theorem r_L_law_1147 : mv_in k_L_law 1147 = some (.iadd, 1148, 0, 0, 0) := by decide +kernel
theorem r_L_law_1148 : mv_in k_L_law 1148 = some (.iaload, 1149, 0, 0, 0) := by decide +kernel
theorem r_L_law_1149 : mv_in k_L_law 1149 = some (.invokevirtual 205, 1152, k_X11_spilled, 2, 1474) := by decide +kernel
theorem r_L_law_1152 : mv_in k_L_law 1152 = some (.istore 7, 1154, 0, 0, 0) := by decide +kernel
theorem r_L_law_1154 : mv_in k_L_law 1154 = some (.aload_n 2, 1155, 0, 0, 0) := by decide +kernel
theorem r_L_law_1155 : mv_in k_L_law 1155 = some (.invokevirtual 151, 1158, k_X11_thrown, 1, 1315) := by decide +kernel
theorem r_L_law_1158 : mv_in k_L_law 1158 = some (.iload 6, 1160, 0, 0, 0) := by decide +kernel
theorem r_L_law_1160 : mv_in k_L_law 1160 = some (.if_icmp .eq 5, 1163, 1165, 0, 0) := by decide +kernel
theorem r_L_law_1163 : mv_in k_L_law 1163 = some (.iconst 0, 1164, 0, 0, 0) := by decide +kernel
theorem r_L_law_1164 : mv_in k_L_law 1164 = some (.ireturn, 1165, 1, 0, 0) := by decide +kernel
theorem r_L_law_1165 : mv_in k_L_law 1165 = some (.iload 6, 1167, 0, 0, 0) := by decide +kernel
theorem r_L_law_1167 : mv_in k_L_law 1167 = some (.ifCond .ne 15, 1170, 1182, 0, 0) := by decide +kernel
theorem r_L_law_1170 : mv_in k_L_law 1170 = some (.aload_n 3, 1171, 0, 0, 0) := by decide +kernel
theorem r_L_law_1171 : mv_in k_L_law 1171 = some (.iconst 0, 1172, 0, 0, 0) := by decide +kernel
theorem r_L_law_1172 : mv_in k_L_law 1172 = some (.laload, 1173, 0, 0, 0) := by decide +kernel
theorem r_L_law_1173 : mv_in k_L_law 1173 = some (.iload 7, 1175, 0, 0, 0) := by decide +kernel
theorem r_L_law_1175 : mv_in k_L_law 1175 = some (.i2l, 1176, 0, 0, 0) := by decide +kernel
theorem r_L_law_1176 : mv_in k_L_law 1176 = some (.lcmp, 1177, 0, 0, 0) := by decide +kernel
theorem r_L_law_1177 : mv_in k_L_law 1177 = some (.ifCond .eq 5, 1180, 1182, 0, 0) := by decide +kernel
theorem r_L_law_1180 : mv_in k_L_law 1180 = some (.iconst 0, 1181, 0, 0, 0) := by decide +kernel
theorem r_L_law_1181 : mv_in k_L_law 1181 = some (.ireturn, 1182, 1, 0, 0) := by decide +kernel
theorem r_L_law_1182 : mv_in k_L_law 1182 = some (.goto 1364, 1185, 2546, 0, 0) := by decide +kernel
theorem r_L_law_1185 : mv_in k_L_law 1185 = some (.aload_n 1, 1186, 0, 0, 0) := by decide +kernel
theorem r_L_law_1186 : mv_in k_L_law 1186 = some (.aload_n 0, 1187, 0, 0, 0) := by decide +kernel
theorem r_L_law_1187 : mv_in k_L_law 1187 = some (.iload 5, 1189, 0, 0, 0) := by decide +kernel
theorem r_L_law_1189 : mv_in k_L_law 1189 = some (.iconst 1, 1190, 0, 0, 0) := by decide +kernel
theorem r_L_law_1190 : mv_in k_L_law 1190 = some (.iadd, 1191, 0, 0, 0) := by decide +kernel
theorem r_L_law_1191 : mv_in k_L_law 1191 = some (.iaload, 1192, 0, 0, 0) := by decide +kernel
theorem r_L_law_1192 : mv_in k_L_law 1192 = some (.aload_n 3, 1193, 0, 0, 0) := by decide +kernel
theorem r_L_law_1193 : mv_in k_L_law 1193 = some (.invokestatic 206, 1196, k_L_floodedSteps, 3, 937) := by decide +kernel
theorem r_L_law_1196 : mv_in k_L_law 1196 = some (.istore 6, 1198, 0, 0, 0) := by decide +kernel
theorem r_L_law_1198 : mv_in k_L_law 1198 = some (.aload_n 2, 1199, 0, 0, 0) := by decide +kernel
theorem r_L_law_1199 : mv_in k_L_law 1199 = some (.aload_n 0, 1200, 0, 0, 0) := by decide +kernel
theorem r_L_law_1200 : mv_in k_L_law 1200 = some (.iload 5, 1202, 0, 0, 0) := by decide +kernel
theorem r_L_law_1202 : mv_in k_L_law 1202 = some (.iconst 1, 1203, 0, 0, 0) := by decide +kernel
theorem r_L_law_1203 : mv_in k_L_law 1203 = some (.iadd, 1204, 0, 0, 0) := by decide +kernel
theorem r_L_law_1204 : mv_in k_L_law 1204 = some (.iaload, 1205, 0, 0, 0) := by decide +kernel
theorem r_L_law_1205 : mv_in k_L_law 1205 = some (.invokevirtual 208, 1208, k_X11_floodedSteps, 2, 1478) := by decide +kernel
theorem r_L_law_1208 : mv_in k_L_law 1208 = some (.istore 7, 1210, 0, 0, 0) := by decide +kernel
theorem r_L_law_1210 : mv_in k_L_law 1210 = some (.aload_n 2, 1211, 0, 0, 0) := by decide +kernel
theorem r_L_law_1211 : mv_in k_L_law 1211 = some (.invokevirtual 151, 1214, k_X11_thrown, 1, 1315) := by decide +kernel
theorem r_L_law_1214 : mv_in k_L_law 1214 = some (.iload 6, 1216, 0, 0, 0) := by decide +kernel
theorem r_L_law_1216 : mv_in k_L_law 1216 = some (.if_icmp .eq 5, 1219, 1221, 0, 0) := by decide +kernel
theorem r_L_law_1219 : mv_in k_L_law 1219 = some (.iconst 0, 1220, 0, 0, 0) := by decide +kernel
theorem r_L_law_1220 : mv_in k_L_law 1220 = some (.ireturn, 1221, 1, 0, 0) := by decide +kernel
theorem r_L_law_1221 : mv_in k_L_law 1221 = some (.iload 6, 1223, 0, 0, 0) := by decide +kernel
theorem r_L_law_1223 : mv_in k_L_law 1223 = some (.ifCond .ne 15, 1226, 1238, 0, 0) := by decide +kernel
theorem r_L_law_1226 : mv_in k_L_law 1226 = some (.aload_n 3, 1227, 0, 0, 0) := by decide +kernel
theorem r_L_law_1227 : mv_in k_L_law 1227 = some (.iconst 0, 1228, 0, 0, 0) := by decide +kernel
theorem r_L_law_1228 : mv_in k_L_law 1228 = some (.laload, 1229, 0, 0, 0) := by decide +kernel
theorem r_L_law_1229 : mv_in k_L_law 1229 = some (.iload 7, 1231, 0, 0, 0) := by decide +kernel
theorem r_L_law_1231 : mv_in k_L_law 1231 = some (.i2l, 1232, 0, 0, 0) := by decide +kernel
theorem r_L_law_1232 : mv_in k_L_law 1232 = some (.lcmp, 1233, 0, 0, 0) := by decide +kernel
theorem r_L_law_1233 : mv_in k_L_law 1233 = some (.ifCond .eq 5, 1236, 1238, 0, 0) := by decide +kernel
theorem r_L_law_1236 : mv_in k_L_law 1236 = some (.iconst 0, 1237, 0, 0, 0) := by decide +kernel
theorem r_L_law_1237 : mv_in k_L_law 1237 = some (.ireturn, 1238, 1, 0, 0) := by decide +kernel
theorem r_L_law_1238 : mv_in k_L_law 1238 = some (.goto 1308, 1241, 2546, 0, 0) := by decide +kernel
theorem r_L_law_1241 : mv_in k_L_law 1241 = some (.aload_n 1, 1242, 0, 0, 0) := by decide +kernel
theorem r_L_law_1242 : mv_in k_L_law 1242 = some (.aload_n 0, 1243, 0, 0, 0) := by decide +kernel
theorem r_L_law_1243 : mv_in k_L_law 1243 = some (.iload 5, 1245, 0, 0, 0) := by decide +kernel
theorem r_L_law_1245 : mv_in k_L_law 1245 = some (.iconst 1, 1246, 0, 0, 0) := by decide +kernel
theorem r_L_law_1246 : mv_in k_L_law 1246 = some (.iadd, 1247, 0, 0, 0) := by decide +kernel
theorem r_L_law_1247 : mv_in k_L_law 1247 = some (.iaload, 1248, 0, 0, 0) := by decide +kernel
theorem r_L_law_1248 : mv_in k_L_law 1248 = some (.aload_n 3, 1249, 0, 0, 0) := by decide +kernel
theorem r_L_law_1249 : mv_in k_L_law 1249 = some (.invokestatic 209, 1252, k_L_basinAtRank, 3, 944) := by decide +kernel
theorem r_L_law_1252 : mv_in k_L_law 1252 = some (.istore 6, 1254, 0, 0, 0) := by decide +kernel
theorem r_L_law_1254 : mv_in k_L_law 1254 = some (.aload_n 2, 1255, 0, 0, 0) := by decide +kernel
theorem r_L_law_1255 : mv_in k_L_law 1255 = some (.aload_n 0, 1256, 0, 0, 0) := by decide +kernel
theorem r_L_law_1256 : mv_in k_L_law 1256 = some (.iload 5, 1258, 0, 0, 0) := by decide +kernel
theorem r_L_law_1258 : mv_in k_L_law 1258 = some (.iconst 1, 1259, 0, 0, 0) := by decide +kernel
theorem r_L_law_1259 : mv_in k_L_law 1259 = some (.iadd, 1260, 0, 0, 0) := by decide +kernel
theorem r_L_law_1260 : mv_in k_L_law 1260 = some (.iaload, 1261, 0, 0, 0) := by decide +kernel
theorem r_L_law_1261 : mv_in k_L_law 1261 = some (.invokevirtual 211, 1264, k_X11_basinAtRank, 2, 1482) := by decide +kernel
theorem r_L_law_1264 : mv_in k_L_law 1264 = some (.istore 7, 1266, 0, 0, 0) := by decide +kernel
theorem r_L_law_1266 : mv_in k_L_law 1266 = some (.aload_n 2, 1267, 0, 0, 0) := by decide +kernel
theorem r_L_law_1267 : mv_in k_L_law 1267 = some (.invokevirtual 151, 1270, k_X11_thrown, 1, 1315) := by decide +kernel
theorem r_L_law_1270 : mv_in k_L_law 1270 = some (.iload 6, 1272, 0, 0, 0) := by decide +kernel
theorem r_L_law_1272 : mv_in k_L_law 1272 = some (.if_icmp .eq 5, 1275, 1277, 0, 0) := by decide +kernel
theorem r_L_law_1275 : mv_in k_L_law 1275 = some (.iconst 0, 1276, 0, 0, 0) := by decide +kernel
theorem r_L_law_1276 : mv_in k_L_law 1276 = some (.ireturn, 1277, 1, 0, 0) := by decide +kernel
theorem r_L_law_1277 : mv_in k_L_law 1277 = some (.iload 6, 1279, 0, 0, 0) := by decide +kernel
theorem r_L_law_1279 : mv_in k_L_law 1279 = some (.ifCond .ne 15, 1282, 1294, 0, 0) := by decide +kernel
theorem r_L_law_1282 : mv_in k_L_law 1282 = some (.aload_n 3, 1283, 0, 0, 0) := by decide +kernel
theorem r_L_law_1283 : mv_in k_L_law 1283 = some (.iconst 0, 1284, 0, 0, 0) := by decide +kernel
theorem r_L_law_1284 : mv_in k_L_law 1284 = some (.laload, 1285, 0, 0, 0) := by decide +kernel
theorem r_L_law_1285 : mv_in k_L_law 1285 = some (.iload 7, 1287, 0, 0, 0) := by decide +kernel
theorem r_L_law_1287 : mv_in k_L_law 1287 = some (.i2l, 1288, 0, 0, 0) := by decide +kernel
theorem r_L_law_1288 : mv_in k_L_law 1288 = some (.lcmp, 1289, 0, 0, 0) := by decide +kernel
theorem r_L_law_1289 : mv_in k_L_law 1289 = some (.ifCond .eq 5, 1292, 1294, 0, 0) := by decide +kernel
theorem r_L_law_1292 : mv_in k_L_law 1292 = some (.iconst 0, 1293, 0, 0, 0) := by decide +kernel
theorem r_L_law_1293 : mv_in k_L_law 1293 = some (.ireturn, 1294, 1, 0, 0) := by decide +kernel
theorem r_L_law_1294 : mv_in k_L_law 1294 = some (.goto 1252, 1297, 2546, 0, 0) := by decide +kernel
theorem r_L_law_1297 : mv_in k_L_law 1297 = some (.aload_n 1, 1298, 0, 0, 0) := by decide +kernel
theorem r_L_law_1298 : mv_in k_L_law 1298 = some (.invokevirtual 212, 1301, k_X10_time, 1, 637) := by decide +kernel
theorem r_L_law_1301 : mv_in k_L_law 1301 = some (.aload_n 2, 1302, 0, 0, 0) := by decide +kernel
theorem r_L_law_1302 : mv_in k_L_law 1302 = some (.invokevirtual 215, 1305, k_X11_time, 1, 1490) := by decide +kernel
theorem r_L_law_1305 : mv_in k_L_law 1305 = some (.if_icmp .eq 1241, 1308, 2546, 0, 0) := by decide +kernel
theorem r_L_law_1308 : mv_in k_L_law 1308 = some (.iconst 0, 1309, 0, 0, 0) := by decide +kernel
theorem r_L_law_1309 : mv_in k_L_law 1309 = some (.ireturn, 1310, 1, 0, 0) := by decide +kernel
theorem r_L_law_1310 : mv_in k_L_law 1310 = some (.aload_n 1, 1311, 0, 0, 0) := by decide +kernel
theorem r_L_law_1311 : mv_in k_L_law 1311 = some (.invokevirtual 216, 1314, k_X10_forecastLength, 1, 641) := by decide +kernel
theorem r_L_law_1314 : mv_in k_L_law 1314 = some (.aload_n 2, 1315, 0, 0, 0) := by decide +kernel
theorem r_L_law_1315 : mv_in k_L_law 1315 = some (.invokevirtual 219, 1318, k_X11_forecastLength, 1, 1494) := by decide +kernel
theorem r_L_law_1318 : mv_in k_L_law 1318 = some (.if_icmp .eq 1228, 1321, 2546, 0, 0) := by decide +kernel
theorem r_L_law_1321 : mv_in k_L_law 1321 = some (.iconst 0, 1322, 0, 0, 0) := by decide +kernel
theorem r_L_law_1322 : mv_in k_L_law 1322 = some (.ireturn, 1323, 1, 0, 0) := by decide +kernel
theorem r_L_law_1323 : mv_in k_L_law 1323 = some (.aload_n 1, 1324, 0, 0, 0) := by decide +kernel
theorem r_L_law_1324 : mv_in k_L_law 1324 = some (.aload_n 0, 1325, 0, 0, 0) := by decide +kernel
theorem r_L_law_1325 : mv_in k_L_law 1325 = some (.iload 5, 1327, 0, 0, 0) := by decide +kernel
theorem r_L_law_1327 : mv_in k_L_law 1327 = some (.iconst 1, 1328, 0, 0, 0) := by decide +kernel
theorem r_L_law_1328 : mv_in k_L_law 1328 = some (.iadd, 1329, 0, 0, 0) := by decide +kernel
theorem r_L_law_1329 : mv_in k_L_law 1329 = some (.iaload, 1330, 0, 0, 0) := by decide +kernel
theorem r_L_law_1330 : mv_in k_L_law 1330 = some (.aload_n 3, 1331, 0, 0, 0) := by decide +kernel
theorem r_L_law_1331 : mv_in k_L_law 1331 = some (.invokestatic 220, 1334, k_L_rainAt, 3, 960) := by decide +kernel
theorem r_L_law_1334 : mv_in k_L_law 1334 = some (.istore 6, 1336, 0, 0, 0) := by decide +kernel
theorem r_L_law_1336 : mv_in k_L_law 1336 = some (.aload_n 2, 1337, 0, 0, 0) := by decide +kernel
theorem r_L_law_1337 : mv_in k_L_law 1337 = some (.aload_n 0, 1338, 0, 0, 0) := by decide +kernel
theorem r_L_law_1338 : mv_in k_L_law 1338 = some (.iload 5, 1340, 0, 0, 0) := by decide +kernel
theorem r_L_law_1340 : mv_in k_L_law 1340 = some (.iconst 1, 1341, 0, 0, 0) := by decide +kernel
theorem r_L_law_1341 : mv_in k_L_law 1341 = some (.iadd, 1342, 0, 0, 0) := by decide +kernel
theorem r_L_law_1342 : mv_in k_L_law 1342 = some (.iaload, 1343, 0, 0, 0) := by decide +kernel
theorem r_L_law_1343 : mv_in k_L_law 1343 = some (.invokevirtual 222, 1346, k_X11_rainAt, 2, 1498) := by decide +kernel
theorem r_L_law_1346 : mv_in k_L_law 1346 = some (.istore 7, 1348, 0, 0, 0) := by decide +kernel
theorem r_L_law_1348 : mv_in k_L_law 1348 = some (.aload_n 2, 1349, 0, 0, 0) := by decide +kernel
theorem r_L_law_1349 : mv_in k_L_law 1349 = some (.invokevirtual 151, 1352, k_X11_thrown, 1, 1315) := by decide +kernel
theorem r_L_law_1352 : mv_in k_L_law 1352 = some (.iload 6, 1354, 0, 0, 0) := by decide +kernel
theorem r_L_law_1354 : mv_in k_L_law 1354 = some (.if_icmp .eq 5, 1357, 1359, 0, 0) := by decide +kernel
theorem r_L_law_1357 : mv_in k_L_law 1357 = some (.iconst 0, 1358, 0, 0, 0) := by decide +kernel
theorem r_L_law_1358 : mv_in k_L_law 1358 = some (.ireturn, 1359, 1, 0, 0) := by decide +kernel
theorem r_L_law_1359 : mv_in k_L_law 1359 = some (.iload 6, 1361, 0, 0, 0) := by decide +kernel
theorem r_L_law_1361 : mv_in k_L_law 1361 = some (.ifCond .ne 15, 1364, 1376, 0, 0) := by decide +kernel
theorem r_L_law_1364 : mv_in k_L_law 1364 = some (.aload_n 3, 1365, 0, 0, 0) := by decide +kernel
theorem r_L_law_1365 : mv_in k_L_law 1365 = some (.iconst 0, 1366, 0, 0, 0) := by decide +kernel
theorem r_L_law_1366 : mv_in k_L_law 1366 = some (.laload, 1367, 0, 0, 0) := by decide +kernel
theorem r_L_law_1367 : mv_in k_L_law 1367 = some (.iload 7, 1369, 0, 0, 0) := by decide +kernel
theorem r_L_law_1369 : mv_in k_L_law 1369 = some (.i2l, 1370, 0, 0, 0) := by decide +kernel
theorem r_L_law_1370 : mv_in k_L_law 1370 = some (.lcmp, 1371, 0, 0, 0) := by decide +kernel
theorem r_L_law_1371 : mv_in k_L_law 1371 = some (.ifCond .eq 5, 1374, 1376, 0, 0) := by decide +kernel
theorem r_L_law_1374 : mv_in k_L_law 1374 = some (.iconst 0, 1375, 0, 0, 0) := by decide +kernel
theorem r_L_law_1375 : mv_in k_L_law 1375 = some (.ireturn, 1376, 1, 0, 0) := by decide +kernel
theorem r_L_law_1376 : mv_in k_L_law 1376 = some (.goto 1170, 1379, 2546, 0, 0) := by decide +kernel
theorem r_L_law_1379 : mv_in k_L_law 1379 = some (.aload_n 1, 1380, 0, 0, 0) := by decide +kernel
theorem r_L_law_1380 : mv_in k_L_law 1380 = some (.invokevirtual 223, 1383, k_X10_stored, 1, 645) := by decide +kernel
theorem r_L_law_1383 : mv_in k_L_law 1383 = some (.aload_n 2, 1384, 0, 0, 0) := by decide +kernel
theorem r_L_law_1384 : mv_in k_L_law 1384 = some (.invokevirtual 226, 1387, k_X11_stored, 1, 1502) := by decide +kernel
theorem r_L_law_1387 : mv_in k_L_law 1387 = some (.if_icmp .eq 1159, 1390, 2546, 0, 0) := by decide +kernel
theorem r_L_law_1390 : mv_in k_L_law 1390 = some (.iconst 0, 1391, 0, 0, 0) := by decide +kernel
theorem r_L_law_1391 : mv_in k_L_law 1391 = some (.ireturn, 1392, 1, 0, 0) := by decide +kernel
theorem r_L_law_1392 : mv_in k_L_law 1392 = some (.aload_n 1, 1393, 0, 0, 0) := by decide +kernel
theorem r_L_law_1393 : mv_in k_L_law 1393 = some (.invokevirtual 227, 1396, k_X10_storedByAccounts, 1, 653) := by decide +kernel
theorem r_L_law_1396 : mv_in k_L_law 1396 = some (.aload_n 2, 1397, 0, 0, 0) := by decide +kernel
theorem r_L_law_1397 : mv_in k_L_law 1397 = some (.invokevirtual 230, 1400, k_X11_storedByAccounts, 1, 1510) := by decide +kernel
theorem r_L_law_1400 : mv_in k_L_law 1400 = some (.if_icmp .eq 1146, 1403, 2546, 0, 0) := by decide +kernel
theorem r_L_law_1403 : mv_in k_L_law 1403 = some (.iconst 0, 1404, 0, 0, 0) := by decide +kernel
theorem r_L_law_1404 : mv_in k_L_law 1404 = some (.ireturn, 1405, 1, 0, 0) := by decide +kernel
theorem r_L_law_1405 : mv_in k_L_law 1405 = some (.aload_n 1, 1406, 0, 0, 0) := by decide +kernel
theorem r_L_law_1406 : mv_in k_L_law 1406 = some (.invokevirtual 231, 1409, k_X10_riverTotal, 1, 661) := by decide +kernel
theorem r_L_law_1409 : mv_in k_L_law 1409 = some (.aload_n 2, 1410, 0, 0, 0) := by decide +kernel
theorem r_L_law_1410 : mv_in k_L_law 1410 = some (.invokevirtual 235, 1413, k_X11_riverTotal, 1, 1515) := by decide +kernel
theorem r_L_law_1413 : mv_in k_L_law 1413 = some (.lcmp, 1414, 0, 0, 0) := by decide +kernel
theorem r_L_law_1414 : mv_in k_L_law 1414 = some (.ifCond .eq 1132, 1417, 2546, 0, 0) := by decide +kernel
theorem r_L_law_1417 : mv_in k_L_law 1417 = some (.iconst 0, 1418, 0, 0, 0) := by decide +kernel
theorem r_L_law_1418 : mv_in k_L_law 1418 = some (.ireturn, 1419, 1, 0, 0) := by decide +kernel
theorem r_L_law_1419 : mv_in k_L_law 1419 = some (.aload_n 1, 1420, 0, 0, 0) := by decide +kernel
theorem r_L_law_1420 : mv_in k_L_law 1420 = some (.aload 4, 1422, 0, 0, 0) := by decide +kernel
theorem r_L_law_1422 : mv_in k_L_law 1422 = some (.invokestatic 236, 1425, k_L_meanFill, 2, 968) := by decide +kernel
theorem r_L_law_1425 : mv_in k_L_law 1425 = some (.istore 6, 1427, 0, 0, 0) := by decide +kernel
theorem r_L_law_1427 : mv_in k_L_law 1427 = some (.aload_n 2, 1428, 0, 0, 0) := by decide +kernel
theorem r_L_law_1428 : mv_in k_L_law 1428 = some (.invokevirtual 239, 1431, k_X11_meanFill, 1, 1519) := by decide +kernel
theorem r_L_law_1431 : mv_in k_L_law 1431 = some (.dstore 7, 1433, 0, 0, 0) := by decide +kernel
theorem r_L_law_1433 : mv_in k_L_law 1433 = some (.aload_n 2, 1434, 0, 0, 0) := by decide +kernel
theorem r_L_law_1434 : mv_in k_L_law 1434 = some (.invokevirtual 151, 1437, k_X11_thrown, 1, 1315) := by decide +kernel
theorem r_L_law_1437 : mv_in k_L_law 1437 = some (.iload 6, 1439, 0, 0, 0) := by decide +kernel
theorem r_L_law_1439 : mv_in k_L_law 1439 = some (.if_icmp .eq 5, 1442, 1444, 0, 0) := by decide +kernel
theorem r_L_law_1442 : mv_in k_L_law 1442 = some (.iconst 0, 1443, 0, 0, 0) := by decide +kernel
theorem r_L_law_1443 : mv_in k_L_law 1443 = some (.ireturn, 1444, 1, 0, 0) := by decide +kernel
theorem r_L_law_1444 : mv_in k_L_law 1444 = some (.iload 6, 1446, 0, 0, 0) := by decide +kernel
theorem r_L_law_1446 : mv_in k_L_law 1446 = some (.ifCond .ne 35, 1449, 1481, 0, 0) := by decide +kernel
theorem r_L_law_1449 : mv_in k_L_law 1449 = some (.aload 4, 1451, 0, 0, 0) := by decide +kernel
theorem r_L_law_1451 : mv_in k_L_law 1451 = some (.iconst 0, 1452, 0, 0, 0) := by decide +kernel
theorem r_L_law_1452 : mv_in k_L_law 1452 = some (.daload, 1453, 0, 0, 0) := by decide +kernel
theorem r_L_law_1453 : mv_in k_L_law 1453 = some (.dload 7, 1455, 0, 0, 0) := by decide +kernel
theorem r_L_law_1455 : mv_in k_L_law 1455 = some (.dcmp .l, 1456, 0, 0, 0) := by decide +kernel
theorem r_L_law_1456 : mv_in k_L_law 1456 = some (.ifCond .eq 25, 1459, 1481, 0, 0) := by decide +kernel
theorem r_L_law_1459 : mv_in k_L_law 1459 = some (.aload 4, 1461, 0, 0, 0) := by decide +kernel
theorem r_L_law_1461 : mv_in k_L_law 1461 = some (.iconst 0, 1462, 0, 0, 0) := by decide +kernel
theorem r_L_law_1462 : mv_in k_L_law 1462 = some (.daload, 1463, 0, 0, 0) := by decide +kernel
theorem r_L_law_1463 : mv_in k_L_law 1463 = some (.aload 4, 1465, 0, 0, 0) := by decide +kernel
theorem r_L_law_1465 : mv_in k_L_law 1465 = some (.iconst 0, 1466, 0, 0, 0) := by decide +kernel
theorem r_L_law_1466 : mv_in k_L_law 1466 = some (.daload, 1467, 0, 0, 0) := by decide +kernel
theorem r_L_law_1467 : mv_in k_L_law 1467 = some (.dcmp .l, 1468, 0, 0, 0) := by decide +kernel
theorem r_L_law_1468 : mv_in k_L_law 1468 = some (.ifCond .eq 11, 1471, 1479, 0, 0) := by decide +kernel
theorem r_L_law_1471 : mv_in k_L_law 1471 = some (.dload 7, 1473, 0, 0, 0) := by decide +kernel
theorem r_L_law_1473 : mv_in k_L_law 1473 = some (.dload 7, 1475, 0, 0, 0) := by decide +kernel
theorem r_L_law_1475 : mv_in k_L_law 1475 = some (.dcmp .l, 1476, 0, 0, 0) := by decide +kernel
theorem r_L_law_1476 : mv_in k_L_law 1476 = some (.ifCond .ne 5, 1479, 1481, 0, 0) := by decide +kernel
theorem r_L_law_1479 : mv_in k_L_law 1479 = some (.iconst 0, 1480, 0, 0, 0) := by decide +kernel
theorem r_L_law_1480 : mv_in k_L_law 1480 = some (.ireturn, 1481, 1, 0, 0) := by decide +kernel
theorem r_L_law_1481 : mv_in k_L_law 1481 = some (.goto 1065, 1484, 2546, 0, 0) := by decide +kernel
theorem r_L_law_1484 : mv_in k_L_law 1484 = some (.aload_n 1, 1485, 0, 0, 0) := by decide +kernel
theorem r_L_law_1485 : mv_in k_L_law 1485 = some (.aload 4, 1487, 0, 0, 0) := by decide +kernel
theorem r_L_law_1487 : mv_in k_L_law 1487 = some (.invokestatic 240, 1490, k_L_floodShare, 2, 992) := by decide +kernel
theorem r_L_law_1490 : mv_in k_L_law 1490 = some (.istore 6, 1492, 0, 0, 0) := by decide +kernel
theorem r_L_law_1492 : mv_in k_L_law 1492 = some (.aload_n 2, 1493, 0, 0, 0) := by decide +kernel
theorem r_L_law_1493 : mv_in k_L_law 1493 = some (.invokevirtual 242, 1496, k_X11_floodShare, 1, 1523) := by decide +kernel
theorem r_L_law_1496 : mv_in k_L_law 1496 = some (.fstore 7, 1498, 0, 0, 0) := by decide +kernel
theorem r_L_law_1498 : mv_in k_L_law 1498 = some (.aload_n 2, 1499, 0, 0, 0) := by decide +kernel
theorem r_L_law_1499 : mv_in k_L_law 1499 = some (.invokevirtual 151, 1502, k_X11_thrown, 1, 1315) := by decide +kernel
theorem r_L_law_1502 : mv_in k_L_law 1502 = some (.iload 6, 1504, 0, 0, 0) := by decide +kernel
theorem r_L_law_1504 : mv_in k_L_law 1504 = some (.if_icmp .eq 5, 1507, 1509, 0, 0) := by decide +kernel
theorem r_L_law_1507 : mv_in k_L_law 1507 = some (.iconst 0, 1508, 0, 0, 0) := by decide +kernel
theorem r_L_law_1508 : mv_in k_L_law 1508 = some (.ireturn, 1509, 1, 0, 0) := by decide +kernel
theorem r_L_law_1509 : mv_in k_L_law 1509 = some (.iload 6, 1511, 0, 0, 0) := by decide +kernel
theorem r_L_law_1511 : mv_in k_L_law 1511 = some (.ifCond .ne 36, 1514, 1547, 0, 0) := by decide +kernel
theorem r_L_law_1514 : mv_in k_L_law 1514 = some (.aload 4, 1516, 0, 0, 0) := by decide +kernel
theorem r_L_law_1516 : mv_in k_L_law 1516 = some (.iconst 0, 1517, 0, 0, 0) := by decide +kernel
theorem r_L_law_1517 : mv_in k_L_law 1517 = some (.daload, 1518, 0, 0, 0) := by decide +kernel
theorem r_L_law_1518 : mv_in k_L_law 1518 = some (.fload 7, 1520, 0, 0, 0) := by decide +kernel
theorem r_L_law_1520 : mv_in k_L_law 1520 = some (.f2d, 1521, 0, 0, 0) := by decide +kernel
theorem r_L_law_1521 : mv_in k_L_law 1521 = some (.dcmp .l, 1522, 0, 0, 0) := by decide +kernel
theorem r_L_law_1522 : mv_in k_L_law 1522 = some (.ifCond .eq 25, 1525, 1547, 0, 0) := by decide +kernel
theorem r_L_law_1525 : mv_in k_L_law 1525 = some (.aload 4, 1527, 0, 0, 0) := by decide +kernel
theorem r_L_law_1527 : mv_in k_L_law 1527 = some (.iconst 0, 1528, 0, 0, 0) := by decide +kernel
theorem r_L_law_1528 : mv_in k_L_law 1528 = some (.daload, 1529, 0, 0, 0) := by decide +kernel
theorem r_L_law_1529 : mv_in k_L_law 1529 = some (.aload 4, 1531, 0, 0, 0) := by decide +kernel
theorem r_L_law_1531 : mv_in k_L_law 1531 = some (.iconst 0, 1532, 0, 0, 0) := by decide +kernel
theorem r_L_law_1532 : mv_in k_L_law 1532 = some (.daload, 1533, 0, 0, 0) := by decide +kernel
theorem r_L_law_1533 : mv_in k_L_law 1533 = some (.dcmp .l, 1534, 0, 0, 0) := by decide +kernel
theorem r_L_law_1534 : mv_in k_L_law 1534 = some (.ifCond .eq 11, 1537, 1545, 0, 0) := by decide +kernel
theorem r_L_law_1537 : mv_in k_L_law 1537 = some (.fload 7, 1539, 0, 0, 0) := by decide +kernel
theorem r_L_law_1539 : mv_in k_L_law 1539 = some (.fload 7, 1541, 0, 0, 0) := by decide +kernel
theorem r_L_law_1541 : mv_in k_L_law 1541 = some (.fcmp .l, 1542, 0, 0, 0) := by decide +kernel
theorem r_L_law_1542 : mv_in k_L_law 1542 = some (.ifCond .ne 5, 1545, 1547, 0, 0) := by decide +kernel
theorem r_L_law_1545 : mv_in k_L_law 1545 = some (.iconst 0, 1546, 0, 0, 0) := by decide +kernel
theorem r_L_law_1546 : mv_in k_L_law 1546 = some (.ireturn, 1547, 1, 0, 0) := by decide +kernel
theorem r_L_law_1547 : mv_in k_L_law 1547 = some (.goto 999, 1550, 2546, 0, 0) := by decide +kernel
theorem r_L_law_1550 : mv_in k_L_law 1550 = some (.aload_n 1, 1551, 0, 0, 0) := by decide +kernel
theorem r_L_law_1551 : mv_in k_L_law 1551 = some (.aload_n 0, 1552, 0, 0, 0) := by decide +kernel
theorem r_L_law_1552 : mv_in k_L_law 1552 = some (.iload 5, 1554, 0, 0, 0) := by decide +kernel
theorem r_L_law_1554 : mv_in k_L_law 1554 = some (.iconst 1, 1555, 0, 0, 0) := by decide +kernel
theorem r_L_law_1555 : mv_in k_L_law 1555 = some (.iadd, 1556, 0, 0, 0) := by decide +kernel
theorem r_L_law_1556 : mv_in k_L_law 1556 = some (.iaload, 1557, 0, 0, 0) := by decide +kernel
theorem r_L_law_1557 : mv_in k_L_law 1557 = some (.aload_n 0, 1558, 0, 0, 0) := by decide +kernel
theorem r_L_law_1558 : mv_in k_L_law 1558 = some (.iload 5, 1560, 0, 0, 0) := by decide +kernel
theorem r_L_law_1560 : mv_in k_L_law 1560 = some (.iconst 2, 1561, 0, 0, 0) := by decide +kernel
theorem r_L_law_1561 : mv_in k_L_law 1561 = some (.iadd, 1562, 0, 0, 0) := by decide +kernel
theorem r_L_law_1562 : mv_in k_L_law 1562 = some (.iaload, 1563, 0, 0, 0) := by decide +kernel
theorem r_L_law_1563 : mv_in k_L_law 1563 = some (.aload_n 3, 1564, 0, 0, 0) := by decide +kernel
theorem r_L_law_1564 : mv_in k_L_law 1564 = some (.invokestatic 243, 1567, k_L_levelAfter, 4, 1004) := by decide +kernel
theorem r_L_law_1567 : mv_in k_L_law 1567 = some (.istore 6, 1569, 0, 0, 0) := by decide +kernel
theorem r_L_law_1569 : mv_in k_L_law 1569 = some (.aload_n 2, 1570, 0, 0, 0) := by decide +kernel
theorem r_L_law_1570 : mv_in k_L_law 1570 = some (.aload_n 0, 1571, 0, 0, 0) := by decide +kernel
theorem r_L_law_1571 : mv_in k_L_law 1571 = some (.iload 5, 1573, 0, 0, 0) := by decide +kernel
theorem r_L_law_1573 : mv_in k_L_law 1573 = some (.iconst 1, 1574, 0, 0, 0) := by decide +kernel
theorem r_L_law_1574 : mv_in k_L_law 1574 = some (.iadd, 1575, 0, 0, 0) := by decide +kernel
theorem r_L_law_1575 : mv_in k_L_law 1575 = some (.iaload, 1576, 0, 0, 0) := by decide +kernel
theorem r_L_law_1576 : mv_in k_L_law 1576 = some (.aload_n 0, 1577, 0, 0, 0) := by decide +kernel
theorem r_L_law_1577 : mv_in k_L_law 1577 = some (.iload 5, 1579, 0, 0, 0) := by decide +kernel
theorem r_L_law_1579 : mv_in k_L_law 1579 = some (.iconst 2, 1580, 0, 0, 0) := by decide +kernel
theorem r_L_law_1580 : mv_in k_L_law 1580 = some (.iadd, 1581, 0, 0, 0) := by decide +kernel
theorem r_L_law_1581 : mv_in k_L_law 1581 = some (.iaload, 1582, 0, 0, 0) := by decide +kernel
theorem r_L_law_1582 : mv_in k_L_law 1582 = some (.invokevirtual 245, 1585, k_X11_levelAfter, 3, 1527) := by decide +kernel
theorem r_L_law_1585 : mv_in k_L_law 1585 = some (.istore 7, 1587, 0, 0, 0) := by decide +kernel
theorem r_L_law_1587 : mv_in k_L_law 1587 = some (.aload_n 2, 1588, 0, 0, 0) := by decide +kernel
theorem r_L_law_1588 : mv_in k_L_law 1588 = some (.invokevirtual 151, 1591, k_X11_thrown, 1, 1315) := by decide +kernel
theorem r_L_law_1591 : mv_in k_L_law 1591 = some (.iload 6, 1593, 0, 0, 0) := by decide +kernel
theorem r_L_law_1593 : mv_in k_L_law 1593 = some (.if_icmp .eq 5, 1596, 1598, 0, 0) := by decide +kernel
theorem r_L_law_1596 : mv_in k_L_law 1596 = some (.iconst 0, 1597, 0, 0, 0) := by decide +kernel
theorem r_L_law_1597 : mv_in k_L_law 1597 = some (.ireturn, 1598, 1, 0, 0) := by decide +kernel
theorem r_L_law_1598 : mv_in k_L_law 1598 = some (.iload 6, 1600, 0, 0, 0) := by decide +kernel
theorem r_L_law_1600 : mv_in k_L_law 1600 = some (.ifCond .ne 15, 1603, 1615, 0, 0) := by decide +kernel
theorem r_L_law_1603 : mv_in k_L_law 1603 = some (.aload_n 3, 1604, 0, 0, 0) := by decide +kernel
theorem r_L_law_1604 : mv_in k_L_law 1604 = some (.iconst 0, 1605, 0, 0, 0) := by decide +kernel
theorem r_L_law_1605 : mv_in k_L_law 1605 = some (.laload, 1606, 0, 0, 0) := by decide +kernel
theorem r_L_law_1606 : mv_in k_L_law 1606 = some (.iload 7, 1608, 0, 0, 0) := by decide +kernel
theorem r_L_law_1608 : mv_in k_L_law 1608 = some (.i2l, 1609, 0, 0, 0) := by decide +kernel
theorem r_L_law_1609 : mv_in k_L_law 1609 = some (.lcmp, 1610, 0, 0, 0) := by decide +kernel
theorem r_L_law_1610 : mv_in k_L_law 1610 = some (.ifCond .eq 5, 1613, 1615, 0, 0) := by decide +kernel
theorem r_L_law_1613 : mv_in k_L_law 1613 = some (.iconst 0, 1614, 0, 0, 0) := by decide +kernel
theorem r_L_law_1614 : mv_in k_L_law 1614 = some (.ireturn, 1615, 1, 0, 0) := by decide +kernel
theorem r_L_law_1615 : mv_in k_L_law 1615 = some (.goto 931, 1618, 2546, 0, 0) := by decide +kernel
theorem r_L_law_1618 : mv_in k_L_law 1618 = some (.aload_n 1, 1619, 0, 0, 0) := by decide +kernel
theorem r_L_law_1619 : mv_in k_L_law 1619 = some (.aload_n 0, 1620, 0, 0, 0) := by decide +kernel
theorem r_L_law_1620 : mv_in k_L_law 1620 = some (.iload 5, 1622, 0, 0, 0) := by decide +kernel
theorem r_L_law_1622 : mv_in k_L_law 1622 = some (.iconst 1, 1623, 0, 0, 0) := by decide +kernel
theorem r_L_law_1623 : mv_in k_L_law 1623 = some (.iadd, 1624, 0, 0, 0) := by decide +kernel
theorem r_L_law_1624 : mv_in k_L_law 1624 = some (.iaload, 1625, 0, 0, 0) := by decide +kernel
theorem r_L_law_1625 : mv_in k_L_law 1625 = some (.aload_n 0, 1626, 0, 0, 0) := by decide +kernel
theorem r_L_law_1626 : mv_in k_L_law 1626 = some (.iload 5, 1628, 0, 0, 0) := by decide +kernel
theorem r_L_law_1628 : mv_in k_L_law 1628 = some (.iconst 2, 1629, 0, 0, 0) := by decide +kernel
theorem r_L_law_1629 : mv_in k_L_law 1629 = some (.iadd, 1630, 0, 0, 0) := by decide +kernel
theorem r_L_law_1630 : mv_in k_L_law 1630 = some (.iaload, 1631, 0, 0, 0) := by decide +kernel
theorem r_L_law_1631 : mv_in k_L_law 1631 = some (.aload_n 3, 1632, 0, 0, 0) := by decide +kernel
theorem r_L_law_1632 : mv_in k_L_law 1632 = some (.invokestatic 246, 1635, k_L_spillOf, 4, 1015) := by decide +kernel
theorem r_L_law_1635 : mv_in k_L_law 1635 = some (.istore 6, 1637, 0, 0, 0) := by decide +kernel
theorem r_L_law_1637 : mv_in k_L_law 1637 = some (.aload_n 2, 1638, 0, 0, 0) := by decide +kernel
theorem r_L_law_1638 : mv_in k_L_law 1638 = some (.aload_n 0, 1639, 0, 0, 0) := by decide +kernel
theorem r_L_law_1639 : mv_in k_L_law 1639 = some (.iload 5, 1641, 0, 0, 0) := by decide +kernel
theorem r_L_law_1641 : mv_in k_L_law 1641 = some (.iconst 1, 1642, 0, 0, 0) := by decide +kernel
theorem r_L_law_1642 : mv_in k_L_law 1642 = some (.iadd, 1643, 0, 0, 0) := by decide +kernel
theorem r_L_law_1643 : mv_in k_L_law 1643 = some (.iaload, 1644, 0, 0, 0) := by decide +kernel
theorem r_L_law_1644 : mv_in k_L_law 1644 = some (.aload_n 0, 1645, 0, 0, 0) := by decide +kernel
theorem r_L_law_1645 : mv_in k_L_law 1645 = some (.iload 5, 1647, 0, 0, 0) := by decide +kernel
theorem r_L_law_1647 : mv_in k_L_law 1647 = some (.iconst 2, 1648, 0, 0, 0) := by decide +kernel
theorem r_L_law_1648 : mv_in k_L_law 1648 = some (.iadd, 1649, 0, 0, 0) := by decide +kernel
theorem r_L_law_1649 : mv_in k_L_law 1649 = some (.iaload, 1650, 0, 0, 0) := by decide +kernel
theorem r_L_law_1650 : mv_in k_L_law 1650 = some (.invokevirtual 248, 1653, k_X11_spillOf, 3, 1539) := by decide +kernel
theorem r_L_law_1653 : mv_in k_L_law 1653 = some (.istore 7, 1655, 0, 0, 0) := by decide +kernel
theorem r_L_law_1655 : mv_in k_L_law 1655 = some (.aload_n 2, 1656, 0, 0, 0) := by decide +kernel
theorem r_L_law_1656 : mv_in k_L_law 1656 = some (.invokevirtual 151, 1659, k_X11_thrown, 1, 1315) := by decide +kernel
theorem r_L_law_1659 : mv_in k_L_law 1659 = some (.iload 6, 1661, 0, 0, 0) := by decide +kernel
theorem r_L_law_1661 : mv_in k_L_law 1661 = some (.if_icmp .eq 5, 1664, 1666, 0, 0) := by decide +kernel
theorem r_L_law_1664 : mv_in k_L_law 1664 = some (.iconst 0, 1665, 0, 0, 0) := by decide +kernel
theorem r_L_law_1665 : mv_in k_L_law 1665 = some (.ireturn, 1666, 1, 0, 0) := by decide +kernel
theorem r_L_law_1666 : mv_in k_L_law 1666 = some (.iload 6, 1668, 0, 0, 0) := by decide +kernel
theorem r_L_law_1668 : mv_in k_L_law 1668 = some (.ifCond .ne 15, 1671, 1683, 0, 0) := by decide +kernel
theorem r_L_law_1671 : mv_in k_L_law 1671 = some (.aload_n 3, 1672, 0, 0, 0) := by decide +kernel
theorem r_L_law_1672 : mv_in k_L_law 1672 = some (.iconst 0, 1673, 0, 0, 0) := by decide +kernel
theorem r_L_law_1673 : mv_in k_L_law 1673 = some (.laload, 1674, 0, 0, 0) := by decide +kernel
theorem r_L_law_1674 : mv_in k_L_law 1674 = some (.iload 7, 1676, 0, 0, 0) := by decide +kernel
theorem r_L_law_1676 : mv_in k_L_law 1676 = some (.i2l, 1677, 0, 0, 0) := by decide +kernel
theorem r_L_law_1677 : mv_in k_L_law 1677 = some (.lcmp, 1678, 0, 0, 0) := by decide +kernel
theorem r_L_law_1678 : mv_in k_L_law 1678 = some (.ifCond .eq 5, 1681, 1683, 0, 0) := by decide +kernel
theorem r_L_law_1681 : mv_in k_L_law 1681 = some (.iconst 0, 1682, 0, 0, 0) := by decide +kernel
theorem r_L_law_1682 : mv_in k_L_law 1682 = some (.ireturn, 1683, 1, 0, 0) := by decide +kernel
theorem r_L_law_1683 : mv_in k_L_law 1683 = some (.goto 863, 1686, 2546, 0, 0) := by decide +kernel
theorem r_L_law_1686 : mv_in k_L_law 1686 = some (.aload_n 1, 1687, 0, 0, 0) := by decide +kernel
theorem r_L_law_1687 : mv_in k_L_law 1687 = some (.aload_n 3, 1688, 0, 0, 0) := by decide +kernel
theorem r_L_law_1688 : mv_in k_L_law 1688 = some (.invokestatic 249, 1691, k_L_stepsUntilFlood, 2, 1022) := by decide +kernel
theorem r_L_law_1691 : mv_in k_L_law 1691 = some (.istore 6, 1693, 0, 0, 0) := by decide +kernel
theorem r_L_law_1693 : mv_in k_L_law 1693 = some (.aload_n 2, 1694, 0, 0, 0) := by decide +kernel
theorem r_L_law_1694 : mv_in k_L_law 1694 = some (.invokevirtual 252, 1697, k_X11_stepsUntilFlood, 1, 1547) := by decide +kernel
theorem r_L_law_1697 : mv_in k_L_law 1697 = some (.istore 7, 1699, 0, 0, 0) := by decide +kernel
theorem r_L_law_1699 : mv_in k_L_law 1699 = some (.aload_n 2, 1700, 0, 0, 0) := by decide +kernel
theorem r_L_law_1700 : mv_in k_L_law 1700 = some (.invokevirtual 151, 1703, k_X11_thrown, 1, 1315) := by decide +kernel
theorem r_L_law_1703 : mv_in k_L_law 1703 = some (.iload 6, 1705, 0, 0, 0) := by decide +kernel
theorem r_L_law_1705 : mv_in k_L_law 1705 = some (.if_icmp .eq 5, 1708, 1710, 0, 0) := by decide +kernel
theorem r_L_law_1708 : mv_in k_L_law 1708 = some (.iconst 0, 1709, 0, 0, 0) := by decide +kernel
theorem r_L_law_1709 : mv_in k_L_law 1709 = some (.ireturn, 1710, 1, 0, 0) := by decide +kernel
theorem r_L_law_1710 : mv_in k_L_law 1710 = some (.iload 6, 1712, 0, 0, 0) := by decide +kernel
theorem r_L_law_1712 : mv_in k_L_law 1712 = some (.ifCond .ne 15, 1715, 1727, 0, 0) := by decide +kernel
theorem r_L_law_1715 : mv_in k_L_law 1715 = some (.aload_n 3, 1716, 0, 0, 0) := by decide +kernel
theorem r_L_law_1716 : mv_in k_L_law 1716 = some (.iconst 0, 1717, 0, 0, 0) := by decide +kernel
theorem r_L_law_1717 : mv_in k_L_law 1717 = some (.laload, 1718, 0, 0, 0) := by decide +kernel
theorem r_L_law_1718 : mv_in k_L_law 1718 = some (.iload 7, 1720, 0, 0, 0) := by decide +kernel
theorem r_L_law_1720 : mv_in k_L_law 1720 = some (.i2l, 1721, 0, 0, 0) := by decide +kernel
theorem r_L_law_1721 : mv_in k_L_law 1721 = some (.lcmp, 1722, 0, 0, 0) := by decide +kernel
theorem r_L_law_1722 : mv_in k_L_law 1722 = some (.ifCond .eq 5, 1725, 1727, 0, 0) := by decide +kernel
theorem r_L_law_1725 : mv_in k_L_law 1725 = some (.iconst 0, 1726, 0, 0, 0) := by decide +kernel
theorem r_L_law_1726 : mv_in k_L_law 1726 = some (.ireturn, 1727, 1, 0, 0) := by decide +kernel
theorem r_L_law_1727 : mv_in k_L_law 1727 = some (.goto 819, 1730, 2546, 0, 0) := by decide +kernel
theorem r_L_law_1730 : mv_in k_L_law 1730 = some (.aload_n 1, 1731, 0, 0, 0) := by decide +kernel
theorem r_L_law_1731 : mv_in k_L_law 1731 = some (.aload_n 0, 1732, 0, 0, 0) := by decide +kernel
theorem r_L_law_1732 : mv_in k_L_law 1732 = some (.iload 5, 1734, 0, 0, 0) := by decide +kernel
theorem r_L_law_1734 : mv_in k_L_law 1734 = some (.iconst 1, 1735, 0, 0, 0) := by decide +kernel
theorem r_L_law_1735 : mv_in k_L_law 1735 = some (.iadd, 1736, 0, 0, 0) := by decide +kernel
theorem r_L_law_1736 : mv_in k_L_law 1736 = some (.iaload, 1737, 0, 0, 0) := by decide +kernel
theorem r_L_law_1737 : mv_in k_L_law 1737 = some (.aload_n 0, 1738, 0, 0, 0) := by decide +kernel
theorem r_L_law_1738 : mv_in k_L_law 1738 = some (.iload 5, 1740, 0, 0, 0) := by decide +kernel
theorem r_L_law_1740 : mv_in k_L_law 1740 = some (.iconst 2, 1741, 0, 0, 0) := by decide +kernel
theorem r_L_law_1741 : mv_in k_L_law 1741 = some (.iadd, 1742, 0, 0, 0) := by decide +kernel
theorem r_L_law_1742 : mv_in k_L_law 1742 = some (.iaload, 1743, 0, 0, 0) := by decide +kernel
theorem r_L_law_1743 : mv_in k_L_law 1743 = some (.aload_n 3, 1744, 0, 0, 0) := by decide +kernel
theorem r_L_law_1744 : mv_in k_L_law 1744 = some (.invokestatic 253, 1747, k_L_leastSpill, 4, 1030) := by decide +kernel
theorem r_L_law_1747 : mv_in k_L_law 1747 = some (.istore 6, 1749, 0, 0, 0) := by decide +kernel
theorem r_L_law_1749 : mv_in k_L_law 1749 = some (.aload_n 2, 1750, 0, 0, 0) := by decide +kernel
theorem r_L_law_1750 : mv_in k_L_law 1750 = some (.aload_n 0, 1751, 0, 0, 0) := by decide +kernel
theorem r_L_law_1751 : mv_in k_L_law 1751 = some (.iload 5, 1753, 0, 0, 0) := by decide +kernel
theorem r_L_law_1753 : mv_in k_L_law 1753 = some (.iconst 1, 1754, 0, 0, 0) := by decide +kernel
theorem r_L_law_1754 : mv_in k_L_law 1754 = some (.iadd, 1755, 0, 0, 0) := by decide +kernel
theorem r_L_law_1755 : mv_in k_L_law 1755 = some (.iaload, 1756, 0, 0, 0) := by decide +kernel
theorem r_L_law_1756 : mv_in k_L_law 1756 = some (.aload_n 0, 1757, 0, 0, 0) := by decide +kernel
theorem r_L_law_1757 : mv_in k_L_law 1757 = some (.iload 5, 1759, 0, 0, 0) := by decide +kernel
theorem r_L_law_1759 : mv_in k_L_law 1759 = some (.iconst 2, 1760, 0, 0, 0) := by decide +kernel
theorem r_L_law_1760 : mv_in k_L_law 1760 = some (.iadd, 1761, 0, 0, 0) := by decide +kernel
theorem r_L_law_1761 : mv_in k_L_law 1761 = some (.iaload, 1762, 0, 0, 0) := by decide +kernel
theorem r_L_law_1762 : mv_in k_L_law 1762 = some (.invokevirtual 255, 1765, k_X11_leastSpill, 3, 1551) := by decide +kernel
theorem r_L_law_1765 : mv_in k_L_law 1765 = some (.istore 7, 1767, 0, 0, 0) := by decide +kernel
theorem r_L_law_1767 : mv_in k_L_law 1767 = some (.aload_n 2, 1768, 0, 0, 0) := by decide +kernel
theorem r_L_law_1768 : mv_in k_L_law 1768 = some (.invokevirtual 151, 1771, k_X11_thrown, 1, 1315) := by decide +kernel
theorem r_L_law_1771 : mv_in k_L_law 1771 = some (.iload 6, 1773, 0, 0, 0) := by decide +kernel
theorem r_L_law_1773 : mv_in k_L_law 1773 = some (.if_icmp .eq 5, 1776, 1778, 0, 0) := by decide +kernel
theorem r_L_law_1776 : mv_in k_L_law 1776 = some (.iconst 0, 1777, 0, 0, 0) := by decide +kernel
theorem r_L_law_1777 : mv_in k_L_law 1777 = some (.ireturn, 1778, 1, 0, 0) := by decide +kernel
theorem r_L_law_1778 : mv_in k_L_law 1778 = some (.iload 6, 1780, 0, 0, 0) := by decide +kernel
theorem r_L_law_1780 : mv_in k_L_law 1780 = some (.ifCond .ne 15, 1783, 1795, 0, 0) := by decide +kernel
theorem r_L_law_1783 : mv_in k_L_law 1783 = some (.aload_n 3, 1784, 0, 0, 0) := by decide +kernel
theorem r_L_law_1784 : mv_in k_L_law 1784 = some (.iconst 0, 1785, 0, 0, 0) := by decide +kernel
theorem r_L_law_1785 : mv_in k_L_law 1785 = some (.laload, 1786, 0, 0, 0) := by decide +kernel
theorem r_L_law_1786 : mv_in k_L_law 1786 = some (.iload 7, 1788, 0, 0, 0) := by decide +kernel
theorem r_L_law_1788 : mv_in k_L_law 1788 = some (.i2l, 1789, 0, 0, 0) := by decide +kernel
theorem r_L_law_1789 : mv_in k_L_law 1789 = some (.lcmp, 1790, 0, 0, 0) := by decide +kernel
theorem r_L_law_1790 : mv_in k_L_law 1790 = some (.ifCond .eq 5, 1793, 1795, 0, 0) := by decide +kernel
theorem r_L_law_1793 : mv_in k_L_law 1793 = some (.iconst 0, 1794, 0, 0, 0) := by decide +kernel
theorem r_L_law_1794 : mv_in k_L_law 1794 = some (.ireturn, 1795, 1, 0, 0) := by decide +kernel
theorem r_L_law_1795 : mv_in k_L_law 1795 = some (.goto 751, 1798, 2546, 0, 0) := by decide +kernel
theorem r_L_law_1798 : mv_in k_L_law 1798 = some (.aload_n 1, 1799, 0, 0, 0) := by decide +kernel
theorem r_L_law_1799 : mv_in k_L_law 1799 = some (.aload_n 0, 1800, 0, 0, 0) := by decide +kernel
theorem r_L_law_1800 : mv_in k_L_law 1800 = some (.iload 5, 1802, 0, 0, 0) := by decide +kernel
theorem r_L_law_1802 : mv_in k_L_law 1802 = some (.iconst 1, 1803, 0, 0, 0) := by decide +kernel
theorem r_L_law_1803 : mv_in k_L_law 1803 = some (.iadd, 1804, 0, 0, 0) := by decide +kernel
theorem r_L_law_1804 : mv_in k_L_law 1804 = some (.iaload, 1805, 0, 0, 0) := by decide +kernel
theorem r_L_law_1805 : mv_in k_L_law 1805 = some (.aload_n 0, 1806, 0, 0, 0) := by decide +kernel
theorem r_L_law_1806 : mv_in k_L_law 1806 = some (.iload 5, 1808, 0, 0, 0) := by decide +kernel
theorem r_L_law_1808 : mv_in k_L_law 1808 = some (.iconst 2, 1809, 0, 0, 0) := by decide +kernel
theorem r_L_law_1809 : mv_in k_L_law 1809 = some (.iadd, 1810, 0, 0, 0) := by decide +kernel
theorem r_L_law_1810 : mv_in k_L_law 1810 = some (.iaload, 1811, 0, 0, 0) := by decide +kernel
theorem r_L_law_1811 : mv_in k_L_law 1811 = some (.aload_n 3, 1812, 0, 0, 0) := by decide +kernel
theorem r_L_law_1812 : mv_in k_L_law 1812 = some (.invokestatic 256, 1815, k_L_leastSpillByPruning, 4, 1041) := by decide +kernel
theorem r_L_law_1815 : mv_in k_L_law 1815 = some (.istore 6, 1817, 0, 0, 0) := by decide +kernel
theorem r_L_law_1817 : mv_in k_L_law 1817 = some (.aload_n 2, 1818, 0, 0, 0) := by decide +kernel
theorem r_L_law_1818 : mv_in k_L_law 1818 = some (.aload_n 0, 1819, 0, 0, 0) := by decide +kernel
theorem r_L_law_1819 : mv_in k_L_law 1819 = some (.iload 5, 1821, 0, 0, 0) := by decide +kernel
theorem r_L_law_1821 : mv_in k_L_law 1821 = some (.iconst 1, 1822, 0, 0, 0) := by decide +kernel
theorem r_L_law_1822 : mv_in k_L_law 1822 = some (.iadd, 1823, 0, 0, 0) := by decide +kernel
theorem r_L_law_1823 : mv_in k_L_law 1823 = some (.iaload, 1824, 0, 0, 0) := by decide +kernel
theorem r_L_law_1824 : mv_in k_L_law 1824 = some (.aload_n 0, 1825, 0, 0, 0) := by decide +kernel
theorem r_L_law_1825 : mv_in k_L_law 1825 = some (.iload 5, 1827, 0, 0, 0) := by decide +kernel
theorem r_L_law_1827 : mv_in k_L_law 1827 = some (.iconst 2, 1828, 0, 0, 0) := by decide +kernel
theorem r_L_law_1828 : mv_in k_L_law 1828 = some (.iadd, 1829, 0, 0, 0) := by decide +kernel
theorem r_L_law_1829 : mv_in k_L_law 1829 = some (.iaload, 1830, 0, 0, 0) := by decide +kernel
theorem r_L_law_1830 : mv_in k_L_law 1830 = some (.invokevirtual 258, 1833, k_X11_leastSpillByPruning, 3, 1563) := by decide +kernel
theorem r_L_law_1833 : mv_in k_L_law 1833 = some (.istore 7, 1835, 0, 0, 0) := by decide +kernel
theorem r_L_law_1835 : mv_in k_L_law 1835 = some (.aload_n 2, 1836, 0, 0, 0) := by decide +kernel
theorem r_L_law_1836 : mv_in k_L_law 1836 = some (.invokevirtual 151, 1839, k_X11_thrown, 1, 1315) := by decide +kernel
theorem r_L_law_1839 : mv_in k_L_law 1839 = some (.iload 6, 1841, 0, 0, 0) := by decide +kernel
theorem r_L_law_1841 : mv_in k_L_law 1841 = some (.if_icmp .eq 5, 1844, 1846, 0, 0) := by decide +kernel
theorem r_L_law_1844 : mv_in k_L_law 1844 = some (.iconst 0, 1845, 0, 0, 0) := by decide +kernel
theorem r_L_law_1845 : mv_in k_L_law 1845 = some (.ireturn, 1846, 1, 0, 0) := by decide +kernel
theorem r_L_law_1846 : mv_in k_L_law 1846 = some (.iload 6, 1848, 0, 0, 0) := by decide +kernel
theorem r_L_law_1848 : mv_in k_L_law 1848 = some (.ifCond .ne 15, 1851, 1863, 0, 0) := by decide +kernel
theorem r_L_law_1851 : mv_in k_L_law 1851 = some (.aload_n 3, 1852, 0, 0, 0) := by decide +kernel
theorem r_L_law_1852 : mv_in k_L_law 1852 = some (.iconst 0, 1853, 0, 0, 0) := by decide +kernel
theorem r_L_law_1853 : mv_in k_L_law 1853 = some (.laload, 1854, 0, 0, 0) := by decide +kernel
theorem r_L_law_1854 : mv_in k_L_law 1854 = some (.iload 7, 1856, 0, 0, 0) := by decide +kernel
theorem r_L_law_1856 : mv_in k_L_law 1856 = some (.i2l, 1857, 0, 0, 0) := by decide +kernel
theorem r_L_law_1857 : mv_in k_L_law 1857 = some (.lcmp, 1858, 0, 0, 0) := by decide +kernel
theorem r_L_law_1858 : mv_in k_L_law 1858 = some (.ifCond .eq 5, 1861, 1863, 0, 0) := by decide +kernel
theorem r_L_law_1861 : mv_in k_L_law 1861 = some (.iconst 0, 1862, 0, 0, 0) := by decide +kernel
theorem r_L_law_1862 : mv_in k_L_law 1862 = some (.ireturn, 1863, 1, 0, 0) := by decide +kernel
theorem r_L_law_1863 : mv_in k_L_law 1863 = some (.goto 683, 1866, 2546, 0, 0) := by decide +kernel
theorem r_L_law_1866 : mv_in k_L_law 1866 = some (.aload_n 1, 1867, 0, 0, 0) := by decide +kernel
theorem r_L_law_1867 : mv_in k_L_law 1867 = some (.aload_n 0, 1868, 0, 0, 0) := by decide +kernel
theorem r_L_law_1868 : mv_in k_L_law 1868 = some (.iload 5, 1870, 0, 0, 0) := by decide +kernel
theorem r_L_law_1870 : mv_in k_L_law 1870 = some (.iconst 1, 1871, 0, 0, 0) := by decide +kernel
theorem r_L_law_1871 : mv_in k_L_law 1871 = some (.iadd, 1872, 0, 0, 0) := by decide +kernel
theorem r_L_law_1872 : mv_in k_L_law 1872 = some (.iaload, 1873, 0, 0, 0) := by decide +kernel
theorem r_L_law_1873 : mv_in k_L_law 1873 = some (.aload_n 0, 1874, 0, 0, 0) := by decide +kernel
theorem r_L_law_1874 : mv_in k_L_law 1874 = some (.iload 5, 1876, 0, 0, 0) := by decide +kernel
theorem r_L_law_1876 : mv_in k_L_law 1876 = some (.iconst 2, 1877, 0, 0, 0) := by decide +kernel
theorem r_L_law_1877 : mv_in k_L_law 1877 = some (.iadd, 1878, 0, 0, 0) := by decide +kernel
theorem r_L_law_1878 : mv_in k_L_law 1878 = some (.iaload, 1879, 0, 0, 0) := by decide +kernel
theorem r_L_law_1879 : mv_in k_L_law 1879 = some (.aload_n 3, 1880, 0, 0, 0) := by decide +kernel
theorem r_L_law_1880 : mv_in k_L_law 1880 = some (.invokestatic 259, 1883, k_L_bestOpening, 4, 1048) := by decide +kernel
theorem r_L_law_1883 : mv_in k_L_law 1883 = some (.istore 6, 1885, 0, 0, 0) := by decide +kernel
theorem r_L_law_1885 : mv_in k_L_law 1885 = some (.aload_n 2, 1886, 0, 0, 0) := by decide +kernel
theorem r_L_law_1886 : mv_in k_L_law 1886 = some (.aload_n 0, 1887, 0, 0, 0) := by decide +kernel
theorem r_L_law_1887 : mv_in k_L_law 1887 = some (.iload 5, 1889, 0, 0, 0) := by decide +kernel
theorem r_L_law_1889 : mv_in k_L_law 1889 = some (.iconst 1, 1890, 0, 0, 0) := by decide +kernel
theorem r_L_law_1890 : mv_in k_L_law 1890 = some (.iadd, 1891, 0, 0, 0) := by decide +kernel
theorem r_L_law_1891 : mv_in k_L_law 1891 = some (.iaload, 1892, 0, 0, 0) := by decide +kernel
theorem r_L_law_1892 : mv_in k_L_law 1892 = some (.aload_n 0, 1893, 0, 0, 0) := by decide +kernel
theorem r_L_law_1893 : mv_in k_L_law 1893 = some (.iload 5, 1895, 0, 0, 0) := by decide +kernel
theorem r_L_law_1895 : mv_in k_L_law 1895 = some (.iconst 2, 1896, 0, 0, 0) := by decide +kernel
theorem r_L_law_1896 : mv_in k_L_law 1896 = some (.iadd, 1897, 0, 0, 0) := by decide +kernel
theorem r_L_law_1897 : mv_in k_L_law 1897 = some (.iaload, 1898, 0, 0, 0) := by decide +kernel
theorem r_L_law_1898 : mv_in k_L_law 1898 = some (.invokevirtual 261, 1901, k_X11_bestOpening, 3, 1568) := by decide +kernel
theorem r_L_law_1901 : mv_in k_L_law 1901 = some (.istore 7, 1903, 0, 0, 0) := by decide +kernel
theorem r_L_law_1903 : mv_in k_L_law 1903 = some (.aload_n 2, 1904, 0, 0, 0) := by decide +kernel
theorem r_L_law_1904 : mv_in k_L_law 1904 = some (.invokevirtual 151, 1907, k_X11_thrown, 1, 1315) := by decide +kernel
theorem r_L_law_1907 : mv_in k_L_law 1907 = some (.iload 6, 1909, 0, 0, 0) := by decide +kernel
theorem r_L_law_1909 : mv_in k_L_law 1909 = some (.if_icmp .eq 5, 1912, 1914, 0, 0) := by decide +kernel
theorem r_L_law_1912 : mv_in k_L_law 1912 = some (.iconst 0, 1913, 0, 0, 0) := by decide +kernel
theorem r_L_law_1913 : mv_in k_L_law 1913 = some (.ireturn, 1914, 1, 0, 0) := by decide +kernel
theorem r_L_law_1914 : mv_in k_L_law 1914 = some (.iload 6, 1916, 0, 0, 0) := by decide +kernel
theorem r_L_law_1916 : mv_in k_L_law 1916 = some (.ifCond .ne 15, 1919, 1931, 0, 0) := by decide +kernel
theorem r_L_law_1919 : mv_in k_L_law 1919 = some (.aload_n 3, 1920, 0, 0, 0) := by decide +kernel
theorem r_L_law_1920 : mv_in k_L_law 1920 = some (.iconst 0, 1921, 0, 0, 0) := by decide +kernel
theorem r_L_law_1921 : mv_in k_L_law 1921 = some (.laload, 1922, 0, 0, 0) := by decide +kernel
theorem r_L_law_1922 : mv_in k_L_law 1922 = some (.iload 7, 1924, 0, 0, 0) := by decide +kernel
theorem r_L_law_1924 : mv_in k_L_law 1924 = some (.i2l, 1925, 0, 0, 0) := by decide +kernel
theorem r_L_law_1925 : mv_in k_L_law 1925 = some (.lcmp, 1926, 0, 0, 0) := by decide +kernel
theorem r_L_law_1926 : mv_in k_L_law 1926 = some (.ifCond .eq 5, 1929, 1931, 0, 0) := by decide +kernel
theorem r_L_law_1929 : mv_in k_L_law 1929 = some (.iconst 0, 1930, 0, 0, 0) := by decide +kernel
theorem r_L_law_1930 : mv_in k_L_law 1930 = some (.ireturn, 1931, 1, 0, 0) := by decide +kernel
theorem r_L_law_1931 : mv_in k_L_law 1931 = some (.goto 615, 1934, 2546, 0, 0) := by decide +kernel
theorem r_L_law_1934 : mv_in k_L_law 1934 = some (.aload_n 1, 1935, 0, 0, 0) := by decide +kernel
theorem r_L_law_1935 : mv_in k_L_law 1935 = some (.aload_n 0, 1936, 0, 0, 0) := by decide +kernel
theorem r_L_law_1936 : mv_in k_L_law 1936 = some (.iload 5, 1938, 0, 0, 0) := by decide +kernel
theorem r_L_law_1938 : mv_in k_L_law 1938 = some (.iconst 1, 1939, 0, 0, 0) := by decide +kernel
theorem r_L_law_1939 : mv_in k_L_law 1939 = some (.iadd, 1940, 0, 0, 0) := by decide +kernel
theorem r_L_law_1940 : mv_in k_L_law 1940 = some (.iaload, 1941, 0, 0, 0) := by decide +kernel
theorem r_L_law_1941 : mv_in k_L_law 1941 = some (.aload_n 3, 1942, 0, 0, 0) := by decide +kernel
theorem r_L_law_1942 : mv_in k_L_law 1942 = some (.invokestatic 262, 1945, k_L_endangered, 3, 1059) := by decide +kernel
theorem r_L_law_1945 : mv_in k_L_law 1945 = some (.istore 6, 1947, 0, 0, 0) := by decide +kernel
theorem r_L_law_1947 : mv_in k_L_law 1947 = some (.aload_n 2, 1948, 0, 0, 0) := by decide +kernel
theorem r_L_law_1948 : mv_in k_L_law 1948 = some (.aload_n 0, 1949, 0, 0, 0) := by decide +kernel
theorem r_L_law_1949 : mv_in k_L_law 1949 = some (.iload 5, 1951, 0, 0, 0) := by decide +kernel
theorem r_L_law_1951 : mv_in k_L_law 1951 = some (.iconst 1, 1952, 0, 0, 0) := by decide +kernel
theorem r_L_law_1952 : mv_in k_L_law 1952 = some (.iadd, 1953, 0, 0, 0) := by decide +kernel
theorem r_L_law_1953 : mv_in k_L_law 1953 = some (.iaload, 1954, 0, 0, 0) := by decide +kernel
theorem r_L_law_1954 : mv_in k_L_law 1954 = some (.invokevirtual 264, 1957, k_X11_endangered, 2, 1572) := by decide +kernel
theorem r_L_law_1957 : mv_in k_L_law 1957 = some (.istore 7, 1959, 0, 0, 0) := by decide +kernel
theorem r_L_law_1959 : mv_in k_L_law 1959 = some (.aload_n 2, 1960, 0, 0, 0) := by decide +kernel
theorem r_L_law_1960 : mv_in k_L_law 1960 = some (.invokevirtual 151, 1963, k_X11_thrown, 1, 1315) := by decide +kernel
theorem r_L_law_1963 : mv_in k_L_law 1963 = some (.iload 6, 1965, 0, 0, 0) := by decide +kernel
theorem r_L_law_1965 : mv_in k_L_law 1965 = some (.if_icmp .eq 5, 1968, 1970, 0, 0) := by decide +kernel
theorem r_L_law_1968 : mv_in k_L_law 1968 = some (.iconst 0, 1969, 0, 0, 0) := by decide +kernel
theorem r_L_law_1969 : mv_in k_L_law 1969 = some (.ireturn, 1970, 1, 0, 0) := by decide +kernel
theorem r_L_law_1970 : mv_in k_L_law 1970 = some (.iload 6, 1972, 0, 0, 0) := by decide +kernel
theorem r_L_law_1972 : mv_in k_L_law 1972 = some (.ifCond .ne 15, 1975, 1987, 0, 0) := by decide +kernel
theorem r_L_law_1975 : mv_in k_L_law 1975 = some (.aload_n 3, 1976, 0, 0, 0) := by decide +kernel
theorem r_L_law_1976 : mv_in k_L_law 1976 = some (.iconst 0, 1977, 0, 0, 0) := by decide +kernel
theorem r_L_law_1977 : mv_in k_L_law 1977 = some (.laload, 1978, 0, 0, 0) := by decide +kernel
theorem r_L_law_1978 : mv_in k_L_law 1978 = some (.iload 7, 1980, 0, 0, 0) := by decide +kernel
theorem r_L_law_1980 : mv_in k_L_law 1980 = some (.i2l, 1981, 0, 0, 0) := by decide +kernel
theorem r_L_law_1981 : mv_in k_L_law 1981 = some (.lcmp, 1982, 0, 0, 0) := by decide +kernel
theorem r_L_law_1982 : mv_in k_L_law 1982 = some (.ifCond .eq 5, 1985, 1987, 0, 0) := by decide +kernel
theorem r_L_law_1985 : mv_in k_L_law 1985 = some (.iconst 0, 1986, 0, 0, 0) := by decide +kernel
theorem r_L_law_1986 : mv_in k_L_law 1986 = some (.ireturn, 1987, 1, 0, 0) := by decide +kernel
theorem r_L_law_1987 : mv_in k_L_law 1987 = some (.goto 559, 1990, 2546, 0, 0) := by decide +kernel
theorem r_L_law_1990 : mv_in k_L_law 1990 = some (.aload_n 1, 1991, 0, 0, 0) := by decide +kernel
theorem r_L_law_1991 : mv_in k_L_law 1991 = some (.aload_n 0, 1992, 0, 0, 0) := by decide +kernel
theorem r_L_law_1992 : mv_in k_L_law 1992 = some (.iload 5, 1994, 0, 0, 0) := by decide +kernel
theorem r_L_law_1994 : mv_in k_L_law 1994 = some (.iconst 1, 1995, 0, 0, 0) := by decide +kernel
theorem r_L_law_1995 : mv_in k_L_law 1995 = some (.iadd, 1996, 0, 0, 0) := by decide +kernel
theorem r_L_law_1996 : mv_in k_L_law 1996 = some (.iaload, 1997, 0, 0, 0) := by decide +kernel
theorem r_L_law_1997 : mv_in k_L_law 1997 = some (.aload_n 0, 1998, 0, 0, 0) := by decide +kernel
theorem r_L_law_1998 : mv_in k_L_law 1998 = some (.iload 5, 2000, 0, 0, 0) := by decide +kernel
theorem r_L_law_2000 : mv_in k_L_law 2000 = some (.iconst 2, 2001, 0, 0, 0) := by decide +kernel
theorem r_L_law_2001 : mv_in k_L_law 2001 = some (.iadd, 2002, 0, 0, 0) := by decide +kernel
theorem r_L_law_2002 : mv_in k_L_law 2002 = some (.iaload, 2003, 0, 0, 0) := by decide +kernel
theorem r_L_law_2003 : mv_in k_L_law 2003 = some (.aload_n 3, 2004, 0, 0, 0) := by decide +kernel
theorem r_L_law_2004 : mv_in k_L_law 2004 = some (.invokestatic 265, 2007, k_L_bestProtection, 4, 1067) := by decide +kernel
theorem r_L_law_2007 : mv_in k_L_law 2007 = some (.istore 6, 2009, 0, 0, 0) := by decide +kernel
theorem r_L_law_2009 : mv_in k_L_law 2009 = some (.aload_n 2, 2010, 0, 0, 0) := by decide +kernel
theorem r_L_law_2010 : mv_in k_L_law 2010 = some (.aload_n 0, 2011, 0, 0, 0) := by decide +kernel
theorem r_L_law_2011 : mv_in k_L_law 2011 = some (.iload 5, 2013, 0, 0, 0) := by decide +kernel
theorem r_L_law_2013 : mv_in k_L_law 2013 = some (.iconst 1, 2014, 0, 0, 0) := by decide +kernel
theorem r_L_law_2014 : mv_in k_L_law 2014 = some (.iadd, 2015, 0, 0, 0) := by decide +kernel
theorem r_L_law_2015 : mv_in k_L_law 2015 = some (.iaload, 2016, 0, 0, 0) := by decide +kernel
theorem r_L_law_2016 : mv_in k_L_law 2016 = some (.aload_n 0, 2017, 0, 0, 0) := by decide +kernel
theorem r_L_law_2017 : mv_in k_L_law 2017 = some (.iload 5, 2019, 0, 0, 0) := by decide +kernel
theorem r_L_law_2019 : mv_in k_L_law 2019 = some (.iconst 2, 2020, 0, 0, 0) := by decide +kernel
theorem r_L_law_2020 : mv_in k_L_law 2020 = some (.iadd, 2021, 0, 0, 0) := by decide +kernel
theorem r_L_law_2021 : mv_in k_L_law 2021 = some (.iaload, 2022, 0, 0, 0) := by decide +kernel
theorem r_L_law_2022 : mv_in k_L_law 2022 = some (.invokevirtual 267, 2025, k_X11_bestProtection, 3, 1580) := by decide +kernel
theorem r_L_law_2025 : mv_in k_L_law 2025 = some (.istore 7, 2027, 0, 0, 0) := by decide +kernel
theorem r_L_law_2027 : mv_in k_L_law 2027 = some (.aload_n 2, 2028, 0, 0, 0) := by decide +kernel
theorem r_L_law_2028 : mv_in k_L_law 2028 = some (.invokevirtual 151, 2031, k_X11_thrown, 1, 1315) := by decide +kernel
theorem r_L_law_2031 : mv_in k_L_law 2031 = some (.iload 6, 2033, 0, 0, 0) := by decide +kernel
theorem r_L_law_2033 : mv_in k_L_law 2033 = some (.if_icmp .eq 5, 2036, 2038, 0, 0) := by decide +kernel
theorem r_L_law_2036 : mv_in k_L_law 2036 = some (.iconst 0, 2037, 0, 0, 0) := by decide +kernel
theorem r_L_law_2037 : mv_in k_L_law 2037 = some (.ireturn, 2038, 1, 0, 0) := by decide +kernel
theorem r_L_law_2038 : mv_in k_L_law 2038 = some (.iload 6, 2040, 0, 0, 0) := by decide +kernel
theorem r_L_law_2040 : mv_in k_L_law 2040 = some (.ifCond .ne 15, 2043, 2055, 0, 0) := by decide +kernel
theorem r_L_law_2043 : mv_in k_L_law 2043 = some (.aload_n 3, 2044, 0, 0, 0) := by decide +kernel
theorem r_L_law_2044 : mv_in k_L_law 2044 = some (.iconst 0, 2045, 0, 0, 0) := by decide +kernel
theorem r_L_law_2045 : mv_in k_L_law 2045 = some (.laload, 2046, 0, 0, 0) := by decide +kernel
theorem r_L_law_2046 : mv_in k_L_law 2046 = some (.iload 7, 2048, 0, 0, 0) := by decide +kernel
theorem r_L_law_2048 : mv_in k_L_law 2048 = some (.i2l, 2049, 0, 0, 0) := by decide +kernel
theorem r_L_law_2049 : mv_in k_L_law 2049 = some (.lcmp, 2050, 0, 0, 0) := by decide +kernel
theorem r_L_law_2050 : mv_in k_L_law 2050 = some (.ifCond .eq 5, 2053, 2055, 0, 0) := by decide +kernel
theorem r_L_law_2053 : mv_in k_L_law 2053 = some (.iconst 0, 2054, 0, 0, 0) := by decide +kernel
theorem r_L_law_2054 : mv_in k_L_law 2054 = some (.ireturn, 2055, 1, 0, 0) := by decide +kernel
theorem r_L_law_2055 : mv_in k_L_law 2055 = some (.goto 491, 2058, 2546, 0, 0) := by decide +kernel
theorem r_L_law_2058 : mv_in k_L_law 2058 = some (.aload_n 1, 2059, 0, 0, 0) := by decide +kernel
theorem r_L_law_2059 : mv_in k_L_law 2059 = some (.aload_n 0, 2060, 0, 0, 0) := by decide +kernel
theorem r_L_law_2060 : mv_in k_L_law 2060 = some (.iload 5, 2062, 0, 0, 0) := by decide +kernel
theorem r_L_law_2062 : mv_in k_L_law 2062 = some (.iconst 1, 2063, 0, 0, 0) := by decide +kernel
theorem r_L_law_2063 : mv_in k_L_law 2063 = some (.iadd, 2064, 0, 0, 0) := by decide +kernel
theorem r_L_law_2064 : mv_in k_L_law 2064 = some (.iaload, 2065, 0, 0, 0) := by decide +kernel
theorem r_L_law_2065 : mv_in k_L_law 2065 = some (.aload_n 0, 2066, 0, 0, 0) := by decide +kernel
theorem r_L_law_2066 : mv_in k_L_law 2066 = some (.iload 5, 2068, 0, 0, 0) := by decide +kernel
theorem r_L_law_2068 : mv_in k_L_law 2068 = some (.iconst 2, 2069, 0, 0, 0) := by decide +kernel
theorem r_L_law_2069 : mv_in k_L_law 2069 = some (.iadd, 2070, 0, 0, 0) := by decide +kernel
theorem r_L_law_2070 : mv_in k_L_law 2070 = some (.iaload, 2071, 0, 0, 0) := by decide +kernel
theorem r_L_law_2071 : mv_in k_L_law 2071 = some (.aload_n 3, 2072, 0, 0, 0) := by decide +kernel
theorem r_L_law_2072 : mv_in k_L_law 2072 = some (.invokestatic 268, 2075, k_L_bestProtectionBySets, 4, 1074) := by decide +kernel
theorem r_L_law_2075 : mv_in k_L_law 2075 = some (.istore 6, 2077, 0, 0, 0) := by decide +kernel
theorem r_L_law_2077 : mv_in k_L_law 2077 = some (.aload_n 2, 2078, 0, 0, 0) := by decide +kernel
theorem r_L_law_2078 : mv_in k_L_law 2078 = some (.aload_n 0, 2079, 0, 0, 0) := by decide +kernel
theorem r_L_law_2079 : mv_in k_L_law 2079 = some (.iload 5, 2081, 0, 0, 0) := by decide +kernel
theorem r_L_law_2081 : mv_in k_L_law 2081 = some (.iconst 1, 2082, 0, 0, 0) := by decide +kernel
theorem r_L_law_2082 : mv_in k_L_law 2082 = some (.iadd, 2083, 0, 0, 0) := by decide +kernel
theorem r_L_law_2083 : mv_in k_L_law 2083 = some (.iaload, 2084, 0, 0, 0) := by decide +kernel
theorem r_L_law_2084 : mv_in k_L_law 2084 = some (.aload_n 0, 2085, 0, 0, 0) := by decide +kernel
theorem r_L_law_2085 : mv_in k_L_law 2085 = some (.iload 5, 2087, 0, 0, 0) := by decide +kernel
theorem r_L_law_2087 : mv_in k_L_law 2087 = some (.iconst 2, 2088, 0, 0, 0) := by decide +kernel
theorem r_L_law_2088 : mv_in k_L_law 2088 = some (.iadd, 2089, 0, 0, 0) := by decide +kernel
theorem r_L_law_2089 : mv_in k_L_law 2089 = some (.iaload, 2090, 0, 0, 0) := by decide +kernel
theorem r_L_law_2090 : mv_in k_L_law 2090 = some (.invokevirtual 270, 2093, k_X11_bestProtectionBySets, 3, 1584) := by decide +kernel
theorem r_L_law_2093 : mv_in k_L_law 2093 = some (.istore 7, 2095, 0, 0, 0) := by decide +kernel
theorem r_L_law_2095 : mv_in k_L_law 2095 = some (.aload_n 2, 2096, 0, 0, 0) := by decide +kernel
theorem r_L_law_2096 : mv_in k_L_law 2096 = some (.invokevirtual 151, 2099, k_X11_thrown, 1, 1315) := by decide +kernel
theorem r_L_law_2099 : mv_in k_L_law 2099 = some (.iload 6, 2101, 0, 0, 0) := by decide +kernel
theorem r_L_law_2101 : mv_in k_L_law 2101 = some (.if_icmp .eq 5, 2104, 2106, 0, 0) := by decide +kernel
theorem r_L_law_2104 : mv_in k_L_law 2104 = some (.iconst 0, 2105, 0, 0, 0) := by decide +kernel
theorem r_L_law_2105 : mv_in k_L_law 2105 = some (.ireturn, 2106, 1, 0, 0) := by decide +kernel
theorem r_L_law_2106 : mv_in k_L_law 2106 = some (.iload 6, 2108, 0, 0, 0) := by decide +kernel
theorem r_L_law_2108 : mv_in k_L_law 2108 = some (.ifCond .ne 15, 2111, 2123, 0, 0) := by decide +kernel
theorem r_L_law_2111 : mv_in k_L_law 2111 = some (.aload_n 3, 2112, 0, 0, 0) := by decide +kernel
theorem r_L_law_2112 : mv_in k_L_law 2112 = some (.iconst 0, 2113, 0, 0, 0) := by decide +kernel
theorem r_L_law_2113 : mv_in k_L_law 2113 = some (.laload, 2114, 0, 0, 0) := by decide +kernel
theorem r_L_law_2114 : mv_in k_L_law 2114 = some (.iload 7, 2116, 0, 0, 0) := by decide +kernel
theorem r_L_law_2116 : mv_in k_L_law 2116 = some (.i2l, 2117, 0, 0, 0) := by decide +kernel
theorem r_L_law_2117 : mv_in k_L_law 2117 = some (.lcmp, 2118, 0, 0, 0) := by decide +kernel
theorem r_L_law_2118 : mv_in k_L_law 2118 = some (.ifCond .eq 5, 2121, 2123, 0, 0) := by decide +kernel
theorem r_L_law_2121 : mv_in k_L_law 2121 = some (.iconst 0, 2122, 0, 0, 0) := by decide +kernel
theorem r_L_law_2122 : mv_in k_L_law 2122 = some (.ireturn, 2123, 1, 0, 0) := by decide +kernel
theorem r_L_law_2123 : mv_in k_L_law 2123 = some (.goto 423, 2126, 2546, 0, 0) := by decide +kernel
theorem r_L_law_2126 : mv_in k_L_law 2126 = some (.aload_n 1, 2127, 0, 0, 0) := by decide +kernel
theorem r_L_law_2127 : mv_in k_L_law 2127 = some (.aload_n 0, 2128, 0, 0, 0) := by decide +kernel
theorem r_L_law_2128 : mv_in k_L_law 2128 = some (.iload 5, 2130, 0, 0, 0) := by decide +kernel
theorem r_L_law_2130 : mv_in k_L_law 2130 = some (.iconst 1, 2131, 0, 0, 0) := by decide +kernel
theorem r_L_law_2131 : mv_in k_L_law 2131 = some (.iadd, 2132, 0, 0, 0) := by decide +kernel
theorem r_L_law_2132 : mv_in k_L_law 2132 = some (.iaload, 2133, 0, 0, 0) := by decide +kernel
theorem r_L_law_2133 : mv_in k_L_law 2133 = some (.aload_n 3, 2134, 0, 0, 0) := by decide +kernel
theorem r_L_law_2134 : mv_in k_L_law 2134 = some (.invokestatic 271, 2137, k_L_bagsForAll, 3, 1081) := by decide +kernel
theorem r_L_law_2137 : mv_in k_L_law 2137 = some (.istore 6, 2139, 0, 0, 0) := by decide +kernel
theorem r_L_law_2139 : mv_in k_L_law 2139 = some (.aload_n 2, 2140, 0, 0, 0) := by decide +kernel
theorem r_L_law_2140 : mv_in k_L_law 2140 = some (.aload_n 0, 2141, 0, 0, 0) := by decide +kernel
theorem r_L_law_2141 : mv_in k_L_law 2141 = some (.iload 5, 2143, 0, 0, 0) := by decide +kernel
theorem r_L_law_2143 : mv_in k_L_law 2143 = some (.iconst 1, 2144, 0, 0, 0) := by decide +kernel
theorem r_L_law_2144 : mv_in k_L_law 2144 = some (.iadd, 2145, 0, 0, 0) := by decide +kernel
theorem r_L_law_2145 : mv_in k_L_law 2145 = some (.iaload, 2146, 0, 0, 0) := by decide +kernel
theorem r_L_law_2146 : mv_in k_L_law 2146 = some (.invokevirtual 273, 2149, k_X11_bagsForAll, 2, 1589) := by decide +kernel
theorem r_L_law_2149 : mv_in k_L_law 2149 = some (.istore 7, 2151, 0, 0, 0) := by decide +kernel
theorem r_L_law_2151 : mv_in k_L_law 2151 = some (.aload_n 2, 2152, 0, 0, 0) := by decide +kernel
theorem r_L_law_2152 : mv_in k_L_law 2152 = some (.invokevirtual 151, 2155, k_X11_thrown, 1, 1315) := by decide +kernel
theorem r_L_law_2155 : mv_in k_L_law 2155 = some (.iload 6, 2157, 0, 0, 0) := by decide +kernel
theorem r_L_law_2157 : mv_in k_L_law 2157 = some (.if_icmp .eq 5, 2160, 2162, 0, 0) := by decide +kernel
theorem r_L_law_2160 : mv_in k_L_law 2160 = some (.iconst 0, 2161, 0, 0, 0) := by decide +kernel
theorem r_L_law_2161 : mv_in k_L_law 2161 = some (.ireturn, 2162, 1, 0, 0) := by decide +kernel
theorem r_L_law_2162 : mv_in k_L_law 2162 = some (.iload 6, 2164, 0, 0, 0) := by decide +kernel
theorem r_L_law_2164 : mv_in k_L_law 2164 = some (.ifCond .ne 15, 2167, 2179, 0, 0) := by decide +kernel
theorem r_L_law_2167 : mv_in k_L_law 2167 = some (.aload_n 3, 2168, 0, 0, 0) := by decide +kernel
theorem r_L_law_2168 : mv_in k_L_law 2168 = some (.iconst 0, 2169, 0, 0, 0) := by decide +kernel
theorem r_L_law_2169 : mv_in k_L_law 2169 = some (.laload, 2170, 0, 0, 0) := by decide +kernel
theorem r_L_law_2170 : mv_in k_L_law 2170 = some (.iload 7, 2172, 0, 0, 0) := by decide +kernel
theorem r_L_law_2172 : mv_in k_L_law 2172 = some (.i2l, 2173, 0, 0, 0) := by decide +kernel
theorem r_L_law_2173 : mv_in k_L_law 2173 = some (.lcmp, 2174, 0, 0, 0) := by decide +kernel
theorem r_L_law_2174 : mv_in k_L_law 2174 = some (.ifCond .eq 5, 2177, 2179, 0, 0) := by decide +kernel
theorem r_L_law_2177 : mv_in k_L_law 2177 = some (.iconst 0, 2178, 0, 0, 0) := by decide +kernel
theorem r_L_law_2178 : mv_in k_L_law 2178 = some (.ireturn, 2179, 1, 0, 0) := by decide +kernel
theorem r_L_law_2179 : mv_in k_L_law 2179 = some (.goto 367, 2182, 2546, 0, 0) := by decide +kernel
theorem r_L_law_2182 : mv_in k_L_law 2182 = some (.aload_n 1, 2183, 0, 0, 0) := by decide +kernel
theorem r_L_law_2183 : mv_in k_L_law 2183 = some (.invokevirtual 274, 2186, k_X10_isConsistent, 1, 665) := by decide +kernel
theorem r_L_law_2186 : mv_in k_L_law 2186 = some (.aload_n 2, 2187, 0, 0, 0) := by decide +kernel
theorem r_L_law_2187 : mv_in k_L_law 2187 = some (.invokevirtual 278, 2190, k_X11_isConsistent, 1, 1593) := by decide +kernel
theorem r_L_law_2190 : mv_in k_L_law 2190 = some (.if_icmp .eq 356, 2193, 2546, 0, 0) := by decide +kernel
theorem r_L_law_2193 : mv_in k_L_law 2193 = some (.iconst 0, 2194, 0, 0, 0) := by decide +kernel
theorem r_L_law_2194 : mv_in k_L_law 2194 = some (.ireturn, 2195, 1, 0, 0) := by decide +kernel
theorem r_L_law_2195 : mv_in k_L_law 2195 = some (.aload_n 1, 2196, 0, 0, 0) := by decide +kernel
theorem r_L_law_2196 : mv_in k_L_law 2196 = some (.aload_n 0, 2197, 0, 0, 0) := by decide +kernel
theorem r_L_law_2197 : mv_in k_L_law 2197 = some (.iload 5, 2199, 0, 0, 0) := by decide +kernel
theorem r_L_law_2199 : mv_in k_L_law 2199 = some (.iconst 1, 2200, 0, 0, 0) := by decide +kernel
theorem r_L_law_2200 : mv_in k_L_law 2200 = some (.iadd, 2201, 0, 0, 0) := by decide +kernel
theorem r_L_law_2201 : mv_in k_L_law 2201 = some (.iaload, 2202, 0, 0, 0) := by decide +kernel
theorem r_L_law_2202 : mv_in k_L_law 2202 = some (.i2c, 2203, 0, 0, 0) := by decide +kernel
theorem r_L_law_2203 : mv_in k_L_law 2203 = some (.aload_n 3, 2204, 0, 0, 0) := by decide +kernel
theorem r_L_law_2204 : mv_in k_L_law 2204 = some (.invokestatic 279, 2207, k_L_append, 3, 1092) := by decide +kernel
theorem r_L_law_2207 : mv_in k_L_law 2207 = some (.istore 6, 2209, 0, 0, 0) := by decide +kernel
theorem r_L_law_2209 : mv_in k_L_law 2209 = some (.aload_n 2, 2210, 0, 0, 0) := by decide +kernel
theorem r_L_law_2210 : mv_in k_L_law 2210 = some (.aload_n 0, 2211, 0, 0, 0) := by decide +kernel
theorem r_L_law_2211 : mv_in k_L_law 2211 = some (.iload 5, 2213, 0, 0, 0) := by decide +kernel
theorem r_L_law_2213 : mv_in k_L_law 2213 = some (.iconst 1, 2214, 0, 0, 0) := by decide +kernel
theorem r_L_law_2214 : mv_in k_L_law 2214 = some (.iadd, 2215, 0, 0, 0) := by decide +kernel
theorem r_L_law_2215 : mv_in k_L_law 2215 = some (.iaload, 2216, 0, 0, 0) := by decide +kernel
theorem r_L_law_2216 : mv_in k_L_law 2216 = some (.i2c, 2217, 0, 0, 0) := by decide +kernel
theorem r_L_law_2217 : mv_in k_L_law 2217 = some (.invokevirtual 282, 2220, k_X11_append, 2, 1597) := by decide +kernel
theorem r_L_law_2220 : mv_in k_L_law 2220 = some (.istore 7, 2222, 0, 0, 0) := by decide +kernel
theorem r_L_law_2222 : mv_in k_L_law 2222 = some (.aload_n 2, 2223, 0, 0, 0) := by decide +kernel
theorem r_L_law_2223 : mv_in k_L_law 2223 = some (.invokevirtual 151, 2226, k_X11_thrown, 1, 1315) := by decide +kernel
theorem r_L_law_2226 : mv_in k_L_law 2226 = some (.iload 6, 2228, 0, 0, 0) := by decide +kernel
theorem r_L_law_2228 : mv_in k_L_law 2228 = some (.if_icmp .eq 5, 2231, 2233, 0, 0) := by decide +kernel
theorem r_L_law_2231 : mv_in k_L_law 2231 = some (.iconst 0, 2232, 0, 0, 0) := by decide +kernel
theorem r_L_law_2232 : mv_in k_L_law 2232 = some (.ireturn, 2233, 1, 0, 0) := by decide +kernel
theorem r_L_law_2233 : mv_in k_L_law 2233 = some (.iload 6, 2235, 0, 0, 0) := by decide +kernel
theorem r_L_law_2235 : mv_in k_L_law 2235 = some (.ifCond .ne 15, 2238, 2250, 0, 0) := by decide +kernel
theorem r_L_law_2238 : mv_in k_L_law 2238 = some (.aload_n 3, 2239, 0, 0, 0) := by decide +kernel
theorem r_L_law_2239 : mv_in k_L_law 2239 = some (.iconst 0, 2240, 0, 0, 0) := by decide +kernel
theorem r_L_law_2240 : mv_in k_L_law 2240 = some (.laload, 2241, 0, 0, 0) := by decide +kernel
theorem r_L_law_2241 : mv_in k_L_law 2241 = some (.iload 7, 2243, 0, 0, 0) := by decide +kernel
theorem r_L_law_2243 : mv_in k_L_law 2243 = some (.i2l, 2244, 0, 0, 0) := by decide +kernel
theorem r_L_law_2244 : mv_in k_L_law 2244 = some (.lcmp, 2245, 0, 0, 0) := by decide +kernel
theorem r_L_law_2245 : mv_in k_L_law 2245 = some (.ifCond .eq 5, 2248, 2250, 0, 0) := by decide +kernel
theorem r_L_law_2248 : mv_in k_L_law 2248 = some (.iconst 0, 2249, 0, 0, 0) := by decide +kernel
theorem r_L_law_2249 : mv_in k_L_law 2249 = some (.ireturn, 2250, 1, 0, 0) := by decide +kernel
theorem r_L_law_2250 : mv_in k_L_law 2250 = some (.goto 296, 2253, 2546, 0, 0) := by decide +kernel
theorem r_L_law_2253 : mv_in k_L_law 2253 = some (.aload_n 1, 2254, 0, 0, 0) := by decide +kernel
theorem r_L_law_2254 : mv_in k_L_law 2254 = some (.aload_n 3, 2255, 0, 0, 0) := by decide +kernel
theorem r_L_law_2255 : mv_in k_L_law 2255 = some (.invokestatic 283, 2258, k_L_run, 2, 1104) := by decide +kernel
theorem r_L_law_2258 : mv_in k_L_law 2258 = some (.istore 6, 2260, 0, 0, 0) := by decide +kernel
theorem r_L_law_2260 : mv_in k_L_law 2260 = some (.aload_n 2, 2261, 0, 0, 0) := by decide +kernel
theorem r_L_law_2261 : mv_in k_L_law 2261 = some (.invokevirtual 285, 2264, k_X11_run, 1, 1601) := by decide +kernel
theorem r_L_law_2264 : mv_in k_L_law 2264 = some (.istore 7, 2266, 0, 0, 0) := by decide +kernel
theorem r_L_law_2266 : mv_in k_L_law 2266 = some (.aload_n 2, 2267, 0, 0, 0) := by decide +kernel
theorem r_L_law_2267 : mv_in k_L_law 2267 = some (.invokevirtual 151, 2270, k_X11_thrown, 1, 1315) := by decide +kernel
theorem r_L_law_2270 : mv_in k_L_law 2270 = some (.iload 6, 2272, 0, 0, 0) := by decide +kernel
theorem r_L_law_2272 : mv_in k_L_law 2272 = some (.if_icmp .eq 5, 2275, 2277, 0, 0) := by decide +kernel
theorem r_L_law_2275 : mv_in k_L_law 2275 = some (.iconst 0, 2276, 0, 0, 0) := by decide +kernel
theorem r_L_law_2276 : mv_in k_L_law 2276 = some (.ireturn, 2277, 1, 0, 0) := by decide +kernel
theorem r_L_law_2277 : mv_in k_L_law 2277 = some (.iload 6, 2279, 0, 0, 0) := by decide +kernel
theorem r_L_law_2279 : mv_in k_L_law 2279 = some (.ifCond .ne 15, 2282, 2294, 0, 0) := by decide +kernel
theorem r_L_law_2282 : mv_in k_L_law 2282 = some (.aload_n 3, 2283, 0, 0, 0) := by decide +kernel
theorem r_L_law_2283 : mv_in k_L_law 2283 = some (.iconst 0, 2284, 0, 0, 0) := by decide +kernel
theorem r_L_law_2284 : mv_in k_L_law 2284 = some (.laload, 2285, 0, 0, 0) := by decide +kernel
theorem r_L_law_2285 : mv_in k_L_law 2285 = some (.iload 7, 2287, 0, 0, 0) := by decide +kernel
theorem r_L_law_2287 : mv_in k_L_law 2287 = some (.i2l, 2288, 0, 0, 0) := by decide +kernel
theorem r_L_law_2288 : mv_in k_L_law 2288 = some (.lcmp, 2289, 0, 0, 0) := by decide +kernel
theorem r_L_law_2289 : mv_in k_L_law 2289 = some (.ifCond .eq 5, 2292, 2294, 0, 0) := by decide +kernel
theorem r_L_law_2292 : mv_in k_L_law 2292 = some (.iconst 0, 2293, 0, 0, 0) := by decide +kernel
theorem r_L_law_2293 : mv_in k_L_law 2293 = some (.ireturn, 2294, 1, 0, 0) := by decide +kernel
theorem r_L_law_2294 : mv_in k_L_law 2294 = some (.goto 252, 2297, 2546, 0, 0) := by decide +kernel
theorem r_L_law_2297 : mv_in k_L_law 2297 = some (.aload_n 1, 2298, 0, 0, 0) := by decide +kernel
theorem r_L_law_2298 : mv_in k_L_law 2298 = some (.aload_n 3, 2299, 0, 0, 0) := by decide +kernel
theorem r_L_law_2299 : mv_in k_L_law 2299 = some (.invokestatic 286, 2302, k_L_errorPosition, 2, 1216) := by decide +kernel
theorem r_L_law_2302 : mv_in k_L_law 2302 = some (.istore 6, 2304, 0, 0, 0) := by decide +kernel
theorem r_L_law_2304 : mv_in k_L_law 2304 = some (.aload_n 2, 2305, 0, 0, 0) := by decide +kernel
theorem r_L_law_2305 : mv_in k_L_law 2305 = some (.invokevirtual 288, 2308, k_X11_errorPosition, 1, 1637) := by decide +kernel
theorem r_L_law_2308 : mv_in k_L_law 2308 = some (.istore 7, 2310, 0, 0, 0) := by decide +kernel
theorem r_L_law_2310 : mv_in k_L_law 2310 = some (.aload_n 2, 2311, 0, 0, 0) := by decide +kernel
theorem r_L_law_2311 : mv_in k_L_law 2311 = some (.invokevirtual 151, 2314, k_X11_thrown, 1, 1315) := by decide +kernel
theorem r_L_law_2314 : mv_in k_L_law 2314 = some (.iload 6, 2316, 0, 0, 0) := by decide +kernel
theorem r_L_law_2316 : mv_in k_L_law 2316 = some (.if_icmp .eq 5, 2319, 2321, 0, 0) := by decide +kernel
theorem r_L_law_2319 : mv_in k_L_law 2319 = some (.iconst 0, 2320, 0, 0, 0) := by decide +kernel
theorem r_L_law_2320 : mv_in k_L_law 2320 = some (.ireturn, 2321, 1, 0, 0) := by decide +kernel
theorem r_L_law_2321 : mv_in k_L_law 2321 = some (.iload 6, 2323, 0, 0, 0) := by decide +kernel
theorem r_L_law_2323 : mv_in k_L_law 2323 = some (.ifCond .ne 15, 2326, 2338, 0, 0) := by decide +kernel
theorem r_L_law_2326 : mv_in k_L_law 2326 = some (.aload_n 3, 2327, 0, 0, 0) := by decide +kernel
theorem r_L_law_2327 : mv_in k_L_law 2327 = some (.iconst 0, 2328, 0, 0, 0) := by decide +kernel
theorem r_L_law_2328 : mv_in k_L_law 2328 = some (.laload, 2329, 0, 0, 0) := by decide +kernel
theorem r_L_law_2329 : mv_in k_L_law 2329 = some (.iload 7, 2331, 0, 0, 0) := by decide +kernel
theorem r_L_law_2331 : mv_in k_L_law 2331 = some (.i2l, 2332, 0, 0, 0) := by decide +kernel
theorem r_L_law_2332 : mv_in k_L_law 2332 = some (.lcmp, 2333, 0, 0, 0) := by decide +kernel
theorem r_L_law_2333 : mv_in k_L_law 2333 = some (.ifCond .eq 5, 2336, 2338, 0, 0) := by decide +kernel
theorem r_L_law_2336 : mv_in k_L_law 2336 = some (.iconst 0, 2337, 0, 0, 0) := by decide +kernel
theorem r_L_law_2337 : mv_in k_L_law 2337 = some (.ireturn, 2338, 1, 0, 0) := by decide +kernel
theorem r_L_law_2338 : mv_in k_L_law 2338 = some (.goto 208, 2341, 2546, 0, 0) := by decide +kernel
theorem r_L_law_2341 : mv_in k_L_law 2341 = some (.aload_n 1, 2342, 0, 0, 0) := by decide +kernel
theorem r_L_law_2342 : mv_in k_L_law 2342 = some (.aload_n 3, 2343, 0, 0, 0) := by decide +kernel
theorem r_L_law_2343 : mv_in k_L_law 2343 = some (.invokestatic 289, 2346, k_L_failedCommand, 2, 1224) := by decide +kernel
theorem r_L_law_2346 : mv_in k_L_law 2346 = some (.istore 6, 2348, 0, 0, 0) := by decide +kernel
theorem r_L_law_2348 : mv_in k_L_law 2348 = some (.aload_n 2, 2349, 0, 0, 0) := by decide +kernel
theorem r_L_law_2349 : mv_in k_L_law 2349 = some (.invokevirtual 291, 2352, k_X11_failedCommand, 1, 1641) := by decide +kernel
theorem r_L_law_2352 : mv_in k_L_law 2352 = some (.istore 7, 2354, 0, 0, 0) := by decide +kernel
theorem r_L_law_2354 : mv_in k_L_law 2354 = some (.aload_n 2, 2355, 0, 0, 0) := by decide +kernel
theorem r_L_law_2355 : mv_in k_L_law 2355 = some (.invokevirtual 151, 2358, k_X11_thrown, 1, 1315) := by decide +kernel
theorem r_L_law_2358 : mv_in k_L_law 2358 = some (.iload 6, 2360, 0, 0, 0) := by decide +kernel
theorem r_L_law_2360 : mv_in k_L_law 2360 = some (.if_icmp .eq 5, 2363, 2365, 0, 0) := by decide +kernel
theorem r_L_law_2363 : mv_in k_L_law 2363 = some (.iconst 0, 2364, 0, 0, 0) := by decide +kernel
theorem r_L_law_2364 : mv_in k_L_law 2364 = some (.ireturn, 2365, 1, 0, 0) := by decide +kernel
theorem r_L_law_2365 : mv_in k_L_law 2365 = some (.iload 6, 2367, 0, 0, 0) := by decide +kernel
theorem r_L_law_2367 : mv_in k_L_law 2367 = some (.ifCond .ne 15, 2370, 2382, 0, 0) := by decide +kernel
theorem r_L_law_2370 : mv_in k_L_law 2370 = some (.aload_n 3, 2371, 0, 0, 0) := by decide +kernel
theorem r_L_law_2371 : mv_in k_L_law 2371 = some (.iconst 0, 2372, 0, 0, 0) := by decide +kernel
theorem r_L_law_2372 : mv_in k_L_law 2372 = some (.laload, 2373, 0, 0, 0) := by decide +kernel
theorem r_L_law_2373 : mv_in k_L_law 2373 = some (.iload 7, 2375, 0, 0, 0) := by decide +kernel
theorem r_L_law_2375 : mv_in k_L_law 2375 = some (.i2l, 2376, 0, 0, 0) := by decide +kernel
theorem r_L_law_2376 : mv_in k_L_law 2376 = some (.lcmp, 2377, 0, 0, 0) := by decide +kernel
theorem r_L_law_2377 : mv_in k_L_law 2377 = some (.ifCond .eq 5, 2380, 2382, 0, 0) := by decide +kernel
theorem r_L_law_2380 : mv_in k_L_law 2380 = some (.iconst 0, 2381, 0, 0, 0) := by decide +kernel
theorem r_L_law_2381 : mv_in k_L_law 2381 = some (.ireturn, 2382, 1, 0, 0) := by decide +kernel
theorem r_L_law_2382 : mv_in k_L_law 2382 = some (.goto 164, 2385, 2546, 0, 0) := by decide +kernel
theorem r_L_law_2385 : mv_in k_L_law 2385 = some (.aload_n 1, 2386, 0, 0, 0) := by decide +kernel
theorem r_L_law_2386 : mv_in k_L_law 2386 = some (.invokevirtual 292, 2389, k_X10_writeChain, 1, 744) := by decide +kernel
theorem r_L_law_2389 : mv_in k_L_law 2389 = some (.aload_n 2, 2390, 0, 0, 0) := by decide +kernel
theorem r_L_law_2390 : mv_in k_L_law 2390 = some (.invokevirtual 295, 2393, k_X11_writeChain, 1, 1645) := by decide +kernel
theorem r_L_law_2393 : mv_in k_L_law 2393 = some (.if_icmp .eq 153, 2396, 2546, 0, 0) := by decide +kernel
theorem r_L_law_2396 : mv_in k_L_law 2396 = some (.iconst 0, 2397, 0, 0, 0) := by decide +kernel
theorem r_L_law_2397 : mv_in k_L_law 2397 = some (.ireturn, 2398, 1, 0, 0) := by decide +kernel
theorem r_L_law_2398 : mv_in k_L_law 2398 = some (.aload_n 1, 2399, 0, 0, 0) := by decide +kernel
theorem r_L_law_2399 : mv_in k_L_law 2399 = some (.invokevirtual 296, 2402, k_X10_writeForecast, 1, 765) := by decide +kernel
theorem r_L_law_2402 : mv_in k_L_law 2402 = some (.aload_n 2, 2403, 0, 0, 0) := by decide +kernel
theorem r_L_law_2403 : mv_in k_L_law 2403 = some (.invokevirtual 299, 2406, k_X11_writeForecast, 1, 1661) := by decide +kernel
theorem r_L_law_2406 : mv_in k_L_law 2406 = some (.if_icmp .eq 140, 2409, 2546, 0, 0) := by decide +kernel
theorem r_L_law_2409 : mv_in k_L_law 2409 = some (.iconst 0, 2410, 0, 0, 0) := by decide +kernel
theorem r_L_law_2410 : mv_in k_L_law 2410 = some (.ireturn, 2411, 1, 0, 0) := by decide +kernel
theorem r_L_law_2411 : mv_in k_L_law 2411 = some (.aload_n 1, 2412, 0, 0, 0) := by decide +kernel
theorem r_L_law_2412 : mv_in k_L_law 2412 = some (.aload_n 0, 2413, 0, 0, 0) := by decide +kernel
theorem r_L_law_2413 : mv_in k_L_law 2413 = some (.iload 5, 2415, 0, 0, 0) := by decide +kernel
theorem r_L_law_2415 : mv_in k_L_law 2415 = some (.iconst 1, 2416, 0, 0, 0) := by decide +kernel
theorem r_L_law_2416 : mv_in k_L_law 2416 = some (.iadd, 2417, 0, 0, 0) := by decide +kernel
theorem r_L_law_2417 : mv_in k_L_law 2417 = some (.iaload, 2418, 0, 0, 0) := by decide +kernel
theorem r_L_law_2418 : mv_in k_L_law 2418 = some (.aload_n 3, 2419, 0, 0, 0) := by decide +kernel
theorem r_L_law_2419 : mv_in k_L_law 2419 = some (.invokestatic 300, 2422, k_L_outputAt, 3, 1232) := by decide +kernel
theorem r_L_law_2422 : mv_in k_L_law 2422 = some (.istore 6, 2424, 0, 0, 0) := by decide +kernel
theorem r_L_law_2424 : mv_in k_L_law 2424 = some (.aload_n 2, 2425, 0, 0, 0) := by decide +kernel
theorem r_L_law_2425 : mv_in k_L_law 2425 = some (.aload_n 0, 2426, 0, 0, 0) := by decide +kernel
theorem r_L_law_2426 : mv_in k_L_law 2426 = some (.iload 5, 2428, 0, 0, 0) := by decide +kernel
theorem r_L_law_2428 : mv_in k_L_law 2428 = some (.iconst 1, 2429, 0, 0, 0) := by decide +kernel
theorem r_L_law_2429 : mv_in k_L_law 2429 = some (.iadd, 2430, 0, 0, 0) := by decide +kernel
theorem r_L_law_2430 : mv_in k_L_law 2430 = some (.iaload, 2431, 0, 0, 0) := by decide +kernel
theorem r_L_law_2431 : mv_in k_L_law 2431 = some (.invokevirtual 302, 2434, k_X11_outputAt, 2, 1665) := by decide +kernel
theorem r_L_law_2434 : mv_in k_L_law 2434 = some (.istore 7, 2436, 0, 0, 0) := by decide +kernel
theorem r_L_law_2436 : mv_in k_L_law 2436 = some (.aload_n 2, 2437, 0, 0, 0) := by decide +kernel
theorem r_L_law_2437 : mv_in k_L_law 2437 = some (.invokevirtual 151, 2440, k_X11_thrown, 1, 1315) := by decide +kernel
theorem r_L_law_2440 : mv_in k_L_law 2440 = some (.iload 6, 2442, 0, 0, 0) := by decide +kernel
theorem r_L_law_2442 : mv_in k_L_law 2442 = some (.if_icmp .eq 5, 2445, 2447, 0, 0) := by decide +kernel
theorem r_L_law_2445 : mv_in k_L_law 2445 = some (.iconst 0, 2446, 0, 0, 0) := by decide +kernel
theorem r_L_law_2446 : mv_in k_L_law 2446 = some (.ireturn, 2447, 1, 0, 0) := by decide +kernel
theorem r_L_law_2447 : mv_in k_L_law 2447 = some (.iload 6, 2449, 0, 0, 0) := by decide +kernel
theorem r_L_law_2449 : mv_in k_L_law 2449 = some (.ifCond .ne 15, 2452, 2464, 0, 0) := by decide +kernel
theorem r_L_law_2452 : mv_in k_L_law 2452 = some (.aload_n 3, 2453, 0, 0, 0) := by decide +kernel
theorem r_L_law_2453 : mv_in k_L_law 2453 = some (.iconst 0, 2454, 0, 0, 0) := by decide +kernel
theorem r_L_law_2454 : mv_in k_L_law 2454 = some (.laload, 2455, 0, 0, 0) := by decide +kernel
theorem r_L_law_2455 : mv_in k_L_law 2455 = some (.iload 7, 2457, 0, 0, 0) := by decide +kernel
theorem r_L_law_2457 : mv_in k_L_law 2457 = some (.i2l, 2458, 0, 0, 0) := by decide +kernel
theorem r_L_law_2458 : mv_in k_L_law 2458 = some (.lcmp, 2459, 0, 0, 0) := by decide +kernel
theorem r_L_law_2459 : mv_in k_L_law 2459 = some (.ifCond .eq 5, 2462, 2464, 0, 0) := by decide +kernel
theorem r_L_law_2462 : mv_in k_L_law 2462 = some (.iconst 0, 2463, 0, 0, 0) := by decide +kernel
theorem r_L_law_2463 : mv_in k_L_law 2463 = some (.ireturn, 2464, 1, 0, 0) := by decide +kernel
theorem r_L_law_2464 : mv_in k_L_law 2464 = some (.goto 82, 2467, 2546, 0, 0) := by decide +kernel
theorem r_L_law_2467 : mv_in k_L_law 2467 = some (.aload_n 1, 2468, 0, 0, 0) := by decide +kernel
theorem r_L_law_2468 : mv_in k_L_law 2468 = some (.aload_n 3, 2469, 0, 0, 0) := by decide +kernel
theorem r_L_law_2469 : mv_in k_L_law 2469 = some (.invokestatic 303, 2472, k_L_undo, 2, 1240) := by decide +kernel
theorem r_L_law_2472 : mv_in k_L_law 2472 = some (.istore 6, 2474, 0, 0, 0) := by decide +kernel
theorem r_L_law_2474 : mv_in k_L_law 2474 = some (.aload_n 2, 2475, 0, 0, 0) := by decide +kernel
theorem r_L_law_2475 : mv_in k_L_law 2475 = some (.invokevirtual 305, 2478, k_X11_undo, 1, 1669) := by decide +kernel
theorem r_L_law_2478 : mv_in k_L_law 2478 = some (.istore 7, 2480, 0, 0, 0) := by decide +kernel
theorem r_L_law_2480 : mv_in k_L_law 2480 = some (.aload_n 2, 2481, 0, 0, 0) := by decide +kernel
theorem r_L_law_2481 : mv_in k_L_law 2481 = some (.invokevirtual 151, 2484, k_X11_thrown, 1, 1315) := by decide +kernel
theorem r_L_law_2484 : mv_in k_L_law 2484 = some (.iload 6, 2486, 0, 0, 0) := by decide +kernel
theorem r_L_law_2486 : mv_in k_L_law 2486 = some (.if_icmp .eq 5, 2489, 2491, 0, 0) := by decide +kernel
theorem r_L_law_2489 : mv_in k_L_law 2489 = some (.iconst 0, 2490, 0, 0, 0) := by decide +kernel
theorem r_L_law_2490 : mv_in k_L_law 2490 = some (.ireturn, 2491, 1, 0, 0) := by decide +kernel
theorem r_L_law_2491 : mv_in k_L_law 2491 = some (.iload 6, 2493, 0, 0, 0) := by decide +kernel
theorem r_L_law_2493 : mv_in k_L_law 2493 = some (.ifCond .ne 15, 2496, 2508, 0, 0) := by decide +kernel
theorem r_L_law_2496 : mv_in k_L_law 2496 = some (.aload_n 3, 2497, 0, 0, 0) := by decide +kernel
theorem r_L_law_2497 : mv_in k_L_law 2497 = some (.iconst 0, 2498, 0, 0, 0) := by decide +kernel
theorem r_L_law_2498 : mv_in k_L_law 2498 = some (.laload, 2499, 0, 0, 0) := by decide +kernel
theorem r_L_law_2499 : mv_in k_L_law 2499 = some (.iload 7, 2501, 0, 0, 0) := by decide +kernel
theorem r_L_law_2501 : mv_in k_L_law 2501 = some (.i2l, 2502, 0, 0, 0) := by decide +kernel
theorem r_L_law_2502 : mv_in k_L_law 2502 = some (.lcmp, 2503, 0, 0, 0) := by decide +kernel
theorem r_L_law_2503 : mv_in k_L_law 2503 = some (.ifCond .eq 5, 2506, 2508, 0, 0) := by decide +kernel
theorem r_L_law_2506 : mv_in k_L_law 2506 = some (.iconst 0, 2507, 0, 0, 0) := by decide +kernel
theorem r_L_law_2507 : mv_in k_L_law 2507 = some (.ireturn, 2508, 1, 0, 0) := by decide +kernel
theorem r_L_law_2508 : mv_in k_L_law 2508 = some (.goto 38, 2511, 2546, 0, 0) := by decide +kernel
theorem r_L_law_2511 : mv_in k_L_law 2511 = some (.aload_n 1, 2512, 0, 0, 0) := by decide +kernel
theorem r_L_law_2512 : mv_in k_L_law 2512 = some (.invokevirtual 306, 2515, k_X10_save, 1, 769) := by decide +kernel
theorem r_L_law_2515 : mv_in k_L_law 2515 = some (.aload_n 2, 2516, 0, 0, 0) := by decide +kernel
theorem r_L_law_2516 : mv_in k_L_law 2516 = some (.invokevirtual 309, 2519, k_X11_save, 1, 1673) := by decide +kernel
theorem r_L_law_2519 : mv_in k_L_law 2519 = some (.goto 27, 2522, 2546, 0, 0) := by decide +kernel
theorem r_L_law_2522 : mv_in k_L_law 2522 = some (.aload_n 1, 2523, 0, 0, 0) := by decide +kernel
theorem r_L_law_2523 : mv_in k_L_law 2523 = some (.invokestatic 310, 2526, k_L_restore, 1, 1252) := by decide +kernel
theorem r_L_law_2526 : mv_in k_L_law 2526 = some (.istore 6, 2528, 0, 0, 0) := by decide +kernel
theorem r_L_law_2528 : mv_in k_L_law 2528 = some (.aload_n 2, 2529, 0, 0, 0) := by decide +kernel
theorem r_L_law_2529 : mv_in k_L_law 2529 = some (.invokevirtual 313, 2532, k_X11_restore, 1, 1677) := by decide +kernel
theorem r_L_law_2532 : mv_in k_L_law 2532 = some (.aload_n 2, 2533, 0, 0, 0) := by decide +kernel
theorem r_L_law_2533 : mv_in k_L_law 2533 = some (.invokevirtual 151, 2536, k_X11_thrown, 1, 1315) := by decide +kernel
theorem r_L_law_2536 : mv_in k_L_law 2536 = some (.iload 6, 2538, 0, 0, 0) := by decide +kernel
theorem r_L_law_2538 : mv_in k_L_law 2538 = some (.if_icmp .eq 5, 2541, 2543, 0, 0) := by decide +kernel
theorem r_L_law_2541 : mv_in k_L_law 2541 = some (.iconst 0, 2542, 0, 0, 0) := by decide +kernel
theorem r_L_law_2542 : mv_in k_L_law 2542 = some (.ireturn, 2543, 1, 0, 0) := by decide +kernel
theorem r_L_law_2543 : mv_in k_L_law 2543 = some (.goto 3, 2546, 2546, 0, 0) := by decide +kernel
theorem r_L_law_2546 : mv_in k_L_law 2546 = some (.iinc 5 4, 2549, 0, 0, 0) := by decide +kernel
theorem r_L_law_2549 : mv_in k_L_law 2549 = some (.goto (-2521), 2552, 28, 0, 0) := by decide +kernel
theorem r_L_law_2552 : mv_in k_L_law 2552 = some (.iconst 1, 2553, 0, 0, 0) := by decide +kernel
theorem r_L_law_2553 : mv_in k_L_law 2553 = some (.ireturn, 2554, 1, 0, 0) := by decide +kernel

