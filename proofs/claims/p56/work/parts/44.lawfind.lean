/-! ===== rows of the law, found ===== -/
theorem lr_18 : x_row (x_rws M_law) 18 = some (18, .iload_n 3, 1, 0, 0, 0) := by decide +kernel
theorem lr_19 : x_row (x_rws M_law) 19 = some (19, .aload_n 0, 1, 0, 0, 0) := by decide +kernel
theorem lr_20 : x_row (x_rws M_law) 20 = some (20, .arraylength, 1, 0, 0, 0) := by decide +kernel
theorem lr_21 : x_row (x_rws M_law) 21 = some (21, .bipush 6, 2, 0, 0, 0) := by decide +kernel
theorem lr_23 : x_row (x_rws M_law) 23 = some (23, .isub, 1, 0, 0, 0) := by decide +kernel
theorem lr_27 : x_row (x_rws M_law) 27 = some (27, .aload_n 0, 1, 0, 0, 0) := by decide +kernel
theorem lr_28 : x_row (x_rws M_law) 28 = some (28, .iload_n 3, 1, 0, 0, 0) := by decide +kernel
theorem lr_29 : x_row (x_rws M_law) 29 = some (29, .iaload, 1, 0, 0, 0) := by decide +kernel
theorem lr_30 : x_row (x_rws M_law) 30 = some (30, .bipush 127, 2, 0, 0, 0) := by decide +kernel
theorem lr_32 : x_row (x_rws M_law) 32 = some (32, .iand, 1, 0, 0, 0) := by decide +kernel
theorem lr_33 : x_row (x_rws M_law) 33 = some (33, .tableswitch 2335 0 69 #[295, 358, 381, 394, 417, 450, 483, 506, 519, 552, 575, 588, 621, 654, 687, 710, 743, 776, 809, 832, 855, 878, 911, 944, 967, 1000, 1033, 1056, 1089, 1112, 1135, 1168, 1211, 1234, 1257, 1280, 1303, 1326, 1349, 1382, 1405, 1428, 1441, 1464, 1497, 1520, 1563, 1586, 1609, 1632, 1655, 1688, 1711, 1724, 1737, 1760, 1793, 1826, 1849, 1872, 1905, 1948, 1991, 2034, 2087, 2110, 2133, 2156, 2199, 2272], 295, 0, 0, 0) := by decide +kernel
theorem lr_328 : x_row (x_rws M_law) 328 = some (328, .aload_n 1, 1, 0, 0, 0) := by decide +kernel
theorem lr_329 : x_row (x_rws M_law) 329 = some (329, .aload_n 0, 1, 0, 0, 0) := by decide +kernel
theorem lr_330 : x_row (x_rws M_law) 330 = some (330, .iload_n 3, 1, 0, 0, 0) := by decide +kernel
theorem lr_331 : x_row (x_rws M_law) 331 = some (331, .iconst 1, 1, 0, 0, 0) := by decide +kernel
theorem lr_332 : x_row (x_rws M_law) 332 = some (332, .iadd, 1, 0, 0, 0) := by decide +kernel
theorem lr_333 : x_row (x_rws M_law) 333 = some (333, .iaload, 1, 0, 0, 0) := by decide +kernel
theorem lr_334 : x_row (x_rws M_law) 334 = some (334, .aload_n 0, 1, 0, 0, 0) := by decide +kernel
theorem lr_335 : x_row (x_rws M_law) 335 = some (335, .iload_n 3, 1, 0, 0, 0) := by decide +kernel
theorem lr_336 : x_row (x_rws M_law) 336 = some (336, .iconst 2, 1, 0, 0, 0) := by decide +kernel
theorem lr_337 : x_row (x_rws M_law) 337 = some (337, .iadd, 1, 0, 0, 0) := by decide +kernel
theorem lr_338 : x_row (x_rws M_law) 338 = some (338, .iaload, 1, 0, 0, 0) := by decide +kernel
theorem lr_339 : x_row (x_rws M_law) 339 = some (339, .aload_n 0, 1, 0, 0, 0) := by decide +kernel
theorem lr_340 : x_row (x_rws M_law) 340 = some (340, .iload_n 3, 1, 0, 0, 0) := by decide +kernel
theorem lr_341 : x_row (x_rws M_law) 341 = some (341, .iconst 3, 1, 0, 0, 0) := by decide +kernel
theorem lr_342 : x_row (x_rws M_law) 342 = some (342, .iadd, 1, 0, 0, 0) := by decide +kernel
theorem lr_343 : x_row (x_rws M_law) 343 = some (343, .iaload, 1, 0, 0, 0) := by decide +kernel
theorem lr_344 : x_row (x_rws M_law) 344 = some (344, .aload_n 0, 1, 0, 0, 0) := by decide +kernel
theorem lr_345 : x_row (x_rws M_law) 345 = some (345, .iload_n 3, 1, 0, 0, 0) := by decide +kernel
theorem lr_346 : x_row (x_rws M_law) 346 = some (346, .iconst 4, 1, 0, 0, 0) := by decide +kernel
theorem lr_347 : x_row (x_rws M_law) 347 = some (347, .iadd, 1, 0, 0, 0) := by decide +kernel
theorem lr_348 : x_row (x_rws M_law) 348 = some (348, .iaload, 1, 0, 0, 0) := by decide +kernel
theorem lr_349 : x_row (x_rws M_law) 349 = some (349, .aload_n 0, 1, 0, 0, 0) := by decide +kernel
theorem lr_350 : x_row (x_rws M_law) 350 = some (350, .iload_n 3, 1, 0, 0, 0) := by decide +kernel
theorem lr_351 : x_row (x_rws M_law) 351 = some (351, .iconst 5, 1, 0, 0, 0) := by decide +kernel
theorem lr_352 : x_row (x_rws M_law) 352 = some (352, .iadd, 1, 0, 0, 0) := by decide +kernel
theorem lr_353 : x_row (x_rws M_law) 353 = some (353, .iaload, 1, 0, 0, 0) := by decide +kernel
theorem lr_354 : x_row (x_rws M_law) 354 = some (354, .invokevirtual 13, 3, 112, 5, 0) := by decide +kernel
theorem lr_357 : x_row (x_rws M_law) 357 = some (357, .pop, 1, 0, 0, 0) := by decide +kernel
theorem lr_358 : x_row (x_rws M_law) 358 = some (358, .aload_n 2, 1, 0, 0, 0) := by decide +kernel
theorem lr_359 : x_row (x_rws M_law) 359 = some (359, .aload_n 0, 1, 0, 0, 0) := by decide +kernel
theorem lr_360 : x_row (x_rws M_law) 360 = some (360, .iload_n 3, 1, 0, 0, 0) := by decide +kernel
theorem lr_361 : x_row (x_rws M_law) 361 = some (361, .iconst 1, 1, 0, 0, 0) := by decide +kernel
theorem lr_362 : x_row (x_rws M_law) 362 = some (362, .iadd, 1, 0, 0, 0) := by decide +kernel
theorem lr_363 : x_row (x_rws M_law) 363 = some (363, .iaload, 1, 0, 0, 0) := by decide +kernel
theorem lr_364 : x_row (x_rws M_law) 364 = some (364, .aload_n 0, 1, 0, 0, 0) := by decide +kernel
theorem lr_365 : x_row (x_rws M_law) 365 = some (365, .iload_n 3, 1, 0, 0, 0) := by decide +kernel
theorem lr_366 : x_row (x_rws M_law) 366 = some (366, .iconst 2, 1, 0, 0, 0) := by decide +kernel
theorem lr_367 : x_row (x_rws M_law) 367 = some (367, .iadd, 1, 0, 0, 0) := by decide +kernel
theorem lr_368 : x_row (x_rws M_law) 368 = some (368, .iaload, 1, 0, 0, 0) := by decide +kernel
theorem lr_369 : x_row (x_rws M_law) 369 = some (369, .aload_n 0, 1, 0, 0, 0) := by decide +kernel
theorem lr_370 : x_row (x_rws M_law) 370 = some (370, .iload_n 3, 1, 0, 0, 0) := by decide +kernel
theorem lr_371 : x_row (x_rws M_law) 371 = some (371, .iconst 3, 1, 0, 0, 0) := by decide +kernel
theorem lr_372 : x_row (x_rws M_law) 372 = some (372, .iadd, 1, 0, 0, 0) := by decide +kernel
theorem lr_373 : x_row (x_rws M_law) 373 = some (373, .iaload, 1, 0, 0, 0) := by decide +kernel
theorem lr_374 : x_row (x_rws M_law) 374 = some (374, .aload_n 0, 1, 0, 0, 0) := by decide +kernel
theorem lr_375 : x_row (x_rws M_law) 375 = some (375, .iload_n 3, 1, 0, 0, 0) := by decide +kernel
theorem lr_376 : x_row (x_rws M_law) 376 = some (376, .iconst 4, 1, 0, 0, 0) := by decide +kernel
theorem lr_377 : x_row (x_rws M_law) 377 = some (377, .iadd, 1, 0, 0, 0) := by decide +kernel
theorem lr_378 : x_row (x_rws M_law) 378 = some (378, .iaload, 1, 0, 0, 0) := by decide +kernel
theorem lr_379 : x_row (x_rws M_law) 379 = some (379, .aload_n 0, 1, 0, 0, 0) := by decide +kernel
theorem lr_380 : x_row (x_rws M_law) 380 = some (380, .iload_n 3, 1, 0, 0, 0) := by decide +kernel
theorem lr_381 : x_row (x_rws M_law) 381 = some (381, .iconst 5, 1, 0, 0, 0) := by decide +kernel
theorem lr_382 : x_row (x_rws M_law) 382 = some (382, .iadd, 1, 0, 0, 0) := by decide +kernel
theorem lr_383 : x_row (x_rws M_law) 383 = some (383, .iaload, 1, 0, 0, 0) := by decide +kernel
theorem lr_384 : x_row (x_rws M_law) 384 = some (384, .invokevirtual 17, 3, 208, 5, 0) := by decide +kernel
theorem lr_387 : x_row (x_rws M_law) 387 = some (387, .pop, 1, 0, 0, 0) := by decide +kernel
theorem lr_388 : x_row (x_rws M_law) 388 = some (388, .goto 1980, 3, 0, 0, 0) := by decide +kernel
theorem lr_391 : x_row (x_rws M_law) 391 = some (391, .aload_n 1, 1, 0, 0, 0) := by decide +kernel
theorem lr_392 : x_row (x_rws M_law) 392 = some (392, .aload_n 0, 1, 0, 0, 0) := by decide +kernel
theorem lr_393 : x_row (x_rws M_law) 393 = some (393, .iload_n 3, 1, 0, 0, 0) := by decide +kernel
theorem lr_394 : x_row (x_rws M_law) 394 = some (394, .iconst 1, 1, 0, 0, 0) := by decide +kernel
theorem lr_395 : x_row (x_rws M_law) 395 = some (395, .iadd, 1, 0, 0, 0) := by decide +kernel
theorem lr_396 : x_row (x_rws M_law) 396 = some (396, .iaload, 1, 0, 0, 0) := by decide +kernel
theorem lr_397 : x_row (x_rws M_law) 397 = some (397, .invokevirtual 18, 3, 113, 1, 0) := by decide +kernel
theorem lr_400 : x_row (x_rws M_law) 400 = some (400, .pop, 1, 0, 0, 0) := by decide +kernel
theorem lr_401 : x_row (x_rws M_law) 401 = some (401, .aload_n 2, 1, 0, 0, 0) := by decide +kernel
theorem lr_402 : x_row (x_rws M_law) 402 = some (402, .aload_n 0, 1, 0, 0, 0) := by decide +kernel
theorem lr_403 : x_row (x_rws M_law) 403 = some (403, .iload_n 3, 1, 0, 0, 0) := by decide +kernel
theorem lr_404 : x_row (x_rws M_law) 404 = some (404, .iconst 1, 1, 0, 0, 0) := by decide +kernel
theorem lr_405 : x_row (x_rws M_law) 405 = some (405, .iadd, 1, 0, 0, 0) := by decide +kernel
theorem lr_406 : x_row (x_rws M_law) 406 = some (406, .iaload, 1, 0, 0, 0) := by decide +kernel
theorem lr_407 : x_row (x_rws M_law) 407 = some (407, .invokevirtual 22, 3, 209, 1, 0) := by decide +kernel
theorem lr_410 : x_row (x_rws M_law) 410 = some (410, .pop, 1, 0, 0, 0) := by decide +kernel
theorem lr_411 : x_row (x_rws M_law) 411 = some (411, .goto 1957, 3, 0, 0, 0) := by decide +kernel
theorem lr_414 : x_row (x_rws M_law) 414 = some (414, .aload_n 1, 1, 0, 0, 0) := by decide +kernel
theorem lr_415 : x_row (x_rws M_law) 415 = some (415, .invokevirtual 23, 3, 114, 0, 0) := by decide +kernel
theorem lr_418 : x_row (x_rws M_law) 418 = some (418, .pop, 1, 0, 0, 0) := by decide +kernel
theorem lr_419 : x_row (x_rws M_law) 419 = some (419, .aload_n 2, 1, 0, 0, 0) := by decide +kernel
theorem lr_420 : x_row (x_rws M_law) 420 = some (420, .invokevirtual 27, 3, 232, 0, 0) := by decide +kernel
theorem lr_423 : x_row (x_rws M_law) 423 = some (423, .pop, 1, 0, 0, 0) := by decide +kernel
theorem lr_424 : x_row (x_rws M_law) 424 = some (424, .goto 1944, 3, 0, 0, 0) := by decide +kernel
theorem lr_427 : x_row (x_rws M_law) 427 = some (427, .aload_n 1, 1, 0, 0, 0) := by decide +kernel
theorem lr_428 : x_row (x_rws M_law) 428 = some (428, .aload_n 0, 1, 0, 0, 0) := by decide +kernel
theorem lr_429 : x_row (x_rws M_law) 429 = some (429, .iload_n 3, 1, 0, 0, 0) := by decide +kernel
theorem lr_430 : x_row (x_rws M_law) 430 = some (430, .iconst 1, 1, 0, 0, 0) := by decide +kernel
theorem lr_431 : x_row (x_rws M_law) 431 = some (431, .iadd, 1, 0, 0, 0) := by decide +kernel
theorem lr_432 : x_row (x_rws M_law) 432 = some (432, .iaload, 1, 0, 0, 0) := by decide +kernel
theorem lr_433 : x_row (x_rws M_law) 433 = some (433, .invokevirtual 28, 3, 115, 1, 0) := by decide +kernel
theorem lr_436 : x_row (x_rws M_law) 436 = some (436, .pop, 1, 0, 0, 0) := by decide +kernel
theorem lr_437 : x_row (x_rws M_law) 437 = some (437, .aload_n 2, 1, 0, 0, 0) := by decide +kernel
theorem lr_438 : x_row (x_rws M_law) 438 = some (438, .aload_n 0, 1, 0, 0, 0) := by decide +kernel
theorem lr_439 : x_row (x_rws M_law) 439 = some (439, .iload_n 3, 1, 0, 0, 0) := by decide +kernel
theorem lr_440 : x_row (x_rws M_law) 440 = some (440, .iconst 1, 1, 0, 0, 0) := by decide +kernel
theorem lr_441 : x_row (x_rws M_law) 441 = some (441, .iadd, 1, 0, 0, 0) := by decide +kernel
theorem lr_442 : x_row (x_rws M_law) 442 = some (442, .iaload, 1, 0, 0, 0) := by decide +kernel
theorem lr_443 : x_row (x_rws M_law) 443 = some (443, .invokevirtual 31, 3, 219, 1, 0) := by decide +kernel
theorem lr_446 : x_row (x_rws M_law) 446 = some (446, .pop, 1, 0, 0, 0) := by decide +kernel
theorem lr_447 : x_row (x_rws M_law) 447 = some (447, .goto 1921, 3, 0, 0, 0) := by decide +kernel
theorem lr_450 : x_row (x_rws M_law) 450 = some (450, .aload_n 1, 1, 0, 0, 0) := by decide +kernel
theorem lr_451 : x_row (x_rws M_law) 451 = some (451, .aload_n 0, 1, 0, 0, 0) := by decide +kernel
theorem lr_452 : x_row (x_rws M_law) 452 = some (452, .iload_n 3, 1, 0, 0, 0) := by decide +kernel
theorem lr_453 : x_row (x_rws M_law) 453 = some (453, .iconst 1, 1, 0, 0, 0) := by decide +kernel
theorem lr_454 : x_row (x_rws M_law) 454 = some (454, .iadd, 1, 0, 0, 0) := by decide +kernel
theorem lr_455 : x_row (x_rws M_law) 455 = some (455, .iaload, 1, 0, 0, 0) := by decide +kernel
theorem lr_456 : x_row (x_rws M_law) 456 = some (456, .aload_n 0, 1, 0, 0, 0) := by decide +kernel
theorem lr_457 : x_row (x_rws M_law) 457 = some (457, .iload_n 3, 1, 0, 0, 0) := by decide +kernel
theorem lr_458 : x_row (x_rws M_law) 458 = some (458, .iconst 2, 1, 0, 0, 0) := by decide +kernel
theorem lr_459 : x_row (x_rws M_law) 459 = some (459, .iadd, 1, 0, 0, 0) := by decide +kernel
theorem lr_460 : x_row (x_rws M_law) 460 = some (460, .iaload, 1, 0, 0, 0) := by decide +kernel
theorem lr_461 : x_row (x_rws M_law) 461 = some (461, .invokevirtual 32, 3, 116, 2, 0) := by decide +kernel
theorem lr_464 : x_row (x_rws M_law) 464 = some (464, .pop, 1, 0, 0, 0) := by decide +kernel
theorem lr_465 : x_row (x_rws M_law) 465 = some (465, .aload_n 2, 1, 0, 0, 0) := by decide +kernel
theorem lr_466 : x_row (x_rws M_law) 466 = some (466, .aload_n 0, 1, 0, 0, 0) := by decide +kernel
theorem lr_467 : x_row (x_rws M_law) 467 = some (467, .iload_n 3, 1, 0, 0, 0) := by decide +kernel
theorem lr_468 : x_row (x_rws M_law) 468 = some (468, .iconst 1, 1, 0, 0, 0) := by decide +kernel
theorem lr_469 : x_row (x_rws M_law) 469 = some (469, .iadd, 1, 0, 0, 0) := by decide +kernel
theorem lr_470 : x_row (x_rws M_law) 470 = some (470, .iaload, 1, 0, 0, 0) := by decide +kernel
theorem lr_471 : x_row (x_rws M_law) 471 = some (471, .aload_n 0, 1, 0, 0, 0) := by decide +kernel
theorem lr_472 : x_row (x_rws M_law) 472 = some (472, .iload_n 3, 1, 0, 0, 0) := by decide +kernel
theorem lr_473 : x_row (x_rws M_law) 473 = some (473, .iconst 2, 1, 0, 0, 0) := by decide +kernel
theorem lr_474 : x_row (x_rws M_law) 474 = some (474, .iadd, 1, 0, 0, 0) := by decide +kernel
theorem lr_475 : x_row (x_rws M_law) 475 = some (475, .iaload, 1, 0, 0, 0) := by decide +kernel
theorem lr_476 : x_row (x_rws M_law) 476 = some (476, .invokevirtual 36, 3, 239, 2, 0) := by decide +kernel
theorem lr_479 : x_row (x_rws M_law) 479 = some (479, .pop, 1, 0, 0, 0) := by decide +kernel
theorem lr_480 : x_row (x_rws M_law) 480 = some (480, .goto 1888, 3, 0, 0, 0) := by decide +kernel
theorem lr_483 : x_row (x_rws M_law) 483 = some (483, .aload_n 1, 1, 0, 0, 0) := by decide +kernel
theorem lr_484 : x_row (x_rws M_law) 484 = some (484, .aload_n 0, 1, 0, 0, 0) := by decide +kernel
theorem lr_485 : x_row (x_rws M_law) 485 = some (485, .iload_n 3, 1, 0, 0, 0) := by decide +kernel
theorem lr_486 : x_row (x_rws M_law) 486 = some (486, .iconst 1, 1, 0, 0, 0) := by decide +kernel
theorem lr_487 : x_row (x_rws M_law) 487 = some (487, .iadd, 1, 0, 0, 0) := by decide +kernel
theorem lr_488 : x_row (x_rws M_law) 488 = some (488, .iaload, 1, 0, 0, 0) := by decide +kernel
theorem lr_489 : x_row (x_rws M_law) 489 = some (489, .aload_n 0, 1, 0, 0, 0) := by decide +kernel
theorem lr_490 : x_row (x_rws M_law) 490 = some (490, .iload_n 3, 1, 0, 0, 0) := by decide +kernel
theorem lr_491 : x_row (x_rws M_law) 491 = some (491, .iconst 2, 1, 0, 0, 0) := by decide +kernel
theorem lr_492 : x_row (x_rws M_law) 492 = some (492, .iadd, 1, 0, 0, 0) := by decide +kernel
theorem lr_493 : x_row (x_rws M_law) 493 = some (493, .iaload, 1, 0, 0, 0) := by decide +kernel
theorem lr_494 : x_row (x_rws M_law) 494 = some (494, .invokevirtual 37, 3, 117, 2, 0) := by decide +kernel
theorem lr_497 : x_row (x_rws M_law) 497 = some (497, .pop, 1, 0, 0, 0) := by decide +kernel
theorem lr_498 : x_row (x_rws M_law) 498 = some (498, .aload_n 2, 1, 0, 0, 0) := by decide +kernel
theorem lr_499 : x_row (x_rws M_law) 499 = some (499, .aload_n 0, 1, 0, 0, 0) := by decide +kernel
theorem lr_500 : x_row (x_rws M_law) 500 = some (500, .iload_n 3, 1, 0, 0, 0) := by decide +kernel
theorem lr_501 : x_row (x_rws M_law) 501 = some (501, .iconst 1, 1, 0, 0, 0) := by decide +kernel
theorem lr_502 : x_row (x_rws M_law) 502 = some (502, .iadd, 1, 0, 0, 0) := by decide +kernel
theorem lr_503 : x_row (x_rws M_law) 503 = some (503, .iaload, 1, 0, 0, 0) := by decide +kernel
theorem lr_504 : x_row (x_rws M_law) 504 = some (504, .aload_n 0, 1, 0, 0, 0) := by decide +kernel
theorem lr_505 : x_row (x_rws M_law) 505 = some (505, .iload_n 3, 1, 0, 0, 0) := by decide +kernel
theorem lr_506 : x_row (x_rws M_law) 506 = some (506, .iconst 2, 1, 0, 0, 0) := by decide +kernel
theorem lr_507 : x_row (x_rws M_law) 507 = some (507, .iadd, 1, 0, 0, 0) := by decide +kernel
theorem lr_508 : x_row (x_rws M_law) 508 = some (508, .iaload, 1, 0, 0, 0) := by decide +kernel
theorem lr_509 : x_row (x_rws M_law) 509 = some (509, .invokevirtual 40, 3, 240, 2, 0) := by decide +kernel
theorem lr_512 : x_row (x_rws M_law) 512 = some (512, .pop, 1, 0, 0, 0) := by decide +kernel
theorem lr_513 : x_row (x_rws M_law) 513 = some (513, .goto 1855, 3, 0, 0, 0) := by decide +kernel
theorem lr_516 : x_row (x_rws M_law) 516 = some (516, .aload_n 1, 1, 0, 0, 0) := by decide +kernel
theorem lr_517 : x_row (x_rws M_law) 517 = some (517, .aload_n 0, 1, 0, 0, 0) := by decide +kernel
theorem lr_518 : x_row (x_rws M_law) 518 = some (518, .iload_n 3, 1, 0, 0, 0) := by decide +kernel
theorem lr_519 : x_row (x_rws M_law) 519 = some (519, .iconst 1, 1, 0, 0, 0) := by decide +kernel
theorem lr_520 : x_row (x_rws M_law) 520 = some (520, .iadd, 1, 0, 0, 0) := by decide +kernel
theorem lr_521 : x_row (x_rws M_law) 521 = some (521, .iaload, 1, 0, 0, 0) := by decide +kernel
theorem lr_522 : x_row (x_rws M_law) 522 = some (522, .invokevirtual 41, 3, 118, 1, 0) := by decide +kernel
theorem lr_525 : x_row (x_rws M_law) 525 = some (525, .pop, 1, 0, 0, 0) := by decide +kernel
theorem lr_526 : x_row (x_rws M_law) 526 = some (526, .aload_n 2, 1, 0, 0, 0) := by decide +kernel
theorem lr_527 : x_row (x_rws M_law) 527 = some (527, .aload_n 0, 1, 0, 0, 0) := by decide +kernel
theorem lr_528 : x_row (x_rws M_law) 528 = some (528, .iload_n 3, 1, 0, 0, 0) := by decide +kernel
theorem lr_529 : x_row (x_rws M_law) 529 = some (529, .iconst 1, 1, 0, 0, 0) := by decide +kernel
theorem lr_530 : x_row (x_rws M_law) 530 = some (530, .iadd, 1, 0, 0, 0) := by decide +kernel
theorem lr_531 : x_row (x_rws M_law) 531 = some (531, .iaload, 1, 0, 0, 0) := by decide +kernel
theorem lr_532 : x_row (x_rws M_law) 532 = some (532, .invokevirtual 44, 3, 241, 1, 0) := by decide +kernel
theorem lr_535 : x_row (x_rws M_law) 535 = some (535, .pop, 1, 0, 0, 0) := by decide +kernel
theorem lr_536 : x_row (x_rws M_law) 536 = some (536, .goto 1832, 3, 0, 0, 0) := by decide +kernel
theorem lr_539 : x_row (x_rws M_law) 539 = some (539, .aload_n 1, 1, 0, 0, 0) := by decide +kernel
theorem lr_540 : x_row (x_rws M_law) 540 = some (540, .invokevirtual 45, 3, 120, 0, 0) := by decide +kernel
theorem lr_543 : x_row (x_rws M_law) 543 = some (543, .pop, 1, 0, 0, 0) := by decide +kernel
theorem lr_544 : x_row (x_rws M_law) 544 = some (544, .aload_n 2, 1, 0, 0, 0) := by decide +kernel
theorem lr_545 : x_row (x_rws M_law) 545 = some (545, .invokevirtual 48, 3, 242, 0, 0) := by decide +kernel
theorem lr_548 : x_row (x_rws M_law) 548 = some (548, .pop, 1, 0, 0, 0) := by decide +kernel
theorem lr_549 : x_row (x_rws M_law) 549 = some (549, .goto 1819, 3, 0, 0, 0) := by decide +kernel
theorem lr_552 : x_row (x_rws M_law) 552 = some (552, .aload_n 1, 1, 0, 0, 0) := by decide +kernel
theorem lr_553 : x_row (x_rws M_law) 553 = some (553, .aload_n 0, 1, 0, 0, 0) := by decide +kernel
theorem lr_554 : x_row (x_rws M_law) 554 = some (554, .iload_n 3, 1, 0, 0, 0) := by decide +kernel
theorem lr_555 : x_row (x_rws M_law) 555 = some (555, .iconst 1, 1, 0, 0, 0) := by decide +kernel
theorem lr_556 : x_row (x_rws M_law) 556 = some (556, .iadd, 1, 0, 0, 0) := by decide +kernel
theorem lr_557 : x_row (x_rws M_law) 557 = some (557, .iaload, 1, 0, 0, 0) := by decide +kernel
theorem lr_558 : x_row (x_rws M_law) 558 = some (558, .aload_n 0, 1, 0, 0, 0) := by decide +kernel
theorem lr_559 : x_row (x_rws M_law) 559 = some (559, .iload_n 3, 1, 0, 0, 0) := by decide +kernel
theorem lr_560 : x_row (x_rws M_law) 560 = some (560, .iconst 2, 1, 0, 0, 0) := by decide +kernel
theorem lr_561 : x_row (x_rws M_law) 561 = some (561, .iadd, 1, 0, 0, 0) := by decide +kernel
theorem lr_562 : x_row (x_rws M_law) 562 = some (562, .iaload, 1, 0, 0, 0) := by decide +kernel
theorem lr_563 : x_row (x_rws M_law) 563 = some (563, .invokevirtual 49, 3, 121, 2, 0) := by decide +kernel
theorem lr_566 : x_row (x_rws M_law) 566 = some (566, .pop, 1, 0, 0, 0) := by decide +kernel
theorem lr_567 : x_row (x_rws M_law) 567 = some (567, .aload_n 2, 1, 0, 0, 0) := by decide +kernel
theorem lr_568 : x_row (x_rws M_law) 568 = some (568, .aload_n 0, 1, 0, 0, 0) := by decide +kernel
theorem lr_569 : x_row (x_rws M_law) 569 = some (569, .iload_n 3, 1, 0, 0, 0) := by decide +kernel
theorem lr_570 : x_row (x_rws M_law) 570 = some (570, .iconst 1, 1, 0, 0, 0) := by decide +kernel
theorem lr_571 : x_row (x_rws M_law) 571 = some (571, .iadd, 1, 0, 0, 0) := by decide +kernel
theorem lr_572 : x_row (x_rws M_law) 572 = some (572, .iaload, 1, 0, 0, 0) := by decide +kernel
theorem lr_573 : x_row (x_rws M_law) 573 = some (573, .aload_n 0, 1, 0, 0, 0) := by decide +kernel
theorem lr_574 : x_row (x_rws M_law) 574 = some (574, .iload_n 3, 1, 0, 0, 0) := by decide +kernel
theorem lr_575 : x_row (x_rws M_law) 575 = some (575, .iconst 2, 1, 0, 0, 0) := by decide +kernel
theorem lr_576 : x_row (x_rws M_law) 576 = some (576, .iadd, 1, 0, 0, 0) := by decide +kernel
theorem lr_577 : x_row (x_rws M_law) 577 = some (577, .iaload, 1, 0, 0, 0) := by decide +kernel
theorem lr_578 : x_row (x_rws M_law) 578 = some (578, .invokevirtual 52, 3, 244, 2, 0) := by decide +kernel
theorem lr_581 : x_row (x_rws M_law) 581 = some (581, .pop, 1, 0, 0, 0) := by decide +kernel
theorem lr_582 : x_row (x_rws M_law) 582 = some (582, .goto 1786, 3, 0, 0, 0) := by decide +kernel
theorem lr_585 : x_row (x_rws M_law) 585 = some (585, .aload_n 1, 1, 0, 0, 0) := by decide +kernel
theorem lr_586 : x_row (x_rws M_law) 586 = some (586, .aload_n 0, 1, 0, 0, 0) := by decide +kernel
theorem lr_587 : x_row (x_rws M_law) 587 = some (587, .iload_n 3, 1, 0, 0, 0) := by decide +kernel
theorem lr_588 : x_row (x_rws M_law) 588 = some (588, .iconst 1, 1, 0, 0, 0) := by decide +kernel
theorem lr_589 : x_row (x_rws M_law) 589 = some (589, .iadd, 1, 0, 0, 0) := by decide +kernel
theorem lr_590 : x_row (x_rws M_law) 590 = some (590, .iaload, 1, 0, 0, 0) := by decide +kernel
theorem lr_591 : x_row (x_rws M_law) 591 = some (591, .invokevirtual 53, 3, 122, 1, 0) := by decide +kernel
theorem lr_594 : x_row (x_rws M_law) 594 = some (594, .pop, 1, 0, 0, 0) := by decide +kernel
theorem lr_595 : x_row (x_rws M_law) 595 = some (595, .aload_n 2, 1, 0, 0, 0) := by decide +kernel
theorem lr_596 : x_row (x_rws M_law) 596 = some (596, .aload_n 0, 1, 0, 0, 0) := by decide +kernel
theorem lr_597 : x_row (x_rws M_law) 597 = some (597, .iload_n 3, 1, 0, 0, 0) := by decide +kernel
theorem lr_598 : x_row (x_rws M_law) 598 = some (598, .iconst 1, 1, 0, 0, 0) := by decide +kernel
theorem lr_599 : x_row (x_rws M_law) 599 = some (599, .iadd, 1, 0, 0, 0) := by decide +kernel
theorem lr_600 : x_row (x_rws M_law) 600 = some (600, .iaload, 1, 0, 0, 0) := by decide +kernel
theorem lr_601 : x_row (x_rws M_law) 601 = some (601, .invokevirtual 56, 3, 246, 1, 0) := by decide +kernel
theorem lr_604 : x_row (x_rws M_law) 604 = some (604, .pop, 1, 0, 0, 0) := by decide +kernel
theorem lr_605 : x_row (x_rws M_law) 605 = some (605, .goto 1763, 3, 0, 0, 0) := by decide +kernel
theorem lr_608 : x_row (x_rws M_law) 608 = some (608, .aload_n 1, 1, 0, 0, 0) := by decide +kernel
theorem lr_609 : x_row (x_rws M_law) 609 = some (609, .invokevirtual 57, 3, 123, 0, 0) := by decide +kernel
theorem lr_612 : x_row (x_rws M_law) 612 = some (612, .pop, 1, 0, 0, 0) := by decide +kernel
theorem lr_613 : x_row (x_rws M_law) 613 = some (613, .aload_n 2, 1, 0, 0, 0) := by decide +kernel
theorem lr_614 : x_row (x_rws M_law) 614 = some (614, .invokevirtual 60, 3, 247, 0, 0) := by decide +kernel
theorem lr_617 : x_row (x_rws M_law) 617 = some (617, .pop, 1, 0, 0, 0) := by decide +kernel
theorem lr_618 : x_row (x_rws M_law) 618 = some (618, .goto 1750, 3, 0, 0, 0) := by decide +kernel
theorem lr_621 : x_row (x_rws M_law) 621 = some (621, .aload_n 1, 1, 0, 0, 0) := by decide +kernel
theorem lr_622 : x_row (x_rws M_law) 622 = some (622, .aload_n 0, 1, 0, 0, 0) := by decide +kernel
theorem lr_623 : x_row (x_rws M_law) 623 = some (623, .iload_n 3, 1, 0, 0, 0) := by decide +kernel
theorem lr_624 : x_row (x_rws M_law) 624 = some (624, .iconst 1, 1, 0, 0, 0) := by decide +kernel
theorem lr_625 : x_row (x_rws M_law) 625 = some (625, .iadd, 1, 0, 0, 0) := by decide +kernel
theorem lr_626 : x_row (x_rws M_law) 626 = some (626, .iaload, 1, 0, 0, 0) := by decide +kernel
theorem lr_627 : x_row (x_rws M_law) 627 = some (627, .aload_n 0, 1, 0, 0, 0) := by decide +kernel
theorem lr_628 : x_row (x_rws M_law) 628 = some (628, .iload_n 3, 1, 0, 0, 0) := by decide +kernel
theorem lr_629 : x_row (x_rws M_law) 629 = some (629, .iconst 2, 1, 0, 0, 0) := by decide +kernel
theorem lr_630 : x_row (x_rws M_law) 630 = some (630, .iadd, 1, 0, 0, 0) := by decide +kernel
theorem lr_631 : x_row (x_rws M_law) 631 = some (631, .iaload, 1, 0, 0, 0) := by decide +kernel
theorem lr_632 : x_row (x_rws M_law) 632 = some (632, .invokevirtual 61, 3, 124, 2, 0) := by decide +kernel
theorem lr_635 : x_row (x_rws M_law) 635 = some (635, .pop, 1, 0, 0, 0) := by decide +kernel
theorem lr_636 : x_row (x_rws M_law) 636 = some (636, .aload_n 2, 1, 0, 0, 0) := by decide +kernel
theorem lr_637 : x_row (x_rws M_law) 637 = some (637, .aload_n 0, 1, 0, 0, 0) := by decide +kernel
theorem lr_638 : x_row (x_rws M_law) 638 = some (638, .iload_n 3, 1, 0, 0, 0) := by decide +kernel
theorem lr_639 : x_row (x_rws M_law) 639 = some (639, .iconst 1, 1, 0, 0, 0) := by decide +kernel
theorem lr_640 : x_row (x_rws M_law) 640 = some (640, .iadd, 1, 0, 0, 0) := by decide +kernel
theorem lr_641 : x_row (x_rws M_law) 641 = some (641, .iaload, 1, 0, 0, 0) := by decide +kernel
theorem lr_642 : x_row (x_rws M_law) 642 = some (642, .aload_n 0, 1, 0, 0, 0) := by decide +kernel
theorem lr_643 : x_row (x_rws M_law) 643 = some (643, .iload_n 3, 1, 0, 0, 0) := by decide +kernel
theorem lr_644 : x_row (x_rws M_law) 644 = some (644, .iconst 2, 1, 0, 0, 0) := by decide +kernel
theorem lr_645 : x_row (x_rws M_law) 645 = some (645, .iadd, 1, 0, 0, 0) := by decide +kernel
theorem lr_646 : x_row (x_rws M_law) 646 = some (646, .iaload, 1, 0, 0, 0) := by decide +kernel
theorem lr_647 : x_row (x_rws M_law) 647 = some (647, .invokevirtual 64, 3, 249, 2, 0) := by decide +kernel
theorem lr_650 : x_row (x_rws M_law) 650 = some (650, .pop, 1, 0, 0, 0) := by decide +kernel
theorem lr_651 : x_row (x_rws M_law) 651 = some (651, .goto 1717, 3, 0, 0, 0) := by decide +kernel
theorem lr_654 : x_row (x_rws M_law) 654 = some (654, .aload_n 1, 1, 0, 0, 0) := by decide +kernel
theorem lr_655 : x_row (x_rws M_law) 655 = some (655, .aload_n 0, 1, 0, 0, 0) := by decide +kernel
theorem lr_656 : x_row (x_rws M_law) 656 = some (656, .iload_n 3, 1, 0, 0, 0) := by decide +kernel
theorem lr_657 : x_row (x_rws M_law) 657 = some (657, .iconst 1, 1, 0, 0, 0) := by decide +kernel
theorem lr_658 : x_row (x_rws M_law) 658 = some (658, .iadd, 1, 0, 0, 0) := by decide +kernel
theorem lr_659 : x_row (x_rws M_law) 659 = some (659, .iaload, 1, 0, 0, 0) := by decide +kernel
theorem lr_660 : x_row (x_rws M_law) 660 = some (660, .aload_n 0, 1, 0, 0, 0) := by decide +kernel
theorem lr_661 : x_row (x_rws M_law) 661 = some (661, .iload_n 3, 1, 0, 0, 0) := by decide +kernel
theorem lr_662 : x_row (x_rws M_law) 662 = some (662, .iconst 2, 1, 0, 0, 0) := by decide +kernel
theorem lr_663 : x_row (x_rws M_law) 663 = some (663, .iadd, 1, 0, 0, 0) := by decide +kernel
theorem lr_664 : x_row (x_rws M_law) 664 = some (664, .iaload, 1, 0, 0, 0) := by decide +kernel
theorem lr_665 : x_row (x_rws M_law) 665 = some (665, .invokevirtual 65, 3, 125, 2, 0) := by decide +kernel
theorem lr_668 : x_row (x_rws M_law) 668 = some (668, .pop, 1, 0, 0, 0) := by decide +kernel
theorem lr_669 : x_row (x_rws M_law) 669 = some (669, .aload_n 2, 1, 0, 0, 0) := by decide +kernel
theorem lr_670 : x_row (x_rws M_law) 670 = some (670, .aload_n 0, 1, 0, 0, 0) := by decide +kernel
theorem lr_671 : x_row (x_rws M_law) 671 = some (671, .iload_n 3, 1, 0, 0, 0) := by decide +kernel
theorem lr_672 : x_row (x_rws M_law) 672 = some (672, .iconst 1, 1, 0, 0, 0) := by decide +kernel
theorem lr_673 : x_row (x_rws M_law) 673 = some (673, .iadd, 1, 0, 0, 0) := by decide +kernel
theorem lr_674 : x_row (x_rws M_law) 674 = some (674, .iaload, 1, 0, 0, 0) := by decide +kernel
theorem lr_675 : x_row (x_rws M_law) 675 = some (675, .aload_n 0, 1, 0, 0, 0) := by decide +kernel
theorem lr_676 : x_row (x_rws M_law) 676 = some (676, .iload_n 3, 1, 0, 0, 0) := by decide +kernel
theorem lr_677 : x_row (x_rws M_law) 677 = some (677, .iconst 2, 1, 0, 0, 0) := by decide +kernel
theorem lr_678 : x_row (x_rws M_law) 678 = some (678, .iadd, 1, 0, 0, 0) := by decide +kernel
theorem lr_679 : x_row (x_rws M_law) 679 = some (679, .iaload, 1, 0, 0, 0) := by decide +kernel
theorem lr_680 : x_row (x_rws M_law) 680 = some (680, .invokevirtual 68, 3, 251, 2, 0) := by decide +kernel
theorem lr_683 : x_row (x_rws M_law) 683 = some (683, .pop, 1, 0, 0, 0) := by decide +kernel
theorem lr_684 : x_row (x_rws M_law) 684 = some (684, .goto 1684, 3, 0, 0, 0) := by decide +kernel
theorem lr_687 : x_row (x_rws M_law) 687 = some (687, .aload_n 1, 1, 0, 0, 0) := by decide +kernel
theorem lr_688 : x_row (x_rws M_law) 688 = some (688, .aload_n 0, 1, 0, 0, 0) := by decide +kernel
theorem lr_689 : x_row (x_rws M_law) 689 = some (689, .iload_n 3, 1, 0, 0, 0) := by decide +kernel
theorem lr_690 : x_row (x_rws M_law) 690 = some (690, .iconst 1, 1, 0, 0, 0) := by decide +kernel
theorem lr_691 : x_row (x_rws M_law) 691 = some (691, .iadd, 1, 0, 0, 0) := by decide +kernel
theorem lr_692 : x_row (x_rws M_law) 692 = some (692, .iaload, 1, 0, 0, 0) := by decide +kernel
theorem lr_693 : x_row (x_rws M_law) 693 = some (693, .aload_n 0, 1, 0, 0, 0) := by decide +kernel
theorem lr_694 : x_row (x_rws M_law) 694 = some (694, .iload_n 3, 1, 0, 0, 0) := by decide +kernel
theorem lr_695 : x_row (x_rws M_law) 695 = some (695, .iconst 2, 1, 0, 0, 0) := by decide +kernel
theorem lr_696 : x_row (x_rws M_law) 696 = some (696, .iadd, 1, 0, 0, 0) := by decide +kernel
theorem lr_697 : x_row (x_rws M_law) 697 = some (697, .iaload, 1, 0, 0, 0) := by decide +kernel
theorem lr_698 : x_row (x_rws M_law) 698 = some (698, .invokevirtual 69, 3, 126, 2, 0) := by decide +kernel
theorem lr_701 : x_row (x_rws M_law) 701 = some (701, .pop, 1, 0, 0, 0) := by decide +kernel
theorem lr_702 : x_row (x_rws M_law) 702 = some (702, .aload_n 2, 1, 0, 0, 0) := by decide +kernel
theorem lr_703 : x_row (x_rws M_law) 703 = some (703, .aload_n 0, 1, 0, 0, 0) := by decide +kernel
theorem lr_704 : x_row (x_rws M_law) 704 = some (704, .iload_n 3, 1, 0, 0, 0) := by decide +kernel
theorem lr_705 : x_row (x_rws M_law) 705 = some (705, .iconst 1, 1, 0, 0, 0) := by decide +kernel
theorem lr_706 : x_row (x_rws M_law) 706 = some (706, .iadd, 1, 0, 0, 0) := by decide +kernel
theorem lr_707 : x_row (x_rws M_law) 707 = some (707, .iaload, 1, 0, 0, 0) := by decide +kernel
theorem lr_708 : x_row (x_rws M_law) 708 = some (708, .aload_n 0, 1, 0, 0, 0) := by decide +kernel
theorem lr_709 : x_row (x_rws M_law) 709 = some (709, .iload_n 3, 1, 0, 0, 0) := by decide +kernel
theorem lr_710 : x_row (x_rws M_law) 710 = some (710, .iconst 2, 1, 0, 0, 0) := by decide +kernel
theorem lr_711 : x_row (x_rws M_law) 711 = some (711, .iadd, 1, 0, 0, 0) := by decide +kernel
theorem lr_712 : x_row (x_rws M_law) 712 = some (712, .iaload, 1, 0, 0, 0) := by decide +kernel
theorem lr_713 : x_row (x_rws M_law) 713 = some (713, .invokevirtual 72, 3, 254, 2, 0) := by decide +kernel
theorem lr_716 : x_row (x_rws M_law) 716 = some (716, .pop, 1, 0, 0, 0) := by decide +kernel
theorem lr_717 : x_row (x_rws M_law) 717 = some (717, .goto 1651, 3, 0, 0, 0) := by decide +kernel
theorem lr_720 : x_row (x_rws M_law) 720 = some (720, .aload_n 1, 1, 0, 0, 0) := by decide +kernel
theorem lr_721 : x_row (x_rws M_law) 721 = some (721, .aload_n 0, 1, 0, 0, 0) := by decide +kernel
theorem lr_722 : x_row (x_rws M_law) 722 = some (722, .iload_n 3, 1, 0, 0, 0) := by decide +kernel
theorem lr_723 : x_row (x_rws M_law) 723 = some (723, .iconst 1, 1, 0, 0, 0) := by decide +kernel
theorem lr_724 : x_row (x_rws M_law) 724 = some (724, .iadd, 1, 0, 0, 0) := by decide +kernel
theorem lr_725 : x_row (x_rws M_law) 725 = some (725, .iaload, 1, 0, 0, 0) := by decide +kernel
theorem lr_726 : x_row (x_rws M_law) 726 = some (726, .invokevirtual 73, 3, 127, 1, 0) := by decide +kernel
theorem lr_729 : x_row (x_rws M_law) 729 = some (729, .pop, 1, 0, 0, 0) := by decide +kernel
theorem lr_730 : x_row (x_rws M_law) 730 = some (730, .aload_n 2, 1, 0, 0, 0) := by decide +kernel
theorem lr_731 : x_row (x_rws M_law) 731 = some (731, .aload_n 0, 1, 0, 0, 0) := by decide +kernel
theorem lr_732 : x_row (x_rws M_law) 732 = some (732, .iload_n 3, 1, 0, 0, 0) := by decide +kernel
theorem lr_733 : x_row (x_rws M_law) 733 = some (733, .iconst 1, 1, 0, 0, 0) := by decide +kernel
theorem lr_734 : x_row (x_rws M_law) 734 = some (734, .iadd, 1, 0, 0, 0) := by decide +kernel
theorem lr_735 : x_row (x_rws M_law) 735 = some (735, .iaload, 1, 0, 0, 0) := by decide +kernel
theorem lr_736 : x_row (x_rws M_law) 736 = some (736, .invokevirtual 76, 3, 260, 1, 0) := by decide +kernel
theorem lr_739 : x_row (x_rws M_law) 739 = some (739, .pop, 1, 0, 0, 0) := by decide +kernel
theorem lr_740 : x_row (x_rws M_law) 740 = some (740, .goto 1628, 3, 0, 0, 0) := by decide +kernel
theorem lr_743 : x_row (x_rws M_law) 743 = some (743, .aload_n 1, 1, 0, 0, 0) := by decide +kernel
theorem lr_744 : x_row (x_rws M_law) 744 = some (744, .aload_n 0, 1, 0, 0, 0) := by decide +kernel
theorem lr_745 : x_row (x_rws M_law) 745 = some (745, .iload_n 3, 1, 0, 0, 0) := by decide +kernel
theorem lr_746 : x_row (x_rws M_law) 746 = some (746, .iconst 1, 1, 0, 0, 0) := by decide +kernel
theorem lr_747 : x_row (x_rws M_law) 747 = some (747, .iadd, 1, 0, 0, 0) := by decide +kernel
theorem lr_748 : x_row (x_rws M_law) 748 = some (748, .iaload, 1, 0, 0, 0) := by decide +kernel
theorem lr_749 : x_row (x_rws M_law) 749 = some (749, .aload_n 0, 1, 0, 0, 0) := by decide +kernel
theorem lr_750 : x_row (x_rws M_law) 750 = some (750, .iload_n 3, 1, 0, 0, 0) := by decide +kernel
theorem lr_751 : x_row (x_rws M_law) 751 = some (751, .iconst 2, 1, 0, 0, 0) := by decide +kernel
theorem lr_752 : x_row (x_rws M_law) 752 = some (752, .iadd, 1, 0, 0, 0) := by decide +kernel
theorem lr_753 : x_row (x_rws M_law) 753 = some (753, .iaload, 1, 0, 0, 0) := by decide +kernel
theorem lr_754 : x_row (x_rws M_law) 754 = some (754, .invokevirtual 77, 3, 128, 2, 0) := by decide +kernel
theorem lr_757 : x_row (x_rws M_law) 757 = some (757, .pop, 1, 0, 0, 0) := by decide +kernel
theorem lr_758 : x_row (x_rws M_law) 758 = some (758, .aload_n 2, 1, 0, 0, 0) := by decide +kernel
theorem lr_759 : x_row (x_rws M_law) 759 = some (759, .aload_n 0, 1, 0, 0, 0) := by decide +kernel
theorem lr_760 : x_row (x_rws M_law) 760 = some (760, .iload_n 3, 1, 0, 0, 0) := by decide +kernel
theorem lr_761 : x_row (x_rws M_law) 761 = some (761, .iconst 1, 1, 0, 0, 0) := by decide +kernel
theorem lr_762 : x_row (x_rws M_law) 762 = some (762, .iadd, 1, 0, 0, 0) := by decide +kernel
theorem lr_763 : x_row (x_rws M_law) 763 = some (763, .iaload, 1, 0, 0, 0) := by decide +kernel
theorem lr_764 : x_row (x_rws M_law) 764 = some (764, .aload_n 0, 1, 0, 0, 0) := by decide +kernel
theorem lr_765 : x_row (x_rws M_law) 765 = some (765, .iload_n 3, 1, 0, 0, 0) := by decide +kernel
theorem lr_766 : x_row (x_rws M_law) 766 = some (766, .iconst 2, 1, 0, 0, 0) := by decide +kernel
theorem lr_767 : x_row (x_rws M_law) 767 = some (767, .iadd, 1, 0, 0, 0) := by decide +kernel
theorem lr_768 : x_row (x_rws M_law) 768 = some (768, .iaload, 1, 0, 0, 0) := by decide +kernel
theorem lr_769 : x_row (x_rws M_law) 769 = some (769, .invokevirtual 80, 3, 261, 2, 0) := by decide +kernel
theorem lr_772 : x_row (x_rws M_law) 772 = some (772, .pop, 1, 0, 0, 0) := by decide +kernel
theorem lr_773 : x_row (x_rws M_law) 773 = some (773, .goto 1595, 3, 0, 0, 0) := by decide +kernel
theorem lr_776 : x_row (x_rws M_law) 776 = some (776, .aload_n 1, 1, 0, 0, 0) := by decide +kernel
theorem lr_777 : x_row (x_rws M_law) 777 = some (777, .aload_n 0, 1, 0, 0, 0) := by decide +kernel
theorem lr_778 : x_row (x_rws M_law) 778 = some (778, .iload_n 3, 1, 0, 0, 0) := by decide +kernel
theorem lr_779 : x_row (x_rws M_law) 779 = some (779, .iconst 1, 1, 0, 0, 0) := by decide +kernel
theorem lr_780 : x_row (x_rws M_law) 780 = some (780, .iadd, 1, 0, 0, 0) := by decide +kernel
theorem lr_781 : x_row (x_rws M_law) 781 = some (781, .iaload, 1, 0, 0, 0) := by decide +kernel
theorem lr_782 : x_row (x_rws M_law) 782 = some (782, .aload_n 0, 1, 0, 0, 0) := by decide +kernel
theorem lr_783 : x_row (x_rws M_law) 783 = some (783, .iload_n 3, 1, 0, 0, 0) := by decide +kernel
theorem lr_784 : x_row (x_rws M_law) 784 = some (784, .iconst 2, 1, 0, 0, 0) := by decide +kernel
theorem lr_785 : x_row (x_rws M_law) 785 = some (785, .iadd, 1, 0, 0, 0) := by decide +kernel
theorem lr_786 : x_row (x_rws M_law) 786 = some (786, .iaload, 1, 0, 0, 0) := by decide +kernel
theorem lr_787 : x_row (x_rws M_law) 787 = some (787, .invokevirtual 81, 3, 129, 2, 0) := by decide +kernel
theorem lr_790 : x_row (x_rws M_law) 790 = some (790, .pop, 1, 0, 0, 0) := by decide +kernel
theorem lr_791 : x_row (x_rws M_law) 791 = some (791, .aload_n 2, 1, 0, 0, 0) := by decide +kernel
theorem lr_792 : x_row (x_rws M_law) 792 = some (792, .aload_n 0, 1, 0, 0, 0) := by decide +kernel
theorem lr_793 : x_row (x_rws M_law) 793 = some (793, .iload_n 3, 1, 0, 0, 0) := by decide +kernel
theorem lr_794 : x_row (x_rws M_law) 794 = some (794, .iconst 1, 1, 0, 0, 0) := by decide +kernel
theorem lr_795 : x_row (x_rws M_law) 795 = some (795, .iadd, 1, 0, 0, 0) := by decide +kernel
theorem lr_796 : x_row (x_rws M_law) 796 = some (796, .iaload, 1, 0, 0, 0) := by decide +kernel
theorem lr_797 : x_row (x_rws M_law) 797 = some (797, .aload_n 0, 1, 0, 0, 0) := by decide +kernel
theorem lr_798 : x_row (x_rws M_law) 798 = some (798, .iload_n 3, 1, 0, 0, 0) := by decide +kernel
theorem lr_799 : x_row (x_rws M_law) 799 = some (799, .iconst 2, 1, 0, 0, 0) := by decide +kernel
theorem lr_800 : x_row (x_rws M_law) 800 = some (800, .iadd, 1, 0, 0, 0) := by decide +kernel
theorem lr_801 : x_row (x_rws M_law) 801 = some (801, .iaload, 1, 0, 0, 0) := by decide +kernel
theorem lr_802 : x_row (x_rws M_law) 802 = some (802, .invokevirtual 84, 3, 262, 2, 0) := by decide +kernel
theorem lr_805 : x_row (x_rws M_law) 805 = some (805, .pop, 1, 0, 0, 0) := by decide +kernel
theorem lr_806 : x_row (x_rws M_law) 806 = some (806, .goto 1562, 3, 0, 0, 0) := by decide +kernel
theorem lr_809 : x_row (x_rws M_law) 809 = some (809, .aload_n 1, 1, 0, 0, 0) := by decide +kernel
theorem lr_810 : x_row (x_rws M_law) 810 = some (810, .aload_n 0, 1, 0, 0, 0) := by decide +kernel
theorem lr_811 : x_row (x_rws M_law) 811 = some (811, .iload_n 3, 1, 0, 0, 0) := by decide +kernel
theorem lr_812 : x_row (x_rws M_law) 812 = some (812, .iconst 1, 1, 0, 0, 0) := by decide +kernel
theorem lr_813 : x_row (x_rws M_law) 813 = some (813, .iadd, 1, 0, 0, 0) := by decide +kernel
theorem lr_814 : x_row (x_rws M_law) 814 = some (814, .iaload, 1, 0, 0, 0) := by decide +kernel
theorem lr_815 : x_row (x_rws M_law) 815 = some (815, .aload_n 0, 1, 0, 0, 0) := by decide +kernel
theorem lr_816 : x_row (x_rws M_law) 816 = some (816, .iload_n 3, 1, 0, 0, 0) := by decide +kernel
theorem lr_817 : x_row (x_rws M_law) 817 = some (817, .iconst 2, 1, 0, 0, 0) := by decide +kernel
theorem lr_818 : x_row (x_rws M_law) 818 = some (818, .iadd, 1, 0, 0, 0) := by decide +kernel
theorem lr_819 : x_row (x_rws M_law) 819 = some (819, .iaload, 1, 0, 0, 0) := by decide +kernel
theorem lr_820 : x_row (x_rws M_law) 820 = some (820, .invokevirtual 85, 3, 130, 2, 0) := by decide +kernel
theorem lr_823 : x_row (x_rws M_law) 823 = some (823, .pop, 1, 0, 0, 0) := by decide +kernel
theorem lr_824 : x_row (x_rws M_law) 824 = some (824, .aload_n 2, 1, 0, 0, 0) := by decide +kernel
theorem lr_825 : x_row (x_rws M_law) 825 = some (825, .aload_n 0, 1, 0, 0, 0) := by decide +kernel
theorem lr_826 : x_row (x_rws M_law) 826 = some (826, .iload_n 3, 1, 0, 0, 0) := by decide +kernel
theorem lr_827 : x_row (x_rws M_law) 827 = some (827, .iconst 1, 1, 0, 0, 0) := by decide +kernel
theorem lr_828 : x_row (x_rws M_law) 828 = some (828, .iadd, 1, 0, 0, 0) := by decide +kernel
theorem lr_829 : x_row (x_rws M_law) 829 = some (829, .iaload, 1, 0, 0, 0) := by decide +kernel
theorem lr_830 : x_row (x_rws M_law) 830 = some (830, .aload_n 0, 1, 0, 0, 0) := by decide +kernel
theorem lr_831 : x_row (x_rws M_law) 831 = some (831, .iload_n 3, 1, 0, 0, 0) := by decide +kernel
theorem lr_832 : x_row (x_rws M_law) 832 = some (832, .iconst 2, 1, 0, 0, 0) := by decide +kernel
theorem lr_833 : x_row (x_rws M_law) 833 = some (833, .iadd, 1, 0, 0, 0) := by decide +kernel
theorem lr_834 : x_row (x_rws M_law) 834 = some (834, .iaload, 1, 0, 0, 0) := by decide +kernel
theorem lr_835 : x_row (x_rws M_law) 835 = some (835, .invokevirtual 88, 3, 263, 2, 0) := by decide +kernel
theorem lr_838 : x_row (x_rws M_law) 838 = some (838, .pop, 1, 0, 0, 0) := by decide +kernel
theorem lr_839 : x_row (x_rws M_law) 839 = some (839, .goto 1529, 3, 0, 0, 0) := by decide +kernel
theorem lr_842 : x_row (x_rws M_law) 842 = some (842, .aload_n 1, 1, 0, 0, 0) := by decide +kernel
theorem lr_843 : x_row (x_rws M_law) 843 = some (843, .aload_n 0, 1, 0, 0, 0) := by decide +kernel
theorem lr_844 : x_row (x_rws M_law) 844 = some (844, .iload_n 3, 1, 0, 0, 0) := by decide +kernel
theorem lr_845 : x_row (x_rws M_law) 845 = some (845, .iconst 1, 1, 0, 0, 0) := by decide +kernel
theorem lr_846 : x_row (x_rws M_law) 846 = some (846, .iadd, 1, 0, 0, 0) := by decide +kernel
theorem lr_847 : x_row (x_rws M_law) 847 = some (847, .iaload, 1, 0, 0, 0) := by decide +kernel
theorem lr_848 : x_row (x_rws M_law) 848 = some (848, .invokevirtual 89, 3, 131, 1, 0) := by decide +kernel
theorem lr_851 : x_row (x_rws M_law) 851 = some (851, .pop, 1, 0, 0, 0) := by decide +kernel
theorem lr_852 : x_row (x_rws M_law) 852 = some (852, .aload_n 2, 1, 0, 0, 0) := by decide +kernel
theorem lr_853 : x_row (x_rws M_law) 853 = some (853, .aload_n 0, 1, 0, 0, 0) := by decide +kernel
theorem lr_854 : x_row (x_rws M_law) 854 = some (854, .iload_n 3, 1, 0, 0, 0) := by decide +kernel
theorem lr_855 : x_row (x_rws M_law) 855 = some (855, .iconst 1, 1, 0, 0, 0) := by decide +kernel
theorem lr_856 : x_row (x_rws M_law) 856 = some (856, .iadd, 1, 0, 0, 0) := by decide +kernel
theorem lr_857 : x_row (x_rws M_law) 857 = some (857, .iaload, 1, 0, 0, 0) := by decide +kernel
theorem lr_858 : x_row (x_rws M_law) 858 = some (858, .invokevirtual 92, 3, 264, 1, 0) := by decide +kernel
theorem lr_861 : x_row (x_rws M_law) 861 = some (861, .pop, 1, 0, 0, 0) := by decide +kernel
theorem lr_862 : x_row (x_rws M_law) 862 = some (862, .goto 1506, 3, 0, 0, 0) := by decide +kernel
theorem lr_865 : x_row (x_rws M_law) 865 = some (865, .aload_n 1, 1, 0, 0, 0) := by decide +kernel
theorem lr_866 : x_row (x_rws M_law) 866 = some (866, .aload_n 0, 1, 0, 0, 0) := by decide +kernel
theorem lr_867 : x_row (x_rws M_law) 867 = some (867, .iload_n 3, 1, 0, 0, 0) := by decide +kernel
theorem lr_868 : x_row (x_rws M_law) 868 = some (868, .iconst 1, 1, 0, 0, 0) := by decide +kernel
theorem lr_869 : x_row (x_rws M_law) 869 = some (869, .iadd, 1, 0, 0, 0) := by decide +kernel
theorem lr_870 : x_row (x_rws M_law) 870 = some (870, .iaload, 1, 0, 0, 0) := by decide +kernel
theorem lr_871 : x_row (x_rws M_law) 871 = some (871, .invokevirtual 93, 3, 132, 1, 0) := by decide +kernel
theorem lr_874 : x_row (x_rws M_law) 874 = some (874, .pop, 1, 0, 0, 0) := by decide +kernel
theorem lr_875 : x_row (x_rws M_law) 875 = some (875, .aload_n 2, 1, 0, 0, 0) := by decide +kernel
theorem lr_876 : x_row (x_rws M_law) 876 = some (876, .aload_n 0, 1, 0, 0, 0) := by decide +kernel
theorem lr_877 : x_row (x_rws M_law) 877 = some (877, .iload_n 3, 1, 0, 0, 0) := by decide +kernel
theorem lr_878 : x_row (x_rws M_law) 878 = some (878, .iconst 1, 1, 0, 0, 0) := by decide +kernel
theorem lr_879 : x_row (x_rws M_law) 879 = some (879, .iadd, 1, 0, 0, 0) := by decide +kernel
theorem lr_880 : x_row (x_rws M_law) 880 = some (880, .iaload, 1, 0, 0, 0) := by decide +kernel
theorem lr_881 : x_row (x_rws M_law) 881 = some (881, .invokevirtual 96, 3, 265, 1, 0) := by decide +kernel
theorem lr_884 : x_row (x_rws M_law) 884 = some (884, .pop, 1, 0, 0, 0) := by decide +kernel
theorem lr_885 : x_row (x_rws M_law) 885 = some (885, .goto 1483, 3, 0, 0, 0) := by decide +kernel
theorem lr_888 : x_row (x_rws M_law) 888 = some (888, .aload_n 1, 1, 0, 0, 0) := by decide +kernel
theorem lr_889 : x_row (x_rws M_law) 889 = some (889, .aload_n 0, 1, 0, 0, 0) := by decide +kernel
theorem lr_890 : x_row (x_rws M_law) 890 = some (890, .iload_n 3, 1, 0, 0, 0) := by decide +kernel
theorem lr_891 : x_row (x_rws M_law) 891 = some (891, .iconst 1, 1, 0, 0, 0) := by decide +kernel
theorem lr_892 : x_row (x_rws M_law) 892 = some (892, .iadd, 1, 0, 0, 0) := by decide +kernel
theorem lr_893 : x_row (x_rws M_law) 893 = some (893, .iaload, 1, 0, 0, 0) := by decide +kernel
theorem lr_894 : x_row (x_rws M_law) 894 = some (894, .invokevirtual 97, 3, 133, 1, 0) := by decide +kernel
theorem lr_897 : x_row (x_rws M_law) 897 = some (897, .pop, 1, 0, 0, 0) := by decide +kernel
theorem lr_898 : x_row (x_rws M_law) 898 = some (898, .aload_n 2, 1, 0, 0, 0) := by decide +kernel
theorem lr_899 : x_row (x_rws M_law) 899 = some (899, .aload_n 0, 1, 0, 0, 0) := by decide +kernel
theorem lr_900 : x_row (x_rws M_law) 900 = some (900, .iload_n 3, 1, 0, 0, 0) := by decide +kernel
theorem lr_901 : x_row (x_rws M_law) 901 = some (901, .iconst 1, 1, 0, 0, 0) := by decide +kernel
theorem lr_902 : x_row (x_rws M_law) 902 = some (902, .iadd, 1, 0, 0, 0) := by decide +kernel
theorem lr_903 : x_row (x_rws M_law) 903 = some (903, .iaload, 1, 0, 0, 0) := by decide +kernel
theorem lr_904 : x_row (x_rws M_law) 904 = some (904, .invokevirtual 100, 3, 271, 1, 0) := by decide +kernel
theorem lr_907 : x_row (x_rws M_law) 907 = some (907, .pop, 1, 0, 0, 0) := by decide +kernel
theorem lr_908 : x_row (x_rws M_law) 908 = some (908, .goto 1460, 3, 0, 0, 0) := by decide +kernel
theorem lr_911 : x_row (x_rws M_law) 911 = some (911, .aload_n 1, 1, 0, 0, 0) := by decide +kernel
theorem lr_912 : x_row (x_rws M_law) 912 = some (912, .aload_n 0, 1, 0, 0, 0) := by decide +kernel
theorem lr_913 : x_row (x_rws M_law) 913 = some (913, .iload_n 3, 1, 0, 0, 0) := by decide +kernel
theorem lr_914 : x_row (x_rws M_law) 914 = some (914, .iconst 1, 1, 0, 0, 0) := by decide +kernel
theorem lr_915 : x_row (x_rws M_law) 915 = some (915, .iadd, 1, 0, 0, 0) := by decide +kernel
theorem lr_916 : x_row (x_rws M_law) 916 = some (916, .iaload, 1, 0, 0, 0) := by decide +kernel
theorem lr_917 : x_row (x_rws M_law) 917 = some (917, .aload_n 0, 1, 0, 0, 0) := by decide +kernel
theorem lr_918 : x_row (x_rws M_law) 918 = some (918, .iload_n 3, 1, 0, 0, 0) := by decide +kernel
theorem lr_919 : x_row (x_rws M_law) 919 = some (919, .iconst 2, 1, 0, 0, 0) := by decide +kernel
theorem lr_920 : x_row (x_rws M_law) 920 = some (920, .iadd, 1, 0, 0, 0) := by decide +kernel
theorem lr_921 : x_row (x_rws M_law) 921 = some (921, .iaload, 1, 0, 0, 0) := by decide +kernel
theorem lr_922 : x_row (x_rws M_law) 922 = some (922, .invokevirtual 101, 3, 134, 2, 0) := by decide +kernel
theorem lr_925 : x_row (x_rws M_law) 925 = some (925, .pop, 1, 0, 0, 0) := by decide +kernel
theorem lr_926 : x_row (x_rws M_law) 926 = some (926, .aload_n 2, 1, 0, 0, 0) := by decide +kernel
theorem lr_927 : x_row (x_rws M_law) 927 = some (927, .aload_n 0, 1, 0, 0, 0) := by decide +kernel
theorem lr_928 : x_row (x_rws M_law) 928 = some (928, .iload_n 3, 1, 0, 0, 0) := by decide +kernel
theorem lr_929 : x_row (x_rws M_law) 929 = some (929, .iconst 1, 1, 0, 0, 0) := by decide +kernel
theorem lr_930 : x_row (x_rws M_law) 930 = some (930, .iadd, 1, 0, 0, 0) := by decide +kernel
theorem lr_931 : x_row (x_rws M_law) 931 = some (931, .iaload, 1, 0, 0, 0) := by decide +kernel
theorem lr_932 : x_row (x_rws M_law) 932 = some (932, .aload_n 0, 1, 0, 0, 0) := by decide +kernel
theorem lr_933 : x_row (x_rws M_law) 933 = some (933, .iload_n 3, 1, 0, 0, 0) := by decide +kernel
theorem lr_934 : x_row (x_rws M_law) 934 = some (934, .iconst 2, 1, 0, 0, 0) := by decide +kernel
theorem lr_935 : x_row (x_rws M_law) 935 = some (935, .iadd, 1, 0, 0, 0) := by decide +kernel
theorem lr_936 : x_row (x_rws M_law) 936 = some (936, .iaload, 1, 0, 0, 0) := by decide +kernel
theorem lr_937 : x_row (x_rws M_law) 937 = some (937, .invokevirtual 104, 3, 272, 2, 0) := by decide +kernel
theorem lr_940 : x_row (x_rws M_law) 940 = some (940, .pop, 1, 0, 0, 0) := by decide +kernel
theorem lr_941 : x_row (x_rws M_law) 941 = some (941, .goto 1427, 3, 0, 0, 0) := by decide +kernel
theorem lr_944 : x_row (x_rws M_law) 944 = some (944, .aload_n 1, 1, 0, 0, 0) := by decide +kernel
theorem lr_945 : x_row (x_rws M_law) 945 = some (945, .aload_n 0, 1, 0, 0, 0) := by decide +kernel
theorem lr_946 : x_row (x_rws M_law) 946 = some (946, .iload_n 3, 1, 0, 0, 0) := by decide +kernel
theorem lr_947 : x_row (x_rws M_law) 947 = some (947, .iconst 1, 1, 0, 0, 0) := by decide +kernel
theorem lr_948 : x_row (x_rws M_law) 948 = some (948, .iadd, 1, 0, 0, 0) := by decide +kernel
theorem lr_949 : x_row (x_rws M_law) 949 = some (949, .iaload, 1, 0, 0, 0) := by decide +kernel
theorem lr_950 : x_row (x_rws M_law) 950 = some (950, .aload_n 0, 1, 0, 0, 0) := by decide +kernel
theorem lr_951 : x_row (x_rws M_law) 951 = some (951, .iload_n 3, 1, 0, 0, 0) := by decide +kernel
theorem lr_952 : x_row (x_rws M_law) 952 = some (952, .iconst 2, 1, 0, 0, 0) := by decide +kernel
theorem lr_953 : x_row (x_rws M_law) 953 = some (953, .iadd, 1, 0, 0, 0) := by decide +kernel
theorem lr_954 : x_row (x_rws M_law) 954 = some (954, .iaload, 1, 0, 0, 0) := by decide +kernel
theorem lr_955 : x_row (x_rws M_law) 955 = some (955, .invokevirtual 105, 3, 135, 2, 0) := by decide +kernel
theorem lr_958 : x_row (x_rws M_law) 958 = some (958, .pop, 1, 0, 0, 0) := by decide +kernel
theorem lr_959 : x_row (x_rws M_law) 959 = some (959, .aload_n 2, 1, 0, 0, 0) := by decide +kernel
theorem lr_960 : x_row (x_rws M_law) 960 = some (960, .aload_n 0, 1, 0, 0, 0) := by decide +kernel
theorem lr_961 : x_row (x_rws M_law) 961 = some (961, .iload_n 3, 1, 0, 0, 0) := by decide +kernel
theorem lr_962 : x_row (x_rws M_law) 962 = some (962, .iconst 1, 1, 0, 0, 0) := by decide +kernel
theorem lr_963 : x_row (x_rws M_law) 963 = some (963, .iadd, 1, 0, 0, 0) := by decide +kernel
theorem lr_964 : x_row (x_rws M_law) 964 = some (964, .iaload, 1, 0, 0, 0) := by decide +kernel
theorem lr_965 : x_row (x_rws M_law) 965 = some (965, .aload_n 0, 1, 0, 0, 0) := by decide +kernel
theorem lr_966 : x_row (x_rws M_law) 966 = some (966, .iload_n 3, 1, 0, 0, 0) := by decide +kernel
theorem lr_967 : x_row (x_rws M_law) 967 = some (967, .iconst 2, 1, 0, 0, 0) := by decide +kernel
theorem lr_968 : x_row (x_rws M_law) 968 = some (968, .iadd, 1, 0, 0, 0) := by decide +kernel
theorem lr_969 : x_row (x_rws M_law) 969 = some (969, .iaload, 1, 0, 0, 0) := by decide +kernel
theorem lr_970 : x_row (x_rws M_law) 970 = some (970, .invokevirtual 108, 3, 274, 2, 0) := by decide +kernel
theorem lr_973 : x_row (x_rws M_law) 973 = some (973, .pop, 1, 0, 0, 0) := by decide +kernel
theorem lr_974 : x_row (x_rws M_law) 974 = some (974, .goto 1394, 3, 0, 0, 0) := by decide +kernel
theorem lr_977 : x_row (x_rws M_law) 977 = some (977, .aload_n 1, 1, 0, 0, 0) := by decide +kernel
theorem lr_978 : x_row (x_rws M_law) 978 = some (978, .aload_n 0, 1, 0, 0, 0) := by decide +kernel
theorem lr_979 : x_row (x_rws M_law) 979 = some (979, .iload_n 3, 1, 0, 0, 0) := by decide +kernel
theorem lr_980 : x_row (x_rws M_law) 980 = some (980, .iconst 1, 1, 0, 0, 0) := by decide +kernel
theorem lr_981 : x_row (x_rws M_law) 981 = some (981, .iadd, 1, 0, 0, 0) := by decide +kernel
theorem lr_982 : x_row (x_rws M_law) 982 = some (982, .iaload, 1, 0, 0, 0) := by decide +kernel
theorem lr_983 : x_row (x_rws M_law) 983 = some (983, .invokevirtual 109, 3, 136, 1, 0) := by decide +kernel
theorem lr_986 : x_row (x_rws M_law) 986 = some (986, .pop, 1, 0, 0, 0) := by decide +kernel
theorem lr_987 : x_row (x_rws M_law) 987 = some (987, .aload_n 2, 1, 0, 0, 0) := by decide +kernel
theorem lr_988 : x_row (x_rws M_law) 988 = some (988, .aload_n 0, 1, 0, 0, 0) := by decide +kernel
theorem lr_989 : x_row (x_rws M_law) 989 = some (989, .iload_n 3, 1, 0, 0, 0) := by decide +kernel
theorem lr_990 : x_row (x_rws M_law) 990 = some (990, .iconst 1, 1, 0, 0, 0) := by decide +kernel
theorem lr_991 : x_row (x_rws M_law) 991 = some (991, .iadd, 1, 0, 0, 0) := by decide +kernel
theorem lr_992 : x_row (x_rws M_law) 992 = some (992, .iaload, 1, 0, 0, 0) := by decide +kernel
theorem lr_993 : x_row (x_rws M_law) 993 = some (993, .invokevirtual 112, 3, 275, 1, 0) := by decide +kernel
theorem lr_996 : x_row (x_rws M_law) 996 = some (996, .pop, 1, 0, 0, 0) := by decide +kernel
theorem lr_997 : x_row (x_rws M_law) 997 = some (997, .goto 1371, 3, 0, 0, 0) := by decide +kernel
theorem lr_1000 : x_row (x_rws M_law) 1000 = some (1000, .aload_n 1, 1, 0, 0, 0) := by decide +kernel
theorem lr_1001 : x_row (x_rws M_law) 1001 = some (1001, .aload_n 0, 1, 0, 0, 0) := by decide +kernel
theorem lr_1002 : x_row (x_rws M_law) 1002 = some (1002, .iload_n 3, 1, 0, 0, 0) := by decide +kernel
theorem lr_1003 : x_row (x_rws M_law) 1003 = some (1003, .iconst 1, 1, 0, 0, 0) := by decide +kernel
theorem lr_1004 : x_row (x_rws M_law) 1004 = some (1004, .iadd, 1, 0, 0, 0) := by decide +kernel
theorem lr_1005 : x_row (x_rws M_law) 1005 = some (1005, .iaload, 1, 0, 0, 0) := by decide +kernel
theorem lr_1006 : x_row (x_rws M_law) 1006 = some (1006, .aload_n 0, 1, 0, 0, 0) := by decide +kernel
theorem lr_1007 : x_row (x_rws M_law) 1007 = some (1007, .iload_n 3, 1, 0, 0, 0) := by decide +kernel
theorem lr_1008 : x_row (x_rws M_law) 1008 = some (1008, .iconst 2, 1, 0, 0, 0) := by decide +kernel
theorem lr_1009 : x_row (x_rws M_law) 1009 = some (1009, .iadd, 1, 0, 0, 0) := by decide +kernel
theorem lr_1010 : x_row (x_rws M_law) 1010 = some (1010, .iaload, 1, 0, 0, 0) := by decide +kernel
theorem lr_1011 : x_row (x_rws M_law) 1011 = some (1011, .invokevirtual 113, 3, 137, 2, 0) := by decide +kernel
theorem lr_1014 : x_row (x_rws M_law) 1014 = some (1014, .pop, 1, 0, 0, 0) := by decide +kernel
theorem lr_1015 : x_row (x_rws M_law) 1015 = some (1015, .aload_n 2, 1, 0, 0, 0) := by decide +kernel
theorem lr_1016 : x_row (x_rws M_law) 1016 = some (1016, .aload_n 0, 1, 0, 0, 0) := by decide +kernel
theorem lr_1017 : x_row (x_rws M_law) 1017 = some (1017, .iload_n 3, 1, 0, 0, 0) := by decide +kernel
theorem lr_1018 : x_row (x_rws M_law) 1018 = some (1018, .iconst 1, 1, 0, 0, 0) := by decide +kernel
theorem lr_1019 : x_row (x_rws M_law) 1019 = some (1019, .iadd, 1, 0, 0, 0) := by decide +kernel
theorem lr_1020 : x_row (x_rws M_law) 1020 = some (1020, .iaload, 1, 0, 0, 0) := by decide +kernel
theorem lr_1021 : x_row (x_rws M_law) 1021 = some (1021, .aload_n 0, 1, 0, 0, 0) := by decide +kernel
theorem lr_1022 : x_row (x_rws M_law) 1022 = some (1022, .iload_n 3, 1, 0, 0, 0) := by decide +kernel
theorem lr_1023 : x_row (x_rws M_law) 1023 = some (1023, .iconst 2, 1, 0, 0, 0) := by decide +kernel
theorem lr_1024 : x_row (x_rws M_law) 1024 = some (1024, .iadd, 1, 0, 0, 0) := by decide +kernel
theorem lr_1025 : x_row (x_rws M_law) 1025 = some (1025, .iaload, 1, 0, 0, 0) := by decide +kernel
theorem lr_1026 : x_row (x_rws M_law) 1026 = some (1026, .invokevirtual 116, 3, 277, 2, 0) := by decide +kernel
theorem lr_1029 : x_row (x_rws M_law) 1029 = some (1029, .pop, 1, 0, 0, 0) := by decide +kernel
theorem lr_1030 : x_row (x_rws M_law) 1030 = some (1030, .goto 1338, 3, 0, 0, 0) := by decide +kernel
theorem lr_1033 : x_row (x_rws M_law) 1033 = some (1033, .aload_n 1, 1, 0, 0, 0) := by decide +kernel
theorem lr_1034 : x_row (x_rws M_law) 1034 = some (1034, .aload_n 0, 1, 0, 0, 0) := by decide +kernel
theorem lr_1035 : x_row (x_rws M_law) 1035 = some (1035, .iload_n 3, 1, 0, 0, 0) := by decide +kernel
theorem lr_1036 : x_row (x_rws M_law) 1036 = some (1036, .iconst 1, 1, 0, 0, 0) := by decide +kernel
theorem lr_1037 : x_row (x_rws M_law) 1037 = some (1037, .iadd, 1, 0, 0, 0) := by decide +kernel
theorem lr_1038 : x_row (x_rws M_law) 1038 = some (1038, .iaload, 1, 0, 0, 0) := by decide +kernel
theorem lr_1039 : x_row (x_rws M_law) 1039 = some (1039, .aload_n 0, 1, 0, 0, 0) := by decide +kernel
theorem lr_1040 : x_row (x_rws M_law) 1040 = some (1040, .iload_n 3, 1, 0, 0, 0) := by decide +kernel
theorem lr_1041 : x_row (x_rws M_law) 1041 = some (1041, .iconst 2, 1, 0, 0, 0) := by decide +kernel
theorem lr_1042 : x_row (x_rws M_law) 1042 = some (1042, .iadd, 1, 0, 0, 0) := by decide +kernel
theorem lr_1043 : x_row (x_rws M_law) 1043 = some (1043, .iaload, 1, 0, 0, 0) := by decide +kernel
theorem lr_1044 : x_row (x_rws M_law) 1044 = some (1044, .invokevirtual 117, 3, 140, 2, 0) := by decide +kernel
theorem lr_1047 : x_row (x_rws M_law) 1047 = some (1047, .pop, 1, 0, 0, 0) := by decide +kernel
theorem lr_1048 : x_row (x_rws M_law) 1048 = some (1048, .aload_n 2, 1, 0, 0, 0) := by decide +kernel
theorem lr_1049 : x_row (x_rws M_law) 1049 = some (1049, .aload_n 0, 1, 0, 0, 0) := by decide +kernel
theorem lr_1050 : x_row (x_rws M_law) 1050 = some (1050, .iload_n 3, 1, 0, 0, 0) := by decide +kernel
theorem lr_1051 : x_row (x_rws M_law) 1051 = some (1051, .iconst 1, 1, 0, 0, 0) := by decide +kernel
theorem lr_1052 : x_row (x_rws M_law) 1052 = some (1052, .iadd, 1, 0, 0, 0) := by decide +kernel
theorem lr_1053 : x_row (x_rws M_law) 1053 = some (1053, .iaload, 1, 0, 0, 0) := by decide +kernel
theorem lr_1054 : x_row (x_rws M_law) 1054 = some (1054, .aload_n 0, 1, 0, 0, 0) := by decide +kernel
theorem lr_1055 : x_row (x_rws M_law) 1055 = some (1055, .iload_n 3, 1, 0, 0, 0) := by decide +kernel
theorem lr_1056 : x_row (x_rws M_law) 1056 = some (1056, .iconst 2, 1, 0, 0, 0) := by decide +kernel
theorem lr_1057 : x_row (x_rws M_law) 1057 = some (1057, .iadd, 1, 0, 0, 0) := by decide +kernel
theorem lr_1058 : x_row (x_rws M_law) 1058 = some (1058, .iaload, 1, 0, 0, 0) := by decide +kernel
theorem lr_1059 : x_row (x_rws M_law) 1059 = some (1059, .invokevirtual 120, 3, 281, 2, 0) := by decide +kernel
theorem lr_1062 : x_row (x_rws M_law) 1062 = some (1062, .pop, 1, 0, 0, 0) := by decide +kernel
theorem lr_1063 : x_row (x_rws M_law) 1063 = some (1063, .goto 1305, 3, 0, 0, 0) := by decide +kernel
theorem lr_1066 : x_row (x_rws M_law) 1066 = some (1066, .aload_n 1, 1, 0, 0, 0) := by decide +kernel
theorem lr_1067 : x_row (x_rws M_law) 1067 = some (1067, .aload_n 0, 1, 0, 0, 0) := by decide +kernel
theorem lr_1068 : x_row (x_rws M_law) 1068 = some (1068, .iload_n 3, 1, 0, 0, 0) := by decide +kernel
theorem lr_1069 : x_row (x_rws M_law) 1069 = some (1069, .iconst 1, 1, 0, 0, 0) := by decide +kernel
theorem lr_1070 : x_row (x_rws M_law) 1070 = some (1070, .iadd, 1, 0, 0, 0) := by decide +kernel
theorem lr_1071 : x_row (x_rws M_law) 1071 = some (1071, .iaload, 1, 0, 0, 0) := by decide +kernel
theorem lr_1072 : x_row (x_rws M_law) 1072 = some (1072, .invokevirtual 121, 3, 141, 1, 0) := by decide +kernel
theorem lr_1075 : x_row (x_rws M_law) 1075 = some (1075, .pop, 1, 0, 0, 0) := by decide +kernel
theorem lr_1076 : x_row (x_rws M_law) 1076 = some (1076, .aload_n 2, 1, 0, 0, 0) := by decide +kernel
theorem lr_1077 : x_row (x_rws M_law) 1077 = some (1077, .aload_n 0, 1, 0, 0, 0) := by decide +kernel
theorem lr_1078 : x_row (x_rws M_law) 1078 = some (1078, .iload_n 3, 1, 0, 0, 0) := by decide +kernel
theorem lr_1079 : x_row (x_rws M_law) 1079 = some (1079, .iconst 1, 1, 0, 0, 0) := by decide +kernel
theorem lr_1080 : x_row (x_rws M_law) 1080 = some (1080, .iadd, 1, 0, 0, 0) := by decide +kernel
theorem lr_1081 : x_row (x_rws M_law) 1081 = some (1081, .iaload, 1, 0, 0, 0) := by decide +kernel
theorem lr_1082 : x_row (x_rws M_law) 1082 = some (1082, .invokevirtual 124, 3, 282, 1, 0) := by decide +kernel
theorem lr_1085 : x_row (x_rws M_law) 1085 = some (1085, .pop, 1, 0, 0, 0) := by decide +kernel
theorem lr_1086 : x_row (x_rws M_law) 1086 = some (1086, .goto 1282, 3, 0, 0, 0) := by decide +kernel
theorem lr_1089 : x_row (x_rws M_law) 1089 = some (1089, .aload_n 1, 1, 0, 0, 0) := by decide +kernel
theorem lr_1090 : x_row (x_rws M_law) 1090 = some (1090, .aload_n 0, 1, 0, 0, 0) := by decide +kernel
theorem lr_1091 : x_row (x_rws M_law) 1091 = some (1091, .iload_n 3, 1, 0, 0, 0) := by decide +kernel
theorem lr_1092 : x_row (x_rws M_law) 1092 = some (1092, .iconst 1, 1, 0, 0, 0) := by decide +kernel
theorem lr_1093 : x_row (x_rws M_law) 1093 = some (1093, .iadd, 1, 0, 0, 0) := by decide +kernel
theorem lr_1094 : x_row (x_rws M_law) 1094 = some (1094, .iaload, 1, 0, 0, 0) := by decide +kernel
theorem lr_1095 : x_row (x_rws M_law) 1095 = some (1095, .aload_n 0, 1, 0, 0, 0) := by decide +kernel
theorem lr_1096 : x_row (x_rws M_law) 1096 = some (1096, .iload_n 3, 1, 0, 0, 0) := by decide +kernel
theorem lr_1097 : x_row (x_rws M_law) 1097 = some (1097, .iconst 2, 1, 0, 0, 0) := by decide +kernel
theorem lr_1098 : x_row (x_rws M_law) 1098 = some (1098, .iadd, 1, 0, 0, 0) := by decide +kernel
theorem lr_1099 : x_row (x_rws M_law) 1099 = some (1099, .iaload, 1, 0, 0, 0) := by decide +kernel
theorem lr_1100 : x_row (x_rws M_law) 1100 = some (1100, .invokevirtual 125, 3, 142, 2, 0) := by decide +kernel
theorem lr_1103 : x_row (x_rws M_law) 1103 = some (1103, .pop, 1, 0, 0, 0) := by decide +kernel
theorem lr_1104 : x_row (x_rws M_law) 1104 = some (1104, .aload_n 2, 1, 0, 0, 0) := by decide +kernel
theorem lr_1105 : x_row (x_rws M_law) 1105 = some (1105, .aload_n 0, 1, 0, 0, 0) := by decide +kernel
theorem lr_1106 : x_row (x_rws M_law) 1106 = some (1106, .iload_n 3, 1, 0, 0, 0) := by decide +kernel
theorem lr_1107 : x_row (x_rws M_law) 1107 = some (1107, .iconst 1, 1, 0, 0, 0) := by decide +kernel
theorem lr_1108 : x_row (x_rws M_law) 1108 = some (1108, .iadd, 1, 0, 0, 0) := by decide +kernel
theorem lr_1109 : x_row (x_rws M_law) 1109 = some (1109, .iaload, 1, 0, 0, 0) := by decide +kernel
theorem lr_1110 : x_row (x_rws M_law) 1110 = some (1110, .aload_n 0, 1, 0, 0, 0) := by decide +kernel
theorem lr_1111 : x_row (x_rws M_law) 1111 = some (1111, .iload_n 3, 1, 0, 0, 0) := by decide +kernel
theorem lr_1112 : x_row (x_rws M_law) 1112 = some (1112, .iconst 2, 1, 0, 0, 0) := by decide +kernel
theorem lr_1113 : x_row (x_rws M_law) 1113 = some (1113, .iadd, 1, 0, 0, 0) := by decide +kernel
theorem lr_1114 : x_row (x_rws M_law) 1114 = some (1114, .iaload, 1, 0, 0, 0) := by decide +kernel
theorem lr_1115 : x_row (x_rws M_law) 1115 = some (1115, .invokevirtual 128, 3, 284, 2, 0) := by decide +kernel
theorem lr_1118 : x_row (x_rws M_law) 1118 = some (1118, .pop, 1, 0, 0, 0) := by decide +kernel
theorem lr_1119 : x_row (x_rws M_law) 1119 = some (1119, .goto 1249, 3, 0, 0, 0) := by decide +kernel
theorem lr_1122 : x_row (x_rws M_law) 1122 = some (1122, .aload_n 1, 1, 0, 0, 0) := by decide +kernel
theorem lr_1123 : x_row (x_rws M_law) 1123 = some (1123, .aload_n 0, 1, 0, 0, 0) := by decide +kernel
theorem lr_1124 : x_row (x_rws M_law) 1124 = some (1124, .iload_n 3, 1, 0, 0, 0) := by decide +kernel
theorem lr_1125 : x_row (x_rws M_law) 1125 = some (1125, .iconst 1, 1, 0, 0, 0) := by decide +kernel
theorem lr_1126 : x_row (x_rws M_law) 1126 = some (1126, .iadd, 1, 0, 0, 0) := by decide +kernel
theorem lr_1127 : x_row (x_rws M_law) 1127 = some (1127, .iaload, 1, 0, 0, 0) := by decide +kernel
theorem lr_1128 : x_row (x_rws M_law) 1128 = some (1128, .invokevirtual 129, 3, 143, 1, 0) := by decide +kernel
theorem lr_1131 : x_row (x_rws M_law) 1131 = some (1131, .pop, 1, 0, 0, 0) := by decide +kernel
theorem lr_1132 : x_row (x_rws M_law) 1132 = some (1132, .aload_n 2, 1, 0, 0, 0) := by decide +kernel
theorem lr_1133 : x_row (x_rws M_law) 1133 = some (1133, .aload_n 0, 1, 0, 0, 0) := by decide +kernel
theorem lr_1134 : x_row (x_rws M_law) 1134 = some (1134, .iload_n 3, 1, 0, 0, 0) := by decide +kernel
theorem lr_1135 : x_row (x_rws M_law) 1135 = some (1135, .iconst 1, 1, 0, 0, 0) := by decide +kernel
theorem lr_1136 : x_row (x_rws M_law) 1136 = some (1136, .iadd, 1, 0, 0, 0) := by decide +kernel
theorem lr_1137 : x_row (x_rws M_law) 1137 = some (1137, .iaload, 1, 0, 0, 0) := by decide +kernel
theorem lr_1138 : x_row (x_rws M_law) 1138 = some (1138, .invokevirtual 132, 3, 286, 1, 0) := by decide +kernel
theorem lr_1141 : x_row (x_rws M_law) 1141 = some (1141, .pop, 1, 0, 0, 0) := by decide +kernel
theorem lr_1142 : x_row (x_rws M_law) 1142 = some (1142, .goto 1226, 3, 0, 0, 0) := by decide +kernel
theorem lr_1145 : x_row (x_rws M_law) 1145 = some (1145, .aload_n 1, 1, 0, 0, 0) := by decide +kernel
theorem lr_1146 : x_row (x_rws M_law) 1146 = some (1146, .aload_n 0, 1, 0, 0, 0) := by decide +kernel
theorem lr_1147 : x_row (x_rws M_law) 1147 = some (1147, .iload_n 3, 1, 0, 0, 0) := by decide +kernel
theorem lr_1148 : x_row (x_rws M_law) 1148 = some (1148, .iconst 1, 1, 0, 0, 0) := by decide +kernel
theorem lr_1149 : x_row (x_rws M_law) 1149 = some (1149, .iadd, 1, 0, 0, 0) := by decide +kernel
theorem lr_1150 : x_row (x_rws M_law) 1150 = some (1150, .iaload, 1, 0, 0, 0) := by decide +kernel
theorem lr_1151 : x_row (x_rws M_law) 1151 = some (1151, .invokevirtual 133, 3, 138, 1, 0) := by decide +kernel
theorem lr_1154 : x_row (x_rws M_law) 1154 = some (1154, .pop, 1, 0, 0, 0) := by decide +kernel
theorem lr_1155 : x_row (x_rws M_law) 1155 = some (1155, .aload_n 2, 1, 0, 0, 0) := by decide +kernel
theorem lr_1156 : x_row (x_rws M_law) 1156 = some (1156, .aload_n 0, 1, 0, 0, 0) := by decide +kernel
theorem lr_1157 : x_row (x_rws M_law) 1157 = some (1157, .iload_n 3, 1, 0, 0, 0) := by decide +kernel
theorem lr_1158 : x_row (x_rws M_law) 1158 = some (1158, .iconst 1, 1, 0, 0, 0) := by decide +kernel
theorem lr_1159 : x_row (x_rws M_law) 1159 = some (1159, .iadd, 1, 0, 0, 0) := by decide +kernel
theorem lr_1160 : x_row (x_rws M_law) 1160 = some (1160, .iaload, 1, 0, 0, 0) := by decide +kernel
theorem lr_1161 : x_row (x_rws M_law) 1161 = some (1161, .invokevirtual 136, 3, 288, 1, 0) := by decide +kernel
theorem lr_1164 : x_row (x_rws M_law) 1164 = some (1164, .pop, 1, 0, 0, 0) := by decide +kernel
theorem lr_1165 : x_row (x_rws M_law) 1165 = some (1165, .goto 1203, 3, 0, 0, 0) := by decide +kernel
theorem lr_1168 : x_row (x_rws M_law) 1168 = some (1168, .aload_n 1, 1, 0, 0, 0) := by decide +kernel
theorem lr_1169 : x_row (x_rws M_law) 1169 = some (1169, .aload_n 0, 1, 0, 0, 0) := by decide +kernel
theorem lr_1170 : x_row (x_rws M_law) 1170 = some (1170, .iload_n 3, 1, 0, 0, 0) := by decide +kernel
theorem lr_1171 : x_row (x_rws M_law) 1171 = some (1171, .iconst 1, 1, 0, 0, 0) := by decide +kernel
theorem lr_1172 : x_row (x_rws M_law) 1172 = some (1172, .iadd, 1, 0, 0, 0) := by decide +kernel
theorem lr_1173 : x_row (x_rws M_law) 1173 = some (1173, .iaload, 1, 0, 0, 0) := by decide +kernel
theorem lr_1174 : x_row (x_rws M_law) 1174 = some (1174, .aload_n 0, 1, 0, 0, 0) := by decide +kernel
theorem lr_1175 : x_row (x_rws M_law) 1175 = some (1175, .iload_n 3, 1, 0, 0, 0) := by decide +kernel
theorem lr_1176 : x_row (x_rws M_law) 1176 = some (1176, .iconst 2, 1, 0, 0, 0) := by decide +kernel
theorem lr_1177 : x_row (x_rws M_law) 1177 = some (1177, .iadd, 1, 0, 0, 0) := by decide +kernel
theorem lr_1178 : x_row (x_rws M_law) 1178 = some (1178, .iaload, 1, 0, 0, 0) := by decide +kernel
theorem lr_1179 : x_row (x_rws M_law) 1179 = some (1179, .invokevirtual 137, 3, 144, 2, 0) := by decide +kernel
theorem lr_1182 : x_row (x_rws M_law) 1182 = some (1182, .pop2, 1, 0, 0, 0) := by decide +kernel
theorem lr_1183 : x_row (x_rws M_law) 1183 = some (1183, .aload_n 2, 1, 0, 0, 0) := by decide +kernel
theorem lr_1184 : x_row (x_rws M_law) 1184 = some (1184, .aload_n 0, 1, 0, 0, 0) := by decide +kernel
theorem lr_1185 : x_row (x_rws M_law) 1185 = some (1185, .iload_n 3, 1, 0, 0, 0) := by decide +kernel
theorem lr_1186 : x_row (x_rws M_law) 1186 = some (1186, .iconst 1, 1, 0, 0, 0) := by decide +kernel
theorem lr_1187 : x_row (x_rws M_law) 1187 = some (1187, .iadd, 1, 0, 0, 0) := by decide +kernel
theorem lr_1188 : x_row (x_rws M_law) 1188 = some (1188, .iaload, 1, 0, 0, 0) := by decide +kernel
theorem lr_1189 : x_row (x_rws M_law) 1189 = some (1189, .aload_n 0, 1, 0, 0, 0) := by decide +kernel
theorem lr_1190 : x_row (x_rws M_law) 1190 = some (1190, .iload_n 3, 1, 0, 0, 0) := by decide +kernel
theorem lr_1191 : x_row (x_rws M_law) 1191 = some (1191, .iconst 2, 1, 0, 0, 0) := by decide +kernel
theorem lr_1192 : x_row (x_rws M_law) 1192 = some (1192, .iadd, 1, 0, 0, 0) := by decide +kernel
theorem lr_1193 : x_row (x_rws M_law) 1193 = some (1193, .iaload, 1, 0, 0, 0) := by decide +kernel
theorem lr_1194 : x_row (x_rws M_law) 1194 = some (1194, .invokevirtual 141, 3, 293, 2, 0) := by decide +kernel
theorem lr_1197 : x_row (x_rws M_law) 1197 = some (1197, .pop2, 1, 0, 0, 0) := by decide +kernel
theorem lr_1198 : x_row (x_rws M_law) 1198 = some (1198, .goto 1170, 3, 0, 0, 0) := by decide +kernel
theorem lr_1201 : x_row (x_rws M_law) 1201 = some (1201, .aload_n 1, 1, 0, 0, 0) := by decide +kernel
theorem lr_1202 : x_row (x_rws M_law) 1202 = some (1202, .aload_n 0, 1, 0, 0, 0) := by decide +kernel
theorem lr_1203 : x_row (x_rws M_law) 1203 = some (1203, .iload_n 3, 1, 0, 0, 0) := by decide +kernel
theorem lr_1204 : x_row (x_rws M_law) 1204 = some (1204, .iconst 1, 1, 0, 0, 0) := by decide +kernel
theorem lr_1205 : x_row (x_rws M_law) 1205 = some (1205, .iadd, 1, 0, 0, 0) := by decide +kernel
theorem lr_1206 : x_row (x_rws M_law) 1206 = some (1206, .iaload, 1, 0, 0, 0) := by decide +kernel
theorem lr_1207 : x_row (x_rws M_law) 1207 = some (1207, .aload_n 0, 1, 0, 0, 0) := by decide +kernel
theorem lr_1208 : x_row (x_rws M_law) 1208 = some (1208, .iload_n 3, 1, 0, 0, 0) := by decide +kernel
theorem lr_1209 : x_row (x_rws M_law) 1209 = some (1209, .iconst 2, 1, 0, 0, 0) := by decide +kernel
theorem lr_1210 : x_row (x_rws M_law) 1210 = some (1210, .iadd, 1, 0, 0, 0) := by decide +kernel
theorem lr_1211 : x_row (x_rws M_law) 1211 = some (1211, .iaload, 1, 0, 0, 0) := by decide +kernel
theorem lr_1212 : x_row (x_rws M_law) 1212 = some (1212, .aload_n 0, 1, 0, 0, 0) := by decide +kernel
theorem lr_1213 : x_row (x_rws M_law) 1213 = some (1213, .iload_n 3, 1, 0, 0, 0) := by decide +kernel
theorem lr_1214 : x_row (x_rws M_law) 1214 = some (1214, .iconst 3, 1, 0, 0, 0) := by decide +kernel
theorem lr_1215 : x_row (x_rws M_law) 1215 = some (1215, .iadd, 1, 0, 0, 0) := by decide +kernel
theorem lr_1216 : x_row (x_rws M_law) 1216 = some (1216, .iaload, 1, 0, 0, 0) := by decide +kernel
theorem lr_1217 : x_row (x_rws M_law) 1217 = some (1217, .invokevirtual 142, 3, 145, 3, 0) := by decide +kernel
theorem lr_1220 : x_row (x_rws M_law) 1220 = some (1220, .pop2, 1, 0, 0, 0) := by decide +kernel
theorem lr_1221 : x_row (x_rws M_law) 1221 = some (1221, .aload_n 2, 1, 0, 0, 0) := by decide +kernel
theorem lr_1222 : x_row (x_rws M_law) 1222 = some (1222, .aload_n 0, 1, 0, 0, 0) := by decide +kernel
theorem lr_1223 : x_row (x_rws M_law) 1223 = some (1223, .iload_n 3, 1, 0, 0, 0) := by decide +kernel
theorem lr_1224 : x_row (x_rws M_law) 1224 = some (1224, .iconst 1, 1, 0, 0, 0) := by decide +kernel
theorem lr_1225 : x_row (x_rws M_law) 1225 = some (1225, .iadd, 1, 0, 0, 0) := by decide +kernel
theorem lr_1226 : x_row (x_rws M_law) 1226 = some (1226, .iaload, 1, 0, 0, 0) := by decide +kernel
theorem lr_1227 : x_row (x_rws M_law) 1227 = some (1227, .aload_n 0, 1, 0, 0, 0) := by decide +kernel
theorem lr_1228 : x_row (x_rws M_law) 1228 = some (1228, .iload_n 3, 1, 0, 0, 0) := by decide +kernel
theorem lr_1229 : x_row (x_rws M_law) 1229 = some (1229, .iconst 2, 1, 0, 0, 0) := by decide +kernel
theorem lr_1230 : x_row (x_rws M_law) 1230 = some (1230, .iadd, 1, 0, 0, 0) := by decide +kernel
theorem lr_1231 : x_row (x_rws M_law) 1231 = some (1231, .iaload, 1, 0, 0, 0) := by decide +kernel
theorem lr_1232 : x_row (x_rws M_law) 1232 = some (1232, .aload_n 0, 1, 0, 0, 0) := by decide +kernel
theorem lr_1233 : x_row (x_rws M_law) 1233 = some (1233, .iload_n 3, 1, 0, 0, 0) := by decide +kernel
theorem lr_1234 : x_row (x_rws M_law) 1234 = some (1234, .iconst 3, 1, 0, 0, 0) := by decide +kernel
theorem lr_1235 : x_row (x_rws M_law) 1235 = some (1235, .iadd, 1, 0, 0, 0) := by decide +kernel
theorem lr_1236 : x_row (x_rws M_law) 1236 = some (1236, .iaload, 1, 0, 0, 0) := by decide +kernel
theorem lr_1237 : x_row (x_rws M_law) 1237 = some (1237, .invokevirtual 146, 3, 294, 3, 0) := by decide +kernel
theorem lr_1240 : x_row (x_rws M_law) 1240 = some (1240, .pop2, 1, 0, 0, 0) := by decide +kernel
theorem lr_1241 : x_row (x_rws M_law) 1241 = some (1241, .goto 1127, 3, 0, 0, 0) := by decide +kernel
theorem lr_1244 : x_row (x_rws M_law) 1244 = some (1244, .aload_n 1, 1, 0, 0, 0) := by decide +kernel
theorem lr_1245 : x_row (x_rws M_law) 1245 = some (1245, .aload_n 0, 1, 0, 0, 0) := by decide +kernel
theorem lr_1246 : x_row (x_rws M_law) 1246 = some (1246, .iload_n 3, 1, 0, 0, 0) := by decide +kernel
theorem lr_1247 : x_row (x_rws M_law) 1247 = some (1247, .iconst 1, 1, 0, 0, 0) := by decide +kernel
theorem lr_1248 : x_row (x_rws M_law) 1248 = some (1248, .iadd, 1, 0, 0, 0) := by decide +kernel
theorem lr_1249 : x_row (x_rws M_law) 1249 = some (1249, .iaload, 1, 0, 0, 0) := by decide +kernel
theorem lr_1250 : x_row (x_rws M_law) 1250 = some (1250, .invokevirtual 147, 3, 146, 1, 0) := by decide +kernel
theorem lr_1253 : x_row (x_rws M_law) 1253 = some (1253, .pop, 1, 0, 0, 0) := by decide +kernel
theorem lr_1254 : x_row (x_rws M_law) 1254 = some (1254, .aload_n 2, 1, 0, 0, 0) := by decide +kernel
theorem lr_1255 : x_row (x_rws M_law) 1255 = some (1255, .aload_n 0, 1, 0, 0, 0) := by decide +kernel
theorem lr_1256 : x_row (x_rws M_law) 1256 = some (1256, .iload_n 3, 1, 0, 0, 0) := by decide +kernel
theorem lr_1257 : x_row (x_rws M_law) 1257 = some (1257, .iconst 1, 1, 0, 0, 0) := by decide +kernel
theorem lr_1258 : x_row (x_rws M_law) 1258 = some (1258, .iadd, 1, 0, 0, 0) := by decide +kernel
theorem lr_1259 : x_row (x_rws M_law) 1259 = some (1259, .iaload, 1, 0, 0, 0) := by decide +kernel
theorem lr_1260 : x_row (x_rws M_law) 1260 = some (1260, .invokevirtual 150, 3, 295, 1, 0) := by decide +kernel
theorem lr_1263 : x_row (x_rws M_law) 1263 = some (1263, .pop, 1, 0, 0, 0) := by decide +kernel
theorem lr_1264 : x_row (x_rws M_law) 1264 = some (1264, .goto 1104, 3, 0, 0, 0) := by decide +kernel
theorem lr_1267 : x_row (x_rws M_law) 1267 = some (1267, .aload_n 1, 1, 0, 0, 0) := by decide +kernel
theorem lr_1268 : x_row (x_rws M_law) 1268 = some (1268, .aload_n 0, 1, 0, 0, 0) := by decide +kernel
theorem lr_1269 : x_row (x_rws M_law) 1269 = some (1269, .iload_n 3, 1, 0, 0, 0) := by decide +kernel
theorem lr_1270 : x_row (x_rws M_law) 1270 = some (1270, .iconst 1, 1, 0, 0, 0) := by decide +kernel
theorem lr_1271 : x_row (x_rws M_law) 1271 = some (1271, .iadd, 1, 0, 0, 0) := by decide +kernel
theorem lr_1272 : x_row (x_rws M_law) 1272 = some (1272, .iaload, 1, 0, 0, 0) := by decide +kernel
theorem lr_1273 : x_row (x_rws M_law) 1273 = some (1273, .invokevirtual 151, 3, 147, 1, 0) := by decide +kernel
theorem lr_1276 : x_row (x_rws M_law) 1276 = some (1276, .pop, 1, 0, 0, 0) := by decide +kernel
theorem lr_1277 : x_row (x_rws M_law) 1277 = some (1277, .aload_n 2, 1, 0, 0, 0) := by decide +kernel
theorem lr_1278 : x_row (x_rws M_law) 1278 = some (1278, .aload_n 0, 1, 0, 0, 0) := by decide +kernel
theorem lr_1279 : x_row (x_rws M_law) 1279 = some (1279, .iload_n 3, 1, 0, 0, 0) := by decide +kernel
theorem lr_1280 : x_row (x_rws M_law) 1280 = some (1280, .iconst 1, 1, 0, 0, 0) := by decide +kernel
theorem lr_1281 : x_row (x_rws M_law) 1281 = some (1281, .iadd, 1, 0, 0, 0) := by decide +kernel
theorem lr_1282 : x_row (x_rws M_law) 1282 = some (1282, .iaload, 1, 0, 0, 0) := by decide +kernel
theorem lr_1283 : x_row (x_rws M_law) 1283 = some (1283, .invokevirtual 154, 3, 297, 1, 0) := by decide +kernel
theorem lr_1286 : x_row (x_rws M_law) 1286 = some (1286, .pop, 1, 0, 0, 0) := by decide +kernel
theorem lr_1287 : x_row (x_rws M_law) 1287 = some (1287, .goto 1081, 3, 0, 0, 0) := by decide +kernel
theorem lr_1290 : x_row (x_rws M_law) 1290 = some (1290, .aload_n 1, 1, 0, 0, 0) := by decide +kernel
theorem lr_1291 : x_row (x_rws M_law) 1291 = some (1291, .aload_n 0, 1, 0, 0, 0) := by decide +kernel
theorem lr_1292 : x_row (x_rws M_law) 1292 = some (1292, .iload_n 3, 1, 0, 0, 0) := by decide +kernel
theorem lr_1293 : x_row (x_rws M_law) 1293 = some (1293, .iconst 1, 1, 0, 0, 0) := by decide +kernel
theorem lr_1294 : x_row (x_rws M_law) 1294 = some (1294, .iadd, 1, 0, 0, 0) := by decide +kernel
theorem lr_1295 : x_row (x_rws M_law) 1295 = some (1295, .iaload, 1, 0, 0, 0) := by decide +kernel
theorem lr_1296 : x_row (x_rws M_law) 1296 = some (1296, .invokevirtual 155, 3, 148, 1, 0) := by decide +kernel
theorem lr_1299 : x_row (x_rws M_law) 1299 = some (1299, .pop, 1, 0, 0, 0) := by decide +kernel
theorem lr_1300 : x_row (x_rws M_law) 1300 = some (1300, .aload_n 2, 1, 0, 0, 0) := by decide +kernel
theorem lr_1301 : x_row (x_rws M_law) 1301 = some (1301, .aload_n 0, 1, 0, 0, 0) := by decide +kernel
theorem lr_1302 : x_row (x_rws M_law) 1302 = some (1302, .iload_n 3, 1, 0, 0, 0) := by decide +kernel
theorem lr_1303 : x_row (x_rws M_law) 1303 = some (1303, .iconst 1, 1, 0, 0, 0) := by decide +kernel
theorem lr_1304 : x_row (x_rws M_law) 1304 = some (1304, .iadd, 1, 0, 0, 0) := by decide +kernel
theorem lr_1305 : x_row (x_rws M_law) 1305 = some (1305, .iaload, 1, 0, 0, 0) := by decide +kernel
theorem lr_1306 : x_row (x_rws M_law) 1306 = some (1306, .invokevirtual 158, 3, 302, 1, 0) := by decide +kernel
theorem lr_1309 : x_row (x_rws M_law) 1309 = some (1309, .pop, 1, 0, 0, 0) := by decide +kernel
theorem lr_1310 : x_row (x_rws M_law) 1310 = some (1310, .goto 1058, 3, 0, 0, 0) := by decide +kernel
theorem lr_1313 : x_row (x_rws M_law) 1313 = some (1313, .aload_n 1, 1, 0, 0, 0) := by decide +kernel
theorem lr_1314 : x_row (x_rws M_law) 1314 = some (1314, .aload_n 0, 1, 0, 0, 0) := by decide +kernel
theorem lr_1315 : x_row (x_rws M_law) 1315 = some (1315, .iload_n 3, 1, 0, 0, 0) := by decide +kernel
theorem lr_1316 : x_row (x_rws M_law) 1316 = some (1316, .iconst 1, 1, 0, 0, 0) := by decide +kernel
theorem lr_1317 : x_row (x_rws M_law) 1317 = some (1317, .iadd, 1, 0, 0, 0) := by decide +kernel
theorem lr_1318 : x_row (x_rws M_law) 1318 = some (1318, .iaload, 1, 0, 0, 0) := by decide +kernel
theorem lr_1319 : x_row (x_rws M_law) 1319 = some (1319, .invokevirtual 159, 3, 149, 1, 0) := by decide +kernel
theorem lr_1322 : x_row (x_rws M_law) 1322 = some (1322, .pop, 1, 0, 0, 0) := by decide +kernel
theorem lr_1323 : x_row (x_rws M_law) 1323 = some (1323, .aload_n 2, 1, 0, 0, 0) := by decide +kernel
theorem lr_1324 : x_row (x_rws M_law) 1324 = some (1324, .aload_n 0, 1, 0, 0, 0) := by decide +kernel
theorem lr_1325 : x_row (x_rws M_law) 1325 = some (1325, .iload_n 3, 1, 0, 0, 0) := by decide +kernel
theorem lr_1326 : x_row (x_rws M_law) 1326 = some (1326, .iconst 1, 1, 0, 0, 0) := by decide +kernel
theorem lr_1327 : x_row (x_rws M_law) 1327 = some (1327, .iadd, 1, 0, 0, 0) := by decide +kernel
theorem lr_1328 : x_row (x_rws M_law) 1328 = some (1328, .iaload, 1, 0, 0, 0) := by decide +kernel
theorem lr_1329 : x_row (x_rws M_law) 1329 = some (1329, .invokevirtual 162, 3, 303, 1, 0) := by decide +kernel
theorem lr_1332 : x_row (x_rws M_law) 1332 = some (1332, .pop, 1, 0, 0, 0) := by decide +kernel
theorem lr_1333 : x_row (x_rws M_law) 1333 = some (1333, .goto 1035, 3, 0, 0, 0) := by decide +kernel
theorem lr_1336 : x_row (x_rws M_law) 1336 = some (1336, .aload_n 1, 1, 0, 0, 0) := by decide +kernel
theorem lr_1337 : x_row (x_rws M_law) 1337 = some (1337, .aload_n 0, 1, 0, 0, 0) := by decide +kernel
theorem lr_1338 : x_row (x_rws M_law) 1338 = some (1338, .iload_n 3, 1, 0, 0, 0) := by decide +kernel
theorem lr_1339 : x_row (x_rws M_law) 1339 = some (1339, .iconst 1, 1, 0, 0, 0) := by decide +kernel
theorem lr_1340 : x_row (x_rws M_law) 1340 = some (1340, .iadd, 1, 0, 0, 0) := by decide +kernel
theorem lr_1341 : x_row (x_rws M_law) 1341 = some (1341, .iaload, 1, 0, 0, 0) := by decide +kernel
theorem lr_1342 : x_row (x_rws M_law) 1342 = some (1342, .invokevirtual 163, 3, 150, 1, 0) := by decide +kernel
theorem lr_1345 : x_row (x_rws M_law) 1345 = some (1345, .pop, 1, 0, 0, 0) := by decide +kernel
theorem lr_1346 : x_row (x_rws M_law) 1346 = some (1346, .aload_n 2, 1, 0, 0, 0) := by decide +kernel
theorem lr_1347 : x_row (x_rws M_law) 1347 = some (1347, .aload_n 0, 1, 0, 0, 0) := by decide +kernel
theorem lr_1348 : x_row (x_rws M_law) 1348 = some (1348, .iload_n 3, 1, 0, 0, 0) := by decide +kernel
theorem lr_1349 : x_row (x_rws M_law) 1349 = some (1349, .iconst 1, 1, 0, 0, 0) := by decide +kernel
theorem lr_1350 : x_row (x_rws M_law) 1350 = some (1350, .iadd, 1, 0, 0, 0) := by decide +kernel
theorem lr_1351 : x_row (x_rws M_law) 1351 = some (1351, .iaload, 1, 0, 0, 0) := by decide +kernel
theorem lr_1352 : x_row (x_rws M_law) 1352 = some (1352, .invokevirtual 166, 3, 304, 1, 0) := by decide +kernel
theorem lr_1355 : x_row (x_rws M_law) 1355 = some (1355, .pop, 1, 0, 0, 0) := by decide +kernel
theorem lr_1356 : x_row (x_rws M_law) 1356 = some (1356, .goto 1012, 3, 0, 0, 0) := by decide +kernel
theorem lr_1359 : x_row (x_rws M_law) 1359 = some (1359, .aload_n 1, 1, 0, 0, 0) := by decide +kernel
theorem lr_1360 : x_row (x_rws M_law) 1360 = some (1360, .aload_n 0, 1, 0, 0, 0) := by decide +kernel
theorem lr_1361 : x_row (x_rws M_law) 1361 = some (1361, .iload_n 3, 1, 0, 0, 0) := by decide +kernel
theorem lr_1362 : x_row (x_rws M_law) 1362 = some (1362, .iconst 1, 1, 0, 0, 0) := by decide +kernel
theorem lr_1363 : x_row (x_rws M_law) 1363 = some (1363, .iadd, 1, 0, 0, 0) := by decide +kernel
theorem lr_1364 : x_row (x_rws M_law) 1364 = some (1364, .iaload, 1, 0, 0, 0) := by decide +kernel
theorem lr_1365 : x_row (x_rws M_law) 1365 = some (1365, .invokevirtual 167, 3, 151, 1, 0) := by decide +kernel
theorem lr_1368 : x_row (x_rws M_law) 1368 = some (1368, .pop, 1, 0, 0, 0) := by decide +kernel
theorem lr_1369 : x_row (x_rws M_law) 1369 = some (1369, .aload_n 2, 1, 0, 0, 0) := by decide +kernel
theorem lr_1370 : x_row (x_rws M_law) 1370 = some (1370, .aload_n 0, 1, 0, 0, 0) := by decide +kernel
theorem lr_1371 : x_row (x_rws M_law) 1371 = some (1371, .iload_n 3, 1, 0, 0, 0) := by decide +kernel
theorem lr_1372 : x_row (x_rws M_law) 1372 = some (1372, .iconst 1, 1, 0, 0, 0) := by decide +kernel
theorem lr_1373 : x_row (x_rws M_law) 1373 = some (1373, .iadd, 1, 0, 0, 0) := by decide +kernel
theorem lr_1374 : x_row (x_rws M_law) 1374 = some (1374, .iaload, 1, 0, 0, 0) := by decide +kernel
theorem lr_1375 : x_row (x_rws M_law) 1375 = some (1375, .invokevirtual 170, 3, 306, 1, 0) := by decide +kernel
theorem lr_1378 : x_row (x_rws M_law) 1378 = some (1378, .pop, 1, 0, 0, 0) := by decide +kernel
theorem lr_1379 : x_row (x_rws M_law) 1379 = some (1379, .goto 989, 3, 0, 0, 0) := by decide +kernel
theorem lr_1382 : x_row (x_rws M_law) 1382 = some (1382, .aload_n 1, 1, 0, 0, 0) := by decide +kernel
theorem lr_1383 : x_row (x_rws M_law) 1383 = some (1383, .aload_n 0, 1, 0, 0, 0) := by decide +kernel
theorem lr_1384 : x_row (x_rws M_law) 1384 = some (1384, .iload_n 3, 1, 0, 0, 0) := by decide +kernel
theorem lr_1385 : x_row (x_rws M_law) 1385 = some (1385, .iconst 1, 1, 0, 0, 0) := by decide +kernel
theorem lr_1386 : x_row (x_rws M_law) 1386 = some (1386, .iadd, 1, 0, 0, 0) := by decide +kernel
theorem lr_1387 : x_row (x_rws M_law) 1387 = some (1387, .iaload, 1, 0, 0, 0) := by decide +kernel
theorem lr_1388 : x_row (x_rws M_law) 1388 = some (1388, .aload_n 0, 1, 0, 0, 0) := by decide +kernel
theorem lr_1389 : x_row (x_rws M_law) 1389 = some (1389, .iload_n 3, 1, 0, 0, 0) := by decide +kernel
theorem lr_1390 : x_row (x_rws M_law) 1390 = some (1390, .iconst 2, 1, 0, 0, 0) := by decide +kernel
theorem lr_1391 : x_row (x_rws M_law) 1391 = some (1391, .iadd, 1, 0, 0, 0) := by decide +kernel
theorem lr_1392 : x_row (x_rws M_law) 1392 = some (1392, .iaload, 1, 0, 0, 0) := by decide +kernel
theorem lr_1393 : x_row (x_rws M_law) 1393 = some (1393, .invokevirtual 171, 3, 152, 2, 0) := by decide +kernel
theorem lr_1396 : x_row (x_rws M_law) 1396 = some (1396, .pop, 1, 0, 0, 0) := by decide +kernel
theorem lr_1397 : x_row (x_rws M_law) 1397 = some (1397, .aload_n 2, 1, 0, 0, 0) := by decide +kernel
theorem lr_1398 : x_row (x_rws M_law) 1398 = some (1398, .aload_n 0, 1, 0, 0, 0) := by decide +kernel
theorem lr_1399 : x_row (x_rws M_law) 1399 = some (1399, .iload_n 3, 1, 0, 0, 0) := by decide +kernel
theorem lr_1400 : x_row (x_rws M_law) 1400 = some (1400, .iconst 1, 1, 0, 0, 0) := by decide +kernel
theorem lr_1401 : x_row (x_rws M_law) 1401 = some (1401, .iadd, 1, 0, 0, 0) := by decide +kernel
theorem lr_1402 : x_row (x_rws M_law) 1402 = some (1402, .iaload, 1, 0, 0, 0) := by decide +kernel
theorem lr_1403 : x_row (x_rws M_law) 1403 = some (1403, .aload_n 0, 1, 0, 0, 0) := by decide +kernel
theorem lr_1404 : x_row (x_rws M_law) 1404 = some (1404, .iload_n 3, 1, 0, 0, 0) := by decide +kernel
theorem lr_1405 : x_row (x_rws M_law) 1405 = some (1405, .iconst 2, 1, 0, 0, 0) := by decide +kernel
theorem lr_1406 : x_row (x_rws M_law) 1406 = some (1406, .iadd, 1, 0, 0, 0) := by decide +kernel
theorem lr_1407 : x_row (x_rws M_law) 1407 = some (1407, .iaload, 1, 0, 0, 0) := by decide +kernel
theorem lr_1408 : x_row (x_rws M_law) 1408 = some (1408, .invokevirtual 174, 3, 307, 2, 0) := by decide +kernel
theorem lr_1411 : x_row (x_rws M_law) 1411 = some (1411, .pop, 1, 0, 0, 0) := by decide +kernel
theorem lr_1412 : x_row (x_rws M_law) 1412 = some (1412, .goto 956, 3, 0, 0, 0) := by decide +kernel
theorem lr_1415 : x_row (x_rws M_law) 1415 = some (1415, .aload_n 1, 1, 0, 0, 0) := by decide +kernel
theorem lr_1416 : x_row (x_rws M_law) 1416 = some (1416, .aload_n 0, 1, 0, 0, 0) := by decide +kernel
theorem lr_1417 : x_row (x_rws M_law) 1417 = some (1417, .iload_n 3, 1, 0, 0, 0) := by decide +kernel
theorem lr_1418 : x_row (x_rws M_law) 1418 = some (1418, .iconst 1, 1, 0, 0, 0) := by decide +kernel
theorem lr_1419 : x_row (x_rws M_law) 1419 = some (1419, .iadd, 1, 0, 0, 0) := by decide +kernel
theorem lr_1420 : x_row (x_rws M_law) 1420 = some (1420, .iaload, 1, 0, 0, 0) := by decide +kernel
theorem lr_1421 : x_row (x_rws M_law) 1421 = some (1421, .invokevirtual 175, 3, 153, 1, 0) := by decide +kernel
theorem lr_1424 : x_row (x_rws M_law) 1424 = some (1424, .pop, 1, 0, 0, 0) := by decide +kernel
theorem lr_1425 : x_row (x_rws M_law) 1425 = some (1425, .aload_n 2, 1, 0, 0, 0) := by decide +kernel
theorem lr_1426 : x_row (x_rws M_law) 1426 = some (1426, .aload_n 0, 1, 0, 0, 0) := by decide +kernel
theorem lr_1427 : x_row (x_rws M_law) 1427 = some (1427, .iload_n 3, 1, 0, 0, 0) := by decide +kernel
theorem lr_1428 : x_row (x_rws M_law) 1428 = some (1428, .iconst 1, 1, 0, 0, 0) := by decide +kernel
theorem lr_1429 : x_row (x_rws M_law) 1429 = some (1429, .iadd, 1, 0, 0, 0) := by decide +kernel
theorem lr_1430 : x_row (x_rws M_law) 1430 = some (1430, .iaload, 1, 0, 0, 0) := by decide +kernel
theorem lr_1431 : x_row (x_rws M_law) 1431 = some (1431, .invokevirtual 178, 3, 308, 1, 0) := by decide +kernel
theorem lr_1434 : x_row (x_rws M_law) 1434 = some (1434, .pop, 1, 0, 0, 0) := by decide +kernel
theorem lr_1435 : x_row (x_rws M_law) 1435 = some (1435, .goto 933, 3, 0, 0, 0) := by decide +kernel
theorem lr_1438 : x_row (x_rws M_law) 1438 = some (1438, .aload_n 1, 1, 0, 0, 0) := by decide +kernel
theorem lr_1439 : x_row (x_rws M_law) 1439 = some (1439, .aload_n 0, 1, 0, 0, 0) := by decide +kernel
theorem lr_1440 : x_row (x_rws M_law) 1440 = some (1440, .iload_n 3, 1, 0, 0, 0) := by decide +kernel
theorem lr_1441 : x_row (x_rws M_law) 1441 = some (1441, .iconst 1, 1, 0, 0, 0) := by decide +kernel
theorem lr_1442 : x_row (x_rws M_law) 1442 = some (1442, .iadd, 1, 0, 0, 0) := by decide +kernel
theorem lr_1443 : x_row (x_rws M_law) 1443 = some (1443, .iaload, 1, 0, 0, 0) := by decide +kernel
theorem lr_1444 : x_row (x_rws M_law) 1444 = some (1444, .invokevirtual 179, 3, 154, 1, 0) := by decide +kernel
theorem lr_1447 : x_row (x_rws M_law) 1447 = some (1447, .pop, 1, 0, 0, 0) := by decide +kernel
theorem lr_1448 : x_row (x_rws M_law) 1448 = some (1448, .aload_n 2, 1, 0, 0, 0) := by decide +kernel
theorem lr_1449 : x_row (x_rws M_law) 1449 = some (1449, .aload_n 0, 1, 0, 0, 0) := by decide +kernel
theorem lr_1450 : x_row (x_rws M_law) 1450 = some (1450, .iload_n 3, 1, 0, 0, 0) := by decide +kernel
theorem lr_1451 : x_row (x_rws M_law) 1451 = some (1451, .iconst 1, 1, 0, 0, 0) := by decide +kernel
theorem lr_1452 : x_row (x_rws M_law) 1452 = some (1452, .iadd, 1, 0, 0, 0) := by decide +kernel
theorem lr_1453 : x_row (x_rws M_law) 1453 = some (1453, .iaload, 1, 0, 0, 0) := by decide +kernel
theorem lr_1454 : x_row (x_rws M_law) 1454 = some (1454, .invokevirtual 182, 3, 311, 1, 0) := by decide +kernel
theorem lr_1457 : x_row (x_rws M_law) 1457 = some (1457, .pop, 1, 0, 0, 0) := by decide +kernel
theorem lr_1458 : x_row (x_rws M_law) 1458 = some (1458, .goto 910, 3, 0, 0, 0) := by decide +kernel
theorem lr_1461 : x_row (x_rws M_law) 1461 = some (1461, .aload_n 1, 1, 0, 0, 0) := by decide +kernel
theorem lr_1462 : x_row (x_rws M_law) 1462 = some (1462, .invokevirtual 183, 3, 155, 0, 0) := by decide +kernel
theorem lr_1465 : x_row (x_rws M_law) 1465 = some (1465, .pop, 1, 0, 0, 0) := by decide +kernel
theorem lr_1466 : x_row (x_rws M_law) 1466 = some (1466, .aload_n 2, 1, 0, 0, 0) := by decide +kernel
theorem lr_1467 : x_row (x_rws M_law) 1467 = some (1467, .invokevirtual 186, 3, 312, 0, 0) := by decide +kernel
theorem lr_1470 : x_row (x_rws M_law) 1470 = some (1470, .pop, 1, 0, 0, 0) := by decide +kernel
theorem lr_1471 : x_row (x_rws M_law) 1471 = some (1471, .goto 897, 3, 0, 0, 0) := by decide +kernel
theorem lr_1474 : x_row (x_rws M_law) 1474 = some (1474, .aload_n 1, 1, 0, 0, 0) := by decide +kernel
theorem lr_1475 : x_row (x_rws M_law) 1475 = some (1475, .aload_n 0, 1, 0, 0, 0) := by decide +kernel
theorem lr_1476 : x_row (x_rws M_law) 1476 = some (1476, .iload_n 3, 1, 0, 0, 0) := by decide +kernel
theorem lr_1477 : x_row (x_rws M_law) 1477 = some (1477, .iconst 1, 1, 0, 0, 0) := by decide +kernel
theorem lr_1478 : x_row (x_rws M_law) 1478 = some (1478, .iadd, 1, 0, 0, 0) := by decide +kernel
theorem lr_1479 : x_row (x_rws M_law) 1479 = some (1479, .iaload, 1, 0, 0, 0) := by decide +kernel
theorem lr_1480 : x_row (x_rws M_law) 1480 = some (1480, .invokevirtual 187, 3, 156, 1, 0) := by decide +kernel
theorem lr_1483 : x_row (x_rws M_law) 1483 = some (1483, .pop, 1, 0, 0, 0) := by decide +kernel
theorem lr_1484 : x_row (x_rws M_law) 1484 = some (1484, .aload_n 2, 1, 0, 0, 0) := by decide +kernel
theorem lr_1485 : x_row (x_rws M_law) 1485 = some (1485, .aload_n 0, 1, 0, 0, 0) := by decide +kernel
theorem lr_1486 : x_row (x_rws M_law) 1486 = some (1486, .iload_n 3, 1, 0, 0, 0) := by decide +kernel
theorem lr_1487 : x_row (x_rws M_law) 1487 = some (1487, .iconst 1, 1, 0, 0, 0) := by decide +kernel
theorem lr_1488 : x_row (x_rws M_law) 1488 = some (1488, .iadd, 1, 0, 0, 0) := by decide +kernel
theorem lr_1489 : x_row (x_rws M_law) 1489 = some (1489, .iaload, 1, 0, 0, 0) := by decide +kernel
theorem lr_1490 : x_row (x_rws M_law) 1490 = some (1490, .invokevirtual 190, 3, 314, 1, 0) := by decide +kernel
theorem lr_1493 : x_row (x_rws M_law) 1493 = some (1493, .pop, 1, 0, 0, 0) := by decide +kernel
theorem lr_1494 : x_row (x_rws M_law) 1494 = some (1494, .goto 874, 3, 0, 0, 0) := by decide +kernel
theorem lr_1497 : x_row (x_rws M_law) 1497 = some (1497, .aload_n 1, 1, 0, 0, 0) := by decide +kernel
theorem lr_1498 : x_row (x_rws M_law) 1498 = some (1498, .aload_n 0, 1, 0, 0, 0) := by decide +kernel
theorem lr_1499 : x_row (x_rws M_law) 1499 = some (1499, .iload_n 3, 1, 0, 0, 0) := by decide +kernel
theorem lr_1500 : x_row (x_rws M_law) 1500 = some (1500, .iconst 1, 1, 0, 0, 0) := by decide +kernel
theorem lr_1501 : x_row (x_rws M_law) 1501 = some (1501, .iadd, 1, 0, 0, 0) := by decide +kernel
theorem lr_1502 : x_row (x_rws M_law) 1502 = some (1502, .iaload, 1, 0, 0, 0) := by decide +kernel
theorem lr_1503 : x_row (x_rws M_law) 1503 = some (1503, .aload_n 0, 1, 0, 0, 0) := by decide +kernel
theorem lr_1504 : x_row (x_rws M_law) 1504 = some (1504, .iload_n 3, 1, 0, 0, 0) := by decide +kernel
theorem lr_1505 : x_row (x_rws M_law) 1505 = some (1505, .iconst 2, 1, 0, 0, 0) := by decide +kernel
theorem lr_1506 : x_row (x_rws M_law) 1506 = some (1506, .iadd, 1, 0, 0, 0) := by decide +kernel
theorem lr_1507 : x_row (x_rws M_law) 1507 = some (1507, .iaload, 1, 0, 0, 0) := by decide +kernel
theorem lr_1508 : x_row (x_rws M_law) 1508 = some (1508, .invokevirtual 191, 3, 157, 2, 0) := by decide +kernel
theorem lr_1511 : x_row (x_rws M_law) 1511 = some (1511, .pop, 1, 0, 0, 0) := by decide +kernel
theorem lr_1512 : x_row (x_rws M_law) 1512 = some (1512, .aload_n 2, 1, 0, 0, 0) := by decide +kernel
theorem lr_1513 : x_row (x_rws M_law) 1513 = some (1513, .aload_n 0, 1, 0, 0, 0) := by decide +kernel
theorem lr_1514 : x_row (x_rws M_law) 1514 = some (1514, .iload_n 3, 1, 0, 0, 0) := by decide +kernel
theorem lr_1515 : x_row (x_rws M_law) 1515 = some (1515, .iconst 1, 1, 0, 0, 0) := by decide +kernel
theorem lr_1516 : x_row (x_rws M_law) 1516 = some (1516, .iadd, 1, 0, 0, 0) := by decide +kernel
theorem lr_1517 : x_row (x_rws M_law) 1517 = some (1517, .iaload, 1, 0, 0, 0) := by decide +kernel
theorem lr_1518 : x_row (x_rws M_law) 1518 = some (1518, .aload_n 0, 1, 0, 0, 0) := by decide +kernel
theorem lr_1519 : x_row (x_rws M_law) 1519 = some (1519, .iload_n 3, 1, 0, 0, 0) := by decide +kernel
theorem lr_1520 : x_row (x_rws M_law) 1520 = some (1520, .iconst 2, 1, 0, 0, 0) := by decide +kernel
theorem lr_1521 : x_row (x_rws M_law) 1521 = some (1521, .iadd, 1, 0, 0, 0) := by decide +kernel
theorem lr_1522 : x_row (x_rws M_law) 1522 = some (1522, .iaload, 1, 0, 0, 0) := by decide +kernel
theorem lr_1523 : x_row (x_rws M_law) 1523 = some (1523, .invokevirtual 194, 3, 316, 2, 0) := by decide +kernel
theorem lr_1526 : x_row (x_rws M_law) 1526 = some (1526, .pop, 1, 0, 0, 0) := by decide +kernel
theorem lr_1527 : x_row (x_rws M_law) 1527 = some (1527, .goto 841, 3, 0, 0, 0) := by decide +kernel
theorem lr_1530 : x_row (x_rws M_law) 1530 = some (1530, .aload_n 1, 1, 0, 0, 0) := by decide +kernel
theorem lr_1531 : x_row (x_rws M_law) 1531 = some (1531, .aload_n 0, 1, 0, 0, 0) := by decide +kernel
theorem lr_1532 : x_row (x_rws M_law) 1532 = some (1532, .iload_n 3, 1, 0, 0, 0) := by decide +kernel
theorem lr_1533 : x_row (x_rws M_law) 1533 = some (1533, .iconst 1, 1, 0, 0, 0) := by decide +kernel
theorem lr_1534 : x_row (x_rws M_law) 1534 = some (1534, .iadd, 1, 0, 0, 0) := by decide +kernel
theorem lr_1535 : x_row (x_rws M_law) 1535 = some (1535, .iaload, 1, 0, 0, 0) := by decide +kernel
theorem lr_1536 : x_row (x_rws M_law) 1536 = some (1536, .invokevirtual 195, 3, 158, 1, 0) := by decide +kernel
theorem lr_1539 : x_row (x_rws M_law) 1539 = some (1539, .pop, 1, 0, 0, 0) := by decide +kernel
theorem lr_1540 : x_row (x_rws M_law) 1540 = some (1540, .aload_n 2, 1, 0, 0, 0) := by decide +kernel
theorem lr_1541 : x_row (x_rws M_law) 1541 = some (1541, .aload_n 0, 1, 0, 0, 0) := by decide +kernel
theorem lr_1542 : x_row (x_rws M_law) 1542 = some (1542, .iload_n 3, 1, 0, 0, 0) := by decide +kernel
theorem lr_1543 : x_row (x_rws M_law) 1543 = some (1543, .iconst 1, 1, 0, 0, 0) := by decide +kernel
theorem lr_1544 : x_row (x_rws M_law) 1544 = some (1544, .iadd, 1, 0, 0, 0) := by decide +kernel
theorem lr_1545 : x_row (x_rws M_law) 1545 = some (1545, .iaload, 1, 0, 0, 0) := by decide +kernel
theorem lr_1546 : x_row (x_rws M_law) 1546 = some (1546, .invokevirtual 198, 3, 317, 1, 0) := by decide +kernel
theorem lr_1549 : x_row (x_rws M_law) 1549 = some (1549, .pop, 1, 0, 0, 0) := by decide +kernel
theorem lr_1550 : x_row (x_rws M_law) 1550 = some (1550, .goto 818, 3, 0, 0, 0) := by decide +kernel
theorem lr_1553 : x_row (x_rws M_law) 1553 = some (1553, .aload_n 1, 1, 0, 0, 0) := by decide +kernel
theorem lr_1554 : x_row (x_rws M_law) 1554 = some (1554, .aload_n 0, 1, 0, 0, 0) := by decide +kernel
theorem lr_1555 : x_row (x_rws M_law) 1555 = some (1555, .iload_n 3, 1, 0, 0, 0) := by decide +kernel
theorem lr_1556 : x_row (x_rws M_law) 1556 = some (1556, .iconst 1, 1, 0, 0, 0) := by decide +kernel
theorem lr_1557 : x_row (x_rws M_law) 1557 = some (1557, .iadd, 1, 0, 0, 0) := by decide +kernel
theorem lr_1558 : x_row (x_rws M_law) 1558 = some (1558, .iaload, 1, 0, 0, 0) := by decide +kernel
theorem lr_1559 : x_row (x_rws M_law) 1559 = some (1559, .aload_n 0, 1, 0, 0, 0) := by decide +kernel
theorem lr_1560 : x_row (x_rws M_law) 1560 = some (1560, .iload_n 3, 1, 0, 0, 0) := by decide +kernel
theorem lr_1561 : x_row (x_rws M_law) 1561 = some (1561, .iconst 2, 1, 0, 0, 0) := by decide +kernel
theorem lr_1562 : x_row (x_rws M_law) 1562 = some (1562, .iadd, 1, 0, 0, 0) := by decide +kernel
theorem lr_1563 : x_row (x_rws M_law) 1563 = some (1563, .iaload, 1, 0, 0, 0) := by decide +kernel
theorem lr_1564 : x_row (x_rws M_law) 1564 = some (1564, .aload_n 0, 1, 0, 0, 0) := by decide +kernel
theorem lr_1565 : x_row (x_rws M_law) 1565 = some (1565, .iload_n 3, 1, 0, 0, 0) := by decide +kernel
theorem lr_1566 : x_row (x_rws M_law) 1566 = some (1566, .iconst 3, 1, 0, 0, 0) := by decide +kernel
theorem lr_1567 : x_row (x_rws M_law) 1567 = some (1567, .iadd, 1, 0, 0, 0) := by decide +kernel
theorem lr_1568 : x_row (x_rws M_law) 1568 = some (1568, .iaload, 1, 0, 0, 0) := by decide +kernel
theorem lr_1569 : x_row (x_rws M_law) 1569 = some (1569, .invokevirtual 199, 3, 159, 3, 0) := by decide +kernel
theorem lr_1572 : x_row (x_rws M_law) 1572 = some (1572, .pop, 1, 0, 0, 0) := by decide +kernel
theorem lr_1573 : x_row (x_rws M_law) 1573 = some (1573, .aload_n 2, 1, 0, 0, 0) := by decide +kernel
theorem lr_1574 : x_row (x_rws M_law) 1574 = some (1574, .aload_n 0, 1, 0, 0, 0) := by decide +kernel
theorem lr_1575 : x_row (x_rws M_law) 1575 = some (1575, .iload_n 3, 1, 0, 0, 0) := by decide +kernel
theorem lr_1576 : x_row (x_rws M_law) 1576 = some (1576, .iconst 1, 1, 0, 0, 0) := by decide +kernel
theorem lr_1577 : x_row (x_rws M_law) 1577 = some (1577, .iadd, 1, 0, 0, 0) := by decide +kernel
theorem lr_1578 : x_row (x_rws M_law) 1578 = some (1578, .iaload, 1, 0, 0, 0) := by decide +kernel
theorem lr_1579 : x_row (x_rws M_law) 1579 = some (1579, .aload_n 0, 1, 0, 0, 0) := by decide +kernel
theorem lr_1580 : x_row (x_rws M_law) 1580 = some (1580, .iload_n 3, 1, 0, 0, 0) := by decide +kernel
theorem lr_1581 : x_row (x_rws M_law) 1581 = some (1581, .iconst 2, 1, 0, 0, 0) := by decide +kernel
theorem lr_1582 : x_row (x_rws M_law) 1582 = some (1582, .iadd, 1, 0, 0, 0) := by decide +kernel
theorem lr_1583 : x_row (x_rws M_law) 1583 = some (1583, .iaload, 1, 0, 0, 0) := by decide +kernel
theorem lr_1584 : x_row (x_rws M_law) 1584 = some (1584, .aload_n 0, 1, 0, 0, 0) := by decide +kernel
theorem lr_1585 : x_row (x_rws M_law) 1585 = some (1585, .iload_n 3, 1, 0, 0, 0) := by decide +kernel
theorem lr_1586 : x_row (x_rws M_law) 1586 = some (1586, .iconst 3, 1, 0, 0, 0) := by decide +kernel
theorem lr_1587 : x_row (x_rws M_law) 1587 = some (1587, .iadd, 1, 0, 0, 0) := by decide +kernel
theorem lr_1588 : x_row (x_rws M_law) 1588 = some (1588, .iaload, 1, 0, 0, 0) := by decide +kernel
theorem lr_1589 : x_row (x_rws M_law) 1589 = some (1589, .invokevirtual 203, 3, 319, 3, 0) := by decide +kernel
theorem lr_1592 : x_row (x_rws M_law) 1592 = some (1592, .pop, 1, 0, 0, 0) := by decide +kernel
theorem lr_1593 : x_row (x_rws M_law) 1593 = some (1593, .goto 775, 3, 0, 0, 0) := by decide +kernel
theorem lr_1596 : x_row (x_rws M_law) 1596 = some (1596, .aload_n 1, 1, 0, 0, 0) := by decide +kernel
theorem lr_1597 : x_row (x_rws M_law) 1597 = some (1597, .aload_n 0, 1, 0, 0, 0) := by decide +kernel
theorem lr_1598 : x_row (x_rws M_law) 1598 = some (1598, .iload_n 3, 1, 0, 0, 0) := by decide +kernel
theorem lr_1599 : x_row (x_rws M_law) 1599 = some (1599, .iconst 1, 1, 0, 0, 0) := by decide +kernel
theorem lr_1600 : x_row (x_rws M_law) 1600 = some (1600, .iadd, 1, 0, 0, 0) := by decide +kernel
theorem lr_1601 : x_row (x_rws M_law) 1601 = some (1601, .iaload, 1, 0, 0, 0) := by decide +kernel
theorem lr_1602 : x_row (x_rws M_law) 1602 = some (1602, .invokevirtual 204, 3, 160, 1, 0) := by decide +kernel
theorem lr_1605 : x_row (x_rws M_law) 1605 = some (1605, .pop, 1, 0, 0, 0) := by decide +kernel
theorem lr_1606 : x_row (x_rws M_law) 1606 = some (1606, .aload_n 2, 1, 0, 0, 0) := by decide +kernel
theorem lr_1607 : x_row (x_rws M_law) 1607 = some (1607, .aload_n 0, 1, 0, 0, 0) := by decide +kernel
theorem lr_1608 : x_row (x_rws M_law) 1608 = some (1608, .iload_n 3, 1, 0, 0, 0) := by decide +kernel
theorem lr_1609 : x_row (x_rws M_law) 1609 = some (1609, .iconst 1, 1, 0, 0, 0) := by decide +kernel
theorem lr_1610 : x_row (x_rws M_law) 1610 = some (1610, .iadd, 1, 0, 0, 0) := by decide +kernel
theorem lr_1611 : x_row (x_rws M_law) 1611 = some (1611, .iaload, 1, 0, 0, 0) := by decide +kernel
theorem lr_1612 : x_row (x_rws M_law) 1612 = some (1612, .invokevirtual 207, 3, 321, 1, 0) := by decide +kernel
theorem lr_1615 : x_row (x_rws M_law) 1615 = some (1615, .pop, 1, 0, 0, 0) := by decide +kernel
theorem lr_1616 : x_row (x_rws M_law) 1616 = some (1616, .goto 752, 3, 0, 0, 0) := by decide +kernel
theorem lr_1619 : x_row (x_rws M_law) 1619 = some (1619, .aload_n 1, 1, 0, 0, 0) := by decide +kernel
theorem lr_1620 : x_row (x_rws M_law) 1620 = some (1620, .aload_n 0, 1, 0, 0, 0) := by decide +kernel
theorem lr_1621 : x_row (x_rws M_law) 1621 = some (1621, .iload_n 3, 1, 0, 0, 0) := by decide +kernel
theorem lr_1622 : x_row (x_rws M_law) 1622 = some (1622, .iconst 1, 1, 0, 0, 0) := by decide +kernel
theorem lr_1623 : x_row (x_rws M_law) 1623 = some (1623, .iadd, 1, 0, 0, 0) := by decide +kernel
theorem lr_1624 : x_row (x_rws M_law) 1624 = some (1624, .iaload, 1, 0, 0, 0) := by decide +kernel
theorem lr_1625 : x_row (x_rws M_law) 1625 = some (1625, .invokevirtual 208, 3, 161, 1, 0) := by decide +kernel
theorem lr_1628 : x_row (x_rws M_law) 1628 = some (1628, .pop, 1, 0, 0, 0) := by decide +kernel
theorem lr_1629 : x_row (x_rws M_law) 1629 = some (1629, .aload_n 2, 1, 0, 0, 0) := by decide +kernel
theorem lr_1630 : x_row (x_rws M_law) 1630 = some (1630, .aload_n 0, 1, 0, 0, 0) := by decide +kernel
theorem lr_1631 : x_row (x_rws M_law) 1631 = some (1631, .iload_n 3, 1, 0, 0, 0) := by decide +kernel
theorem lr_1632 : x_row (x_rws M_law) 1632 = some (1632, .iconst 1, 1, 0, 0, 0) := by decide +kernel
theorem lr_1633 : x_row (x_rws M_law) 1633 = some (1633, .iadd, 1, 0, 0, 0) := by decide +kernel
theorem lr_1634 : x_row (x_rws M_law) 1634 = some (1634, .iaload, 1, 0, 0, 0) := by decide +kernel
theorem lr_1635 : x_row (x_rws M_law) 1635 = some (1635, .invokevirtual 211, 3, 322, 1, 0) := by decide +kernel
theorem lr_1638 : x_row (x_rws M_law) 1638 = some (1638, .pop, 1, 0, 0, 0) := by decide +kernel
theorem lr_1639 : x_row (x_rws M_law) 1639 = some (1639, .goto 729, 3, 0, 0, 0) := by decide +kernel
theorem lr_1642 : x_row (x_rws M_law) 1642 = some (1642, .aload_n 1, 1, 0, 0, 0) := by decide +kernel
theorem lr_1643 : x_row (x_rws M_law) 1643 = some (1643, .aload_n 0, 1, 0, 0, 0) := by decide +kernel
theorem lr_1644 : x_row (x_rws M_law) 1644 = some (1644, .iload_n 3, 1, 0, 0, 0) := by decide +kernel
theorem lr_1645 : x_row (x_rws M_law) 1645 = some (1645, .iconst 1, 1, 0, 0, 0) := by decide +kernel
theorem lr_1646 : x_row (x_rws M_law) 1646 = some (1646, .iadd, 1, 0, 0, 0) := by decide +kernel
theorem lr_1647 : x_row (x_rws M_law) 1647 = some (1647, .iaload, 1, 0, 0, 0) := by decide +kernel
theorem lr_1648 : x_row (x_rws M_law) 1648 = some (1648, .invokevirtual 212, 3, 162, 1, 0) := by decide +kernel
theorem lr_1651 : x_row (x_rws M_law) 1651 = some (1651, .pop, 1, 0, 0, 0) := by decide +kernel
theorem lr_1652 : x_row (x_rws M_law) 1652 = some (1652, .aload_n 2, 1, 0, 0, 0) := by decide +kernel
theorem lr_1653 : x_row (x_rws M_law) 1653 = some (1653, .aload_n 0, 1, 0, 0, 0) := by decide +kernel
theorem lr_1654 : x_row (x_rws M_law) 1654 = some (1654, .iload_n 3, 1, 0, 0, 0) := by decide +kernel
theorem lr_1655 : x_row (x_rws M_law) 1655 = some (1655, .iconst 1, 1, 0, 0, 0) := by decide +kernel
theorem lr_1656 : x_row (x_rws M_law) 1656 = some (1656, .iadd, 1, 0, 0, 0) := by decide +kernel
theorem lr_1657 : x_row (x_rws M_law) 1657 = some (1657, .iaload, 1, 0, 0, 0) := by decide +kernel
theorem lr_1658 : x_row (x_rws M_law) 1658 = some (1658, .invokevirtual 215, 3, 326, 1, 0) := by decide +kernel
theorem lr_1661 : x_row (x_rws M_law) 1661 = some (1661, .pop, 1, 0, 0, 0) := by decide +kernel
theorem lr_1662 : x_row (x_rws M_law) 1662 = some (1662, .goto 706, 3, 0, 0, 0) := by decide +kernel
theorem lr_1665 : x_row (x_rws M_law) 1665 = some (1665, .aload_n 1, 1, 0, 0, 0) := by decide +kernel
theorem lr_1666 : x_row (x_rws M_law) 1666 = some (1666, .aload_n 0, 1, 0, 0, 0) := by decide +kernel
theorem lr_1667 : x_row (x_rws M_law) 1667 = some (1667, .iload_n 3, 1, 0, 0, 0) := by decide +kernel
theorem lr_1668 : x_row (x_rws M_law) 1668 = some (1668, .iconst 1, 1, 0, 0, 0) := by decide +kernel
theorem lr_1669 : x_row (x_rws M_law) 1669 = some (1669, .iadd, 1, 0, 0, 0) := by decide +kernel
theorem lr_1670 : x_row (x_rws M_law) 1670 = some (1670, .iaload, 1, 0, 0, 0) := by decide +kernel
theorem lr_1671 : x_row (x_rws M_law) 1671 = some (1671, .invokevirtual 216, 3, 163, 1, 0) := by decide +kernel
theorem lr_1674 : x_row (x_rws M_law) 1674 = some (1674, .pop, 1, 0, 0, 0) := by decide +kernel
theorem lr_1675 : x_row (x_rws M_law) 1675 = some (1675, .aload_n 2, 1, 0, 0, 0) := by decide +kernel
theorem lr_1676 : x_row (x_rws M_law) 1676 = some (1676, .aload_n 0, 1, 0, 0, 0) := by decide +kernel
theorem lr_1677 : x_row (x_rws M_law) 1677 = some (1677, .iload_n 3, 1, 0, 0, 0) := by decide +kernel
theorem lr_1678 : x_row (x_rws M_law) 1678 = some (1678, .iconst 1, 1, 0, 0, 0) := by decide +kernel
theorem lr_1679 : x_row (x_rws M_law) 1679 = some (1679, .iadd, 1, 0, 0, 0) := by decide +kernel
theorem lr_1680 : x_row (x_rws M_law) 1680 = some (1680, .iaload, 1, 0, 0, 0) := by decide +kernel
theorem lr_1681 : x_row (x_rws M_law) 1681 = some (1681, .invokevirtual 219, 3, 327, 1, 0) := by decide +kernel
theorem lr_1684 : x_row (x_rws M_law) 1684 = some (1684, .pop, 1, 0, 0, 0) := by decide +kernel
theorem lr_1685 : x_row (x_rws M_law) 1685 = some (1685, .goto 683, 3, 0, 0, 0) := by decide +kernel
theorem lr_1688 : x_row (x_rws M_law) 1688 = some (1688, .aload_n 1, 1, 0, 0, 0) := by decide +kernel
theorem lr_1689 : x_row (x_rws M_law) 1689 = some (1689, .aload_n 0, 1, 0, 0, 0) := by decide +kernel
theorem lr_1690 : x_row (x_rws M_law) 1690 = some (1690, .iload_n 3, 1, 0, 0, 0) := by decide +kernel
theorem lr_1691 : x_row (x_rws M_law) 1691 = some (1691, .iconst 1, 1, 0, 0, 0) := by decide +kernel
theorem lr_1692 : x_row (x_rws M_law) 1692 = some (1692, .iadd, 1, 0, 0, 0) := by decide +kernel
theorem lr_1693 : x_row (x_rws M_law) 1693 = some (1693, .iaload, 1, 0, 0, 0) := by decide +kernel
theorem lr_1694 : x_row (x_rws M_law) 1694 = some (1694, .aload_n 0, 1, 0, 0, 0) := by decide +kernel
theorem lr_1695 : x_row (x_rws M_law) 1695 = some (1695, .iload_n 3, 1, 0, 0, 0) := by decide +kernel
theorem lr_1696 : x_row (x_rws M_law) 1696 = some (1696, .iconst 2, 1, 0, 0, 0) := by decide +kernel
theorem lr_1697 : x_row (x_rws M_law) 1697 = some (1697, .iadd, 1, 0, 0, 0) := by decide +kernel
theorem lr_1698 : x_row (x_rws M_law) 1698 = some (1698, .iaload, 1, 0, 0, 0) := by decide +kernel
theorem lr_1699 : x_row (x_rws M_law) 1699 = some (1699, .invokevirtual 220, 3, 164, 2, 0) := by decide +kernel
theorem lr_1702 : x_row (x_rws M_law) 1702 = some (1702, .pop, 1, 0, 0, 0) := by decide +kernel
theorem lr_1703 : x_row (x_rws M_law) 1703 = some (1703, .aload_n 2, 1, 0, 0, 0) := by decide +kernel
theorem lr_1704 : x_row (x_rws M_law) 1704 = some (1704, .aload_n 0, 1, 0, 0, 0) := by decide +kernel
theorem lr_1705 : x_row (x_rws M_law) 1705 = some (1705, .iload_n 3, 1, 0, 0, 0) := by decide +kernel
theorem lr_1706 : x_row (x_rws M_law) 1706 = some (1706, .iconst 1, 1, 0, 0, 0) := by decide +kernel
theorem lr_1707 : x_row (x_rws M_law) 1707 = some (1707, .iadd, 1, 0, 0, 0) := by decide +kernel
theorem lr_1708 : x_row (x_rws M_law) 1708 = some (1708, .iaload, 1, 0, 0, 0) := by decide +kernel
theorem lr_1709 : x_row (x_rws M_law) 1709 = some (1709, .aload_n 0, 1, 0, 0, 0) := by decide +kernel
theorem lr_1710 : x_row (x_rws M_law) 1710 = some (1710, .iload_n 3, 1, 0, 0, 0) := by decide +kernel
theorem lr_1711 : x_row (x_rws M_law) 1711 = some (1711, .iconst 2, 1, 0, 0, 0) := by decide +kernel
theorem lr_1712 : x_row (x_rws M_law) 1712 = some (1712, .iadd, 1, 0, 0, 0) := by decide +kernel
theorem lr_1713 : x_row (x_rws M_law) 1713 = some (1713, .iaload, 1, 0, 0, 0) := by decide +kernel
theorem lr_1714 : x_row (x_rws M_law) 1714 = some (1714, .invokevirtual 223, 3, 328, 2, 0) := by decide +kernel
theorem lr_1717 : x_row (x_rws M_law) 1717 = some (1717, .pop, 1, 0, 0, 0) := by decide +kernel
theorem lr_1718 : x_row (x_rws M_law) 1718 = some (1718, .goto 650, 3, 0, 0, 0) := by decide +kernel
theorem lr_1721 : x_row (x_rws M_law) 1721 = some (1721, .aload_n 1, 1, 0, 0, 0) := by decide +kernel
theorem lr_1722 : x_row (x_rws M_law) 1722 = some (1722, .aload_n 0, 1, 0, 0, 0) := by decide +kernel
theorem lr_1723 : x_row (x_rws M_law) 1723 = some (1723, .iload_n 3, 1, 0, 0, 0) := by decide +kernel
theorem lr_1724 : x_row (x_rws M_law) 1724 = some (1724, .iconst 1, 1, 0, 0, 0) := by decide +kernel
theorem lr_1725 : x_row (x_rws M_law) 1725 = some (1725, .iadd, 1, 0, 0, 0) := by decide +kernel
theorem lr_1726 : x_row (x_rws M_law) 1726 = some (1726, .iaload, 1, 0, 0, 0) := by decide +kernel
theorem lr_1727 : x_row (x_rws M_law) 1727 = some (1727, .invokevirtual 224, 3, 165, 1, 0) := by decide +kernel
theorem lr_1730 : x_row (x_rws M_law) 1730 = some (1730, .pop, 1, 0, 0, 0) := by decide +kernel
theorem lr_1731 : x_row (x_rws M_law) 1731 = some (1731, .aload_n 2, 1, 0, 0, 0) := by decide +kernel
theorem lr_1732 : x_row (x_rws M_law) 1732 = some (1732, .aload_n 0, 1, 0, 0, 0) := by decide +kernel
theorem lr_1733 : x_row (x_rws M_law) 1733 = some (1733, .iload_n 3, 1, 0, 0, 0) := by decide +kernel
theorem lr_1734 : x_row (x_rws M_law) 1734 = some (1734, .iconst 1, 1, 0, 0, 0) := by decide +kernel
theorem lr_1735 : x_row (x_rws M_law) 1735 = some (1735, .iadd, 1, 0, 0, 0) := by decide +kernel
theorem lr_1736 : x_row (x_rws M_law) 1736 = some (1736, .iaload, 1, 0, 0, 0) := by decide +kernel
theorem lr_1737 : x_row (x_rws M_law) 1737 = some (1737, .invokevirtual 227, 3, 330, 1, 0) := by decide +kernel
theorem lr_1740 : x_row (x_rws M_law) 1740 = some (1740, .pop, 1, 0, 0, 0) := by decide +kernel
theorem lr_1741 : x_row (x_rws M_law) 1741 = some (1741, .goto 627, 3, 0, 0, 0) := by decide +kernel
theorem lr_1744 : x_row (x_rws M_law) 1744 = some (1744, .aload_n 1, 1, 0, 0, 0) := by decide +kernel
theorem lr_1745 : x_row (x_rws M_law) 1745 = some (1745, .invokevirtual 228, 3, 166, 0, 0) := by decide +kernel
theorem lr_1748 : x_row (x_rws M_law) 1748 = some (1748, .pop, 1, 0, 0, 0) := by decide +kernel
theorem lr_1749 : x_row (x_rws M_law) 1749 = some (1749, .aload_n 2, 1, 0, 0, 0) := by decide +kernel
theorem lr_1750 : x_row (x_rws M_law) 1750 = some (1750, .invokevirtual 231, 3, 331, 0, 0) := by decide +kernel
theorem lr_1753 : x_row (x_rws M_law) 1753 = some (1753, .pop, 1, 0, 0, 0) := by decide +kernel
theorem lr_1754 : x_row (x_rws M_law) 1754 = some (1754, .goto 614, 3, 0, 0, 0) := by decide +kernel
theorem lr_1757 : x_row (x_rws M_law) 1757 = some (1757, .aload_n 1, 1, 0, 0, 0) := by decide +kernel
theorem lr_1758 : x_row (x_rws M_law) 1758 = some (1758, .invokevirtual 232, 3, 167, 0, 0) := by decide +kernel
theorem lr_1761 : x_row (x_rws M_law) 1761 = some (1761, .pop, 1, 0, 0, 0) := by decide +kernel
theorem lr_1762 : x_row (x_rws M_law) 1762 = some (1762, .aload_n 2, 1, 0, 0, 0) := by decide +kernel
theorem lr_1763 : x_row (x_rws M_law) 1763 = some (1763, .invokevirtual 235, 3, 333, 0, 0) := by decide +kernel
theorem lr_1766 : x_row (x_rws M_law) 1766 = some (1766, .pop, 1, 0, 0, 0) := by decide +kernel
theorem lr_1767 : x_row (x_rws M_law) 1767 = some (1767, .goto 601, 3, 0, 0, 0) := by decide +kernel
theorem lr_1770 : x_row (x_rws M_law) 1770 = some (1770, .aload_n 1, 1, 0, 0, 0) := by decide +kernel
theorem lr_1771 : x_row (x_rws M_law) 1771 = some (1771, .aload_n 0, 1, 0, 0, 0) := by decide +kernel
theorem lr_1772 : x_row (x_rws M_law) 1772 = some (1772, .iload_n 3, 1, 0, 0, 0) := by decide +kernel
theorem lr_1773 : x_row (x_rws M_law) 1773 = some (1773, .iconst 1, 1, 0, 0, 0) := by decide +kernel
theorem lr_1774 : x_row (x_rws M_law) 1774 = some (1774, .iadd, 1, 0, 0, 0) := by decide +kernel
theorem lr_1775 : x_row (x_rws M_law) 1775 = some (1775, .iaload, 1, 0, 0, 0) := by decide +kernel
theorem lr_1776 : x_row (x_rws M_law) 1776 = some (1776, .invokevirtual 236, 3, 168, 1, 0) := by decide +kernel
theorem lr_1779 : x_row (x_rws M_law) 1779 = some (1779, .aload_n 2, 1, 0, 0, 0) := by decide +kernel
theorem lr_1780 : x_row (x_rws M_law) 1780 = some (1780, .aload_n 0, 1, 0, 0, 0) := by decide +kernel
theorem lr_1781 : x_row (x_rws M_law) 1781 = some (1781, .iload_n 3, 1, 0, 0, 0) := by decide +kernel
theorem lr_1782 : x_row (x_rws M_law) 1782 = some (1782, .iconst 1, 1, 0, 0, 0) := by decide +kernel
theorem lr_1783 : x_row (x_rws M_law) 1783 = some (1783, .iadd, 1, 0, 0, 0) := by decide +kernel
theorem lr_1784 : x_row (x_rws M_law) 1784 = some (1784, .iaload, 1, 0, 0, 0) := by decide +kernel
theorem lr_1785 : x_row (x_rws M_law) 1785 = some (1785, .invokevirtual 239, 3, 335, 1, 0) := by decide +kernel
theorem lr_1793 : x_row (x_rws M_law) 1793 = some (1793, .aload_n 1, 1, 0, 0, 0) := by decide +kernel
theorem lr_1794 : x_row (x_rws M_law) 1794 = some (1794, .aload_n 0, 1, 0, 0, 0) := by decide +kernel
theorem lr_1795 : x_row (x_rws M_law) 1795 = some (1795, .iload_n 3, 1, 0, 0, 0) := by decide +kernel
theorem lr_1796 : x_row (x_rws M_law) 1796 = some (1796, .iconst 1, 1, 0, 0, 0) := by decide +kernel
theorem lr_1797 : x_row (x_rws M_law) 1797 = some (1797, .iadd, 1, 0, 0, 0) := by decide +kernel
theorem lr_1798 : x_row (x_rws M_law) 1798 = some (1798, .iaload, 1, 0, 0, 0) := by decide +kernel
theorem lr_1799 : x_row (x_rws M_law) 1799 = some (1799, .aload_n 0, 1, 0, 0, 0) := by decide +kernel
theorem lr_1800 : x_row (x_rws M_law) 1800 = some (1800, .iload_n 3, 1, 0, 0, 0) := by decide +kernel
theorem lr_1801 : x_row (x_rws M_law) 1801 = some (1801, .iconst 2, 1, 0, 0, 0) := by decide +kernel
theorem lr_1802 : x_row (x_rws M_law) 1802 = some (1802, .iadd, 1, 0, 0, 0) := by decide +kernel
theorem lr_1803 : x_row (x_rws M_law) 1803 = some (1803, .iaload, 1, 0, 0, 0) := by decide +kernel
theorem lr_1804 : x_row (x_rws M_law) 1804 = some (1804, .invokevirtual 240, 3, 169, 2, 0) := by decide +kernel
theorem lr_1807 : x_row (x_rws M_law) 1807 = some (1807, .pop, 1, 0, 0, 0) := by decide +kernel
theorem lr_1808 : x_row (x_rws M_law) 1808 = some (1808, .aload_n 2, 1, 0, 0, 0) := by decide +kernel
theorem lr_1809 : x_row (x_rws M_law) 1809 = some (1809, .aload_n 0, 1, 0, 0, 0) := by decide +kernel
theorem lr_1810 : x_row (x_rws M_law) 1810 = some (1810, .iload_n 3, 1, 0, 0, 0) := by decide +kernel
theorem lr_1811 : x_row (x_rws M_law) 1811 = some (1811, .iconst 1, 1, 0, 0, 0) := by decide +kernel
theorem lr_1812 : x_row (x_rws M_law) 1812 = some (1812, .iadd, 1, 0, 0, 0) := by decide +kernel
theorem lr_1813 : x_row (x_rws M_law) 1813 = some (1813, .iaload, 1, 0, 0, 0) := by decide +kernel
theorem lr_1814 : x_row (x_rws M_law) 1814 = some (1814, .aload_n 0, 1, 0, 0, 0) := by decide +kernel
theorem lr_1815 : x_row (x_rws M_law) 1815 = some (1815, .iload_n 3, 1, 0, 0, 0) := by decide +kernel
theorem lr_1816 : x_row (x_rws M_law) 1816 = some (1816, .iconst 2, 1, 0, 0, 0) := by decide +kernel
theorem lr_1817 : x_row (x_rws M_law) 1817 = some (1817, .iadd, 1, 0, 0, 0) := by decide +kernel
theorem lr_1818 : x_row (x_rws M_law) 1818 = some (1818, .iaload, 1, 0, 0, 0) := by decide +kernel
theorem lr_1819 : x_row (x_rws M_law) 1819 = some (1819, .invokevirtual 243, 3, 336, 2, 0) := by decide +kernel
theorem lr_1822 : x_row (x_rws M_law) 1822 = some (1822, .pop, 1, 0, 0, 0) := by decide +kernel
theorem lr_1823 : x_row (x_rws M_law) 1823 = some (1823, .goto 545, 3, 0, 0, 0) := by decide +kernel
theorem lr_1826 : x_row (x_rws M_law) 1826 = some (1826, .aload_n 1, 1, 0, 0, 0) := by decide +kernel
theorem lr_1827 : x_row (x_rws M_law) 1827 = some (1827, .aload_n 0, 1, 0, 0, 0) := by decide +kernel
theorem lr_1828 : x_row (x_rws M_law) 1828 = some (1828, .iload_n 3, 1, 0, 0, 0) := by decide +kernel
theorem lr_1829 : x_row (x_rws M_law) 1829 = some (1829, .iconst 1, 1, 0, 0, 0) := by decide +kernel
theorem lr_1830 : x_row (x_rws M_law) 1830 = some (1830, .iadd, 1, 0, 0, 0) := by decide +kernel
theorem lr_1831 : x_row (x_rws M_law) 1831 = some (1831, .iaload, 1, 0, 0, 0) := by decide +kernel
theorem lr_1832 : x_row (x_rws M_law) 1832 = some (1832, .aload_n 0, 1, 0, 0, 0) := by decide +kernel
theorem lr_1833 : x_row (x_rws M_law) 1833 = some (1833, .iload_n 3, 1, 0, 0, 0) := by decide +kernel
theorem lr_1834 : x_row (x_rws M_law) 1834 = some (1834, .iconst 2, 1, 0, 0, 0) := by decide +kernel
theorem lr_1835 : x_row (x_rws M_law) 1835 = some (1835, .iadd, 1, 0, 0, 0) := by decide +kernel
theorem lr_1836 : x_row (x_rws M_law) 1836 = some (1836, .iaload, 1, 0, 0, 0) := by decide +kernel
theorem lr_1837 : x_row (x_rws M_law) 1837 = some (1837, .invokevirtual 244, 3, 170, 2, 0) := by decide +kernel
theorem lr_1840 : x_row (x_rws M_law) 1840 = some (1840, .pop, 1, 0, 0, 0) := by decide +kernel
theorem lr_1841 : x_row (x_rws M_law) 1841 = some (1841, .aload_n 2, 1, 0, 0, 0) := by decide +kernel
theorem lr_1842 : x_row (x_rws M_law) 1842 = some (1842, .aload_n 0, 1, 0, 0, 0) := by decide +kernel
theorem lr_1843 : x_row (x_rws M_law) 1843 = some (1843, .iload_n 3, 1, 0, 0, 0) := by decide +kernel
theorem lr_1844 : x_row (x_rws M_law) 1844 = some (1844, .iconst 1, 1, 0, 0, 0) := by decide +kernel
theorem lr_1845 : x_row (x_rws M_law) 1845 = some (1845, .iadd, 1, 0, 0, 0) := by decide +kernel
theorem lr_1846 : x_row (x_rws M_law) 1846 = some (1846, .iaload, 1, 0, 0, 0) := by decide +kernel
theorem lr_1847 : x_row (x_rws M_law) 1847 = some (1847, .aload_n 0, 1, 0, 0, 0) := by decide +kernel
theorem lr_1848 : x_row (x_rws M_law) 1848 = some (1848, .iload_n 3, 1, 0, 0, 0) := by decide +kernel
theorem lr_1849 : x_row (x_rws M_law) 1849 = some (1849, .iconst 2, 1, 0, 0, 0) := by decide +kernel
theorem lr_1850 : x_row (x_rws M_law) 1850 = some (1850, .iadd, 1, 0, 0, 0) := by decide +kernel
theorem lr_1851 : x_row (x_rws M_law) 1851 = some (1851, .iaload, 1, 0, 0, 0) := by decide +kernel
theorem lr_1852 : x_row (x_rws M_law) 1852 = some (1852, .invokevirtual 247, 3, 337, 2, 0) := by decide +kernel
theorem lr_1855 : x_row (x_rws M_law) 1855 = some (1855, .pop, 1, 0, 0, 0) := by decide +kernel
theorem lr_1856 : x_row (x_rws M_law) 1856 = some (1856, .goto 512, 3, 0, 0, 0) := by decide +kernel
theorem lr_1859 : x_row (x_rws M_law) 1859 = some (1859, .aload_n 1, 1, 0, 0, 0) := by decide +kernel
theorem lr_1860 : x_row (x_rws M_law) 1860 = some (1860, .aload_n 0, 1, 0, 0, 0) := by decide +kernel
theorem lr_1861 : x_row (x_rws M_law) 1861 = some (1861, .iload_n 3, 1, 0, 0, 0) := by decide +kernel
theorem lr_1862 : x_row (x_rws M_law) 1862 = some (1862, .iconst 1, 1, 0, 0, 0) := by decide +kernel
theorem lr_1863 : x_row (x_rws M_law) 1863 = some (1863, .iadd, 1, 0, 0, 0) := by decide +kernel
theorem lr_1864 : x_row (x_rws M_law) 1864 = some (1864, .iaload, 1, 0, 0, 0) := by decide +kernel
theorem lr_1865 : x_row (x_rws M_law) 1865 = some (1865, .invokevirtual 248, 3, 171, 1, 0) := by decide +kernel
theorem lr_1868 : x_row (x_rws M_law) 1868 = some (1868, .pop, 1, 0, 0, 0) := by decide +kernel
theorem lr_1869 : x_row (x_rws M_law) 1869 = some (1869, .aload_n 2, 1, 0, 0, 0) := by decide +kernel
theorem lr_1870 : x_row (x_rws M_law) 1870 = some (1870, .aload_n 0, 1, 0, 0, 0) := by decide +kernel
theorem lr_1871 : x_row (x_rws M_law) 1871 = some (1871, .iload_n 3, 1, 0, 0, 0) := by decide +kernel
theorem lr_1872 : x_row (x_rws M_law) 1872 = some (1872, .iconst 1, 1, 0, 0, 0) := by decide +kernel
theorem lr_1873 : x_row (x_rws M_law) 1873 = some (1873, .iadd, 1, 0, 0, 0) := by decide +kernel
theorem lr_1874 : x_row (x_rws M_law) 1874 = some (1874, .iaload, 1, 0, 0, 0) := by decide +kernel
theorem lr_1875 : x_row (x_rws M_law) 1875 = some (1875, .invokevirtual 251, 3, 338, 1, 0) := by decide +kernel
theorem lr_1878 : x_row (x_rws M_law) 1878 = some (1878, .pop, 1, 0, 0, 0) := by decide +kernel
theorem lr_1879 : x_row (x_rws M_law) 1879 = some (1879, .goto 489, 3, 0, 0, 0) := by decide +kernel
theorem lr_1882 : x_row (x_rws M_law) 1882 = some (1882, .aload_n 1, 1, 0, 0, 0) := by decide +kernel
theorem lr_1883 : x_row (x_rws M_law) 1883 = some (1883, .aload_n 0, 1, 0, 0, 0) := by decide +kernel
theorem lr_1884 : x_row (x_rws M_law) 1884 = some (1884, .iload_n 3, 1, 0, 0, 0) := by decide +kernel
theorem lr_1885 : x_row (x_rws M_law) 1885 = some (1885, .iconst 1, 1, 0, 0, 0) := by decide +kernel
theorem lr_1886 : x_row (x_rws M_law) 1886 = some (1886, .iadd, 1, 0, 0, 0) := by decide +kernel
theorem lr_1887 : x_row (x_rws M_law) 1887 = some (1887, .iaload, 1, 0, 0, 0) := by decide +kernel
theorem lr_1888 : x_row (x_rws M_law) 1888 = some (1888, .invokevirtual 252, 3, 139, 1, 0) := by decide +kernel
theorem lr_1891 : x_row (x_rws M_law) 1891 = some (1891, .pop, 1, 0, 0, 0) := by decide +kernel
theorem lr_1892 : x_row (x_rws M_law) 1892 = some (1892, .aload_n 2, 1, 0, 0, 0) := by decide +kernel
theorem lr_1893 : x_row (x_rws M_law) 1893 = some (1893, .aload_n 0, 1, 0, 0, 0) := by decide +kernel
theorem lr_1894 : x_row (x_rws M_law) 1894 = some (1894, .iload_n 3, 1, 0, 0, 0) := by decide +kernel
theorem lr_1895 : x_row (x_rws M_law) 1895 = some (1895, .iconst 1, 1, 0, 0, 0) := by decide +kernel
theorem lr_1896 : x_row (x_rws M_law) 1896 = some (1896, .iadd, 1, 0, 0, 0) := by decide +kernel
theorem lr_1897 : x_row (x_rws M_law) 1897 = some (1897, .iaload, 1, 0, 0, 0) := by decide +kernel
theorem lr_1898 : x_row (x_rws M_law) 1898 = some (1898, .invokevirtual 255, 3, 339, 1, 0) := by decide +kernel
theorem lr_1901 : x_row (x_rws M_law) 1901 = some (1901, .pop, 1, 0, 0, 0) := by decide +kernel
theorem lr_1902 : x_row (x_rws M_law) 1902 = some (1902, .goto 466, 3, 0, 0, 0) := by decide +kernel
theorem lr_1905 : x_row (x_rws M_law) 1905 = some (1905, .aload_n 1, 1, 0, 0, 0) := by decide +kernel
theorem lr_1906 : x_row (x_rws M_law) 1906 = some (1906, .aload_n 0, 1, 0, 0, 0) := by decide +kernel
theorem lr_1907 : x_row (x_rws M_law) 1907 = some (1907, .iload_n 3, 1, 0, 0, 0) := by decide +kernel
theorem lr_1908 : x_row (x_rws M_law) 1908 = some (1908, .iconst 1, 1, 0, 0, 0) := by decide +kernel
theorem lr_1909 : x_row (x_rws M_law) 1909 = some (1909, .iadd, 1, 0, 0, 0) := by decide +kernel
theorem lr_1910 : x_row (x_rws M_law) 1910 = some (1910, .iaload, 1, 0, 0, 0) := by decide +kernel
theorem lr_1911 : x_row (x_rws M_law) 1911 = some (1911, .aload_n 0, 1, 0, 0, 0) := by decide +kernel
theorem lr_1912 : x_row (x_rws M_law) 1912 = some (1912, .iload_n 3, 1, 0, 0, 0) := by decide +kernel
theorem lr_1913 : x_row (x_rws M_law) 1913 = some (1913, .iconst 2, 1, 0, 0, 0) := by decide +kernel
theorem lr_1914 : x_row (x_rws M_law) 1914 = some (1914, .iadd, 1, 0, 0, 0) := by decide +kernel
theorem lr_1915 : x_row (x_rws M_law) 1915 = some (1915, .iaload, 1, 0, 0, 0) := by decide +kernel
theorem lr_1916 : x_row (x_rws M_law) 1916 = some (1916, .invokevirtual 256, 3, 172, 2, 0) := by decide +kernel
theorem lr_1919 : x_row (x_rws M_law) 1919 = some (1919, .pop, 1, 0, 0, 0) := by decide +kernel
theorem lr_1920 : x_row (x_rws M_law) 1920 = some (1920, .aload_n 2, 1, 0, 0, 0) := by decide +kernel
theorem lr_1921 : x_row (x_rws M_law) 1921 = some (1921, .aload_n 0, 1, 0, 0, 0) := by decide +kernel
theorem lr_1922 : x_row (x_rws M_law) 1922 = some (1922, .iload_n 3, 1, 0, 0, 0) := by decide +kernel
theorem lr_1923 : x_row (x_rws M_law) 1923 = some (1923, .iconst 1, 1, 0, 0, 0) := by decide +kernel
theorem lr_1924 : x_row (x_rws M_law) 1924 = some (1924, .iadd, 1, 0, 0, 0) := by decide +kernel
theorem lr_1925 : x_row (x_rws M_law) 1925 = some (1925, .iaload, 1, 0, 0, 0) := by decide +kernel
theorem lr_1926 : x_row (x_rws M_law) 1926 = some (1926, .aload_n 0, 1, 0, 0, 0) := by decide +kernel
theorem lr_1927 : x_row (x_rws M_law) 1927 = some (1927, .iload_n 3, 1, 0, 0, 0) := by decide +kernel
theorem lr_1928 : x_row (x_rws M_law) 1928 = some (1928, .iconst 2, 1, 0, 0, 0) := by decide +kernel
theorem lr_1929 : x_row (x_rws M_law) 1929 = some (1929, .iadd, 1, 0, 0, 0) := by decide +kernel
theorem lr_1930 : x_row (x_rws M_law) 1930 = some (1930, .iaload, 1, 0, 0, 0) := by decide +kernel
theorem lr_1931 : x_row (x_rws M_law) 1931 = some (1931, .invokevirtual 259, 3, 340, 2, 0) := by decide +kernel
theorem lr_1934 : x_row (x_rws M_law) 1934 = some (1934, .pop, 1, 0, 0, 0) := by decide +kernel
theorem lr_1935 : x_row (x_rws M_law) 1935 = some (1935, .goto 433, 3, 0, 0, 0) := by decide +kernel
theorem lr_1938 : x_row (x_rws M_law) 1938 = some (1938, .aload_n 1, 1, 0, 0, 0) := by decide +kernel
theorem lr_1939 : x_row (x_rws M_law) 1939 = some (1939, .aload_n 0, 1, 0, 0, 0) := by decide +kernel
theorem lr_1940 : x_row (x_rws M_law) 1940 = some (1940, .iload_n 3, 1, 0, 0, 0) := by decide +kernel
theorem lr_1941 : x_row (x_rws M_law) 1941 = some (1941, .iconst 1, 1, 0, 0, 0) := by decide +kernel
theorem lr_1942 : x_row (x_rws M_law) 1942 = some (1942, .iadd, 1, 0, 0, 0) := by decide +kernel
theorem lr_1943 : x_row (x_rws M_law) 1943 = some (1943, .iaload, 1, 0, 0, 0) := by decide +kernel
theorem lr_1944 : x_row (x_rws M_law) 1944 = some (1944, .aload_n 0, 1, 0, 0, 0) := by decide +kernel
theorem lr_1945 : x_row (x_rws M_law) 1945 = some (1945, .iload_n 3, 1, 0, 0, 0) := by decide +kernel
theorem lr_1946 : x_row (x_rws M_law) 1946 = some (1946, .iconst 2, 1, 0, 0, 0) := by decide +kernel
theorem lr_1947 : x_row (x_rws M_law) 1947 = some (1947, .iadd, 1, 0, 0, 0) := by decide +kernel
theorem lr_1948 : x_row (x_rws M_law) 1948 = some (1948, .iaload, 1, 0, 0, 0) := by decide +kernel
theorem lr_1949 : x_row (x_rws M_law) 1949 = some (1949, .aload_n 0, 1, 0, 0, 0) := by decide +kernel
theorem lr_1950 : x_row (x_rws M_law) 1950 = some (1950, .iload_n 3, 1, 0, 0, 0) := by decide +kernel
theorem lr_1951 : x_row (x_rws M_law) 1951 = some (1951, .iconst 3, 1, 0, 0, 0) := by decide +kernel
theorem lr_1952 : x_row (x_rws M_law) 1952 = some (1952, .iadd, 1, 0, 0, 0) := by decide +kernel
theorem lr_1953 : x_row (x_rws M_law) 1953 = some (1953, .iaload, 1, 0, 0, 0) := by decide +kernel
theorem lr_1954 : x_row (x_rws M_law) 1954 = some (1954, .invokevirtual 260, 3, 173, 3, 0) := by decide +kernel
theorem lr_1957 : x_row (x_rws M_law) 1957 = some (1957, .pop, 1, 0, 0, 0) := by decide +kernel
theorem lr_1958 : x_row (x_rws M_law) 1958 = some (1958, .aload_n 2, 1, 0, 0, 0) := by decide +kernel
theorem lr_1959 : x_row (x_rws M_law) 1959 = some (1959, .aload_n 0, 1, 0, 0, 0) := by decide +kernel
theorem lr_1960 : x_row (x_rws M_law) 1960 = some (1960, .iload_n 3, 1, 0, 0, 0) := by decide +kernel
theorem lr_1961 : x_row (x_rws M_law) 1961 = some (1961, .iconst 1, 1, 0, 0, 0) := by decide +kernel
theorem lr_1962 : x_row (x_rws M_law) 1962 = some (1962, .iadd, 1, 0, 0, 0) := by decide +kernel
theorem lr_1963 : x_row (x_rws M_law) 1963 = some (1963, .iaload, 1, 0, 0, 0) := by decide +kernel
theorem lr_1964 : x_row (x_rws M_law) 1964 = some (1964, .aload_n 0, 1, 0, 0, 0) := by decide +kernel
theorem lr_1965 : x_row (x_rws M_law) 1965 = some (1965, .iload_n 3, 1, 0, 0, 0) := by decide +kernel
theorem lr_1966 : x_row (x_rws M_law) 1966 = some (1966, .iconst 2, 1, 0, 0, 0) := by decide +kernel
theorem lr_1967 : x_row (x_rws M_law) 1967 = some (1967, .iadd, 1, 0, 0, 0) := by decide +kernel
theorem lr_1968 : x_row (x_rws M_law) 1968 = some (1968, .iaload, 1, 0, 0, 0) := by decide +kernel
theorem lr_1969 : x_row (x_rws M_law) 1969 = some (1969, .aload_n 0, 1, 0, 0, 0) := by decide +kernel
theorem lr_1970 : x_row (x_rws M_law) 1970 = some (1970, .iload_n 3, 1, 0, 0, 0) := by decide +kernel
theorem lr_1971 : x_row (x_rws M_law) 1971 = some (1971, .iconst 3, 1, 0, 0, 0) := by decide +kernel
theorem lr_1972 : x_row (x_rws M_law) 1972 = some (1972, .iadd, 1, 0, 0, 0) := by decide +kernel
theorem lr_1973 : x_row (x_rws M_law) 1973 = some (1973, .iaload, 1, 0, 0, 0) := by decide +kernel
theorem lr_1974 : x_row (x_rws M_law) 1974 = some (1974, .invokevirtual 263, 3, 341, 3, 0) := by decide +kernel
theorem lr_1977 : x_row (x_rws M_law) 1977 = some (1977, .pop, 1, 0, 0, 0) := by decide +kernel
theorem lr_1978 : x_row (x_rws M_law) 1978 = some (1978, .goto 390, 3, 0, 0, 0) := by decide +kernel
theorem lr_1981 : x_row (x_rws M_law) 1981 = some (1981, .aload_n 1, 1, 0, 0, 0) := by decide +kernel
theorem lr_1982 : x_row (x_rws M_law) 1982 = some (1982, .aload_n 0, 1, 0, 0, 0) := by decide +kernel
theorem lr_1983 : x_row (x_rws M_law) 1983 = some (1983, .iload_n 3, 1, 0, 0, 0) := by decide +kernel
theorem lr_1984 : x_row (x_rws M_law) 1984 = some (1984, .iconst 1, 1, 0, 0, 0) := by decide +kernel
theorem lr_1985 : x_row (x_rws M_law) 1985 = some (1985, .iadd, 1, 0, 0, 0) := by decide +kernel
theorem lr_1986 : x_row (x_rws M_law) 1986 = some (1986, .iaload, 1, 0, 0, 0) := by decide +kernel
theorem lr_1987 : x_row (x_rws M_law) 1987 = some (1987, .aload_n 0, 1, 0, 0, 0) := by decide +kernel
theorem lr_1988 : x_row (x_rws M_law) 1988 = some (1988, .iload_n 3, 1, 0, 0, 0) := by decide +kernel
theorem lr_1989 : x_row (x_rws M_law) 1989 = some (1989, .iconst 2, 1, 0, 0, 0) := by decide +kernel
theorem lr_1990 : x_row (x_rws M_law) 1990 = some (1990, .iadd, 1, 0, 0, 0) := by decide +kernel
theorem lr_1991 : x_row (x_rws M_law) 1991 = some (1991, .iaload, 1, 0, 0, 0) := by decide +kernel
theorem lr_1992 : x_row (x_rws M_law) 1992 = some (1992, .aload_n 0, 1, 0, 0, 0) := by decide +kernel
theorem lr_1993 : x_row (x_rws M_law) 1993 = some (1993, .iload_n 3, 1, 0, 0, 0) := by decide +kernel
theorem lr_1994 : x_row (x_rws M_law) 1994 = some (1994, .iconst 3, 1, 0, 0, 0) := by decide +kernel
theorem lr_1995 : x_row (x_rws M_law) 1995 = some (1995, .iadd, 1, 0, 0, 0) := by decide +kernel
theorem lr_1996 : x_row (x_rws M_law) 1996 = some (1996, .iaload, 1, 0, 0, 0) := by decide +kernel
theorem lr_1997 : x_row (x_rws M_law) 1997 = some (1997, .invokevirtual 264, 3, 174, 3, 0) := by decide +kernel
theorem lr_2000 : x_row (x_rws M_law) 2000 = some (2000, .pop, 1, 0, 0, 0) := by decide +kernel
theorem lr_2001 : x_row (x_rws M_law) 2001 = some (2001, .aload_n 2, 1, 0, 0, 0) := by decide +kernel
theorem lr_2002 : x_row (x_rws M_law) 2002 = some (2002, .aload_n 0, 1, 0, 0, 0) := by decide +kernel
theorem lr_2003 : x_row (x_rws M_law) 2003 = some (2003, .iload_n 3, 1, 0, 0, 0) := by decide +kernel
theorem lr_2004 : x_row (x_rws M_law) 2004 = some (2004, .iconst 1, 1, 0, 0, 0) := by decide +kernel
theorem lr_2005 : x_row (x_rws M_law) 2005 = some (2005, .iadd, 1, 0, 0, 0) := by decide +kernel
theorem lr_2006 : x_row (x_rws M_law) 2006 = some (2006, .iaload, 1, 0, 0, 0) := by decide +kernel
theorem lr_2007 : x_row (x_rws M_law) 2007 = some (2007, .aload_n 0, 1, 0, 0, 0) := by decide +kernel
theorem lr_2008 : x_row (x_rws M_law) 2008 = some (2008, .iload_n 3, 1, 0, 0, 0) := by decide +kernel
theorem lr_2009 : x_row (x_rws M_law) 2009 = some (2009, .iconst 2, 1, 0, 0, 0) := by decide +kernel
theorem lr_2010 : x_row (x_rws M_law) 2010 = some (2010, .iadd, 1, 0, 0, 0) := by decide +kernel
theorem lr_2011 : x_row (x_rws M_law) 2011 = some (2011, .iaload, 1, 0, 0, 0) := by decide +kernel
theorem lr_2012 : x_row (x_rws M_law) 2012 = some (2012, .aload_n 0, 1, 0, 0, 0) := by decide +kernel
theorem lr_2013 : x_row (x_rws M_law) 2013 = some (2013, .iload_n 3, 1, 0, 0, 0) := by decide +kernel
theorem lr_2014 : x_row (x_rws M_law) 2014 = some (2014, .iconst 3, 1, 0, 0, 0) := by decide +kernel
theorem lr_2015 : x_row (x_rws M_law) 2015 = some (2015, .iadd, 1, 0, 0, 0) := by decide +kernel
theorem lr_2016 : x_row (x_rws M_law) 2016 = some (2016, .iaload, 1, 0, 0, 0) := by decide +kernel
theorem lr_2017 : x_row (x_rws M_law) 2017 = some (2017, .invokevirtual 267, 3, 346, 3, 0) := by decide +kernel
theorem lr_2020 : x_row (x_rws M_law) 2020 = some (2020, .pop, 1, 0, 0, 0) := by decide +kernel
theorem lr_2021 : x_row (x_rws M_law) 2021 = some (2021, .goto 347, 3, 0, 0, 0) := by decide +kernel
theorem lr_2024 : x_row (x_rws M_law) 2024 = some (2024, .aload_n 1, 1, 0, 0, 0) := by decide +kernel
theorem lr_2025 : x_row (x_rws M_law) 2025 = some (2025, .aload_n 0, 1, 0, 0, 0) := by decide +kernel
theorem lr_2026 : x_row (x_rws M_law) 2026 = some (2026, .iload_n 3, 1, 0, 0, 0) := by decide +kernel
theorem lr_2027 : x_row (x_rws M_law) 2027 = some (2027, .iconst 1, 1, 0, 0, 0) := by decide +kernel
theorem lr_2028 : x_row (x_rws M_law) 2028 = some (2028, .iadd, 1, 0, 0, 0) := by decide +kernel
theorem lr_2029 : x_row (x_rws M_law) 2029 = some (2029, .iaload, 1, 0, 0, 0) := by decide +kernel
theorem lr_2030 : x_row (x_rws M_law) 2030 = some (2030, .aload_n 0, 1, 0, 0, 0) := by decide +kernel
theorem lr_2031 : x_row (x_rws M_law) 2031 = some (2031, .iload_n 3, 1, 0, 0, 0) := by decide +kernel
theorem lr_2032 : x_row (x_rws M_law) 2032 = some (2032, .iconst 2, 1, 0, 0, 0) := by decide +kernel
theorem lr_2033 : x_row (x_rws M_law) 2033 = some (2033, .iadd, 1, 0, 0, 0) := by decide +kernel
theorem lr_2034 : x_row (x_rws M_law) 2034 = some (2034, .iaload, 1, 0, 0, 0) := by decide +kernel
theorem lr_2035 : x_row (x_rws M_law) 2035 = some (2035, .aload_n 0, 1, 0, 0, 0) := by decide +kernel
theorem lr_2036 : x_row (x_rws M_law) 2036 = some (2036, .iload_n 3, 1, 0, 0, 0) := by decide +kernel
theorem lr_2037 : x_row (x_rws M_law) 2037 = some (2037, .iconst 3, 1, 0, 0, 0) := by decide +kernel
theorem lr_2038 : x_row (x_rws M_law) 2038 = some (2038, .iadd, 1, 0, 0, 0) := by decide +kernel
theorem lr_2039 : x_row (x_rws M_law) 2039 = some (2039, .iaload, 1, 0, 0, 0) := by decide +kernel
theorem lr_2040 : x_row (x_rws M_law) 2040 = some (2040, .invokevirtual 268, 3, 175, 3, 0) := by decide +kernel
theorem lr_2043 : x_row (x_rws M_law) 2043 = some (2043, .pop, 1, 0, 0, 0) := by decide +kernel
theorem lr_2044 : x_row (x_rws M_law) 2044 = some (2044, .aload_n 2, 1, 0, 0, 0) := by decide +kernel
theorem lr_2045 : x_row (x_rws M_law) 2045 = some (2045, .aload_n 0, 1, 0, 0, 0) := by decide +kernel
theorem lr_2046 : x_row (x_rws M_law) 2046 = some (2046, .iload_n 3, 1, 0, 0, 0) := by decide +kernel
theorem lr_2047 : x_row (x_rws M_law) 2047 = some (2047, .iconst 1, 1, 0, 0, 0) := by decide +kernel
theorem lr_2048 : x_row (x_rws M_law) 2048 = some (2048, .iadd, 1, 0, 0, 0) := by decide +kernel
theorem lr_2049 : x_row (x_rws M_law) 2049 = some (2049, .iaload, 1, 0, 0, 0) := by decide +kernel
theorem lr_2050 : x_row (x_rws M_law) 2050 = some (2050, .aload_n 0, 1, 0, 0, 0) := by decide +kernel
theorem lr_2051 : x_row (x_rws M_law) 2051 = some (2051, .iload_n 3, 1, 0, 0, 0) := by decide +kernel
theorem lr_2052 : x_row (x_rws M_law) 2052 = some (2052, .iconst 2, 1, 0, 0, 0) := by decide +kernel
theorem lr_2053 : x_row (x_rws M_law) 2053 = some (2053, .iadd, 1, 0, 0, 0) := by decide +kernel
theorem lr_2054 : x_row (x_rws M_law) 2054 = some (2054, .iaload, 1, 0, 0, 0) := by decide +kernel
theorem lr_2055 : x_row (x_rws M_law) 2055 = some (2055, .aload_n 0, 1, 0, 0, 0) := by decide +kernel
theorem lr_2056 : x_row (x_rws M_law) 2056 = some (2056, .iload_n 3, 1, 0, 0, 0) := by decide +kernel
theorem lr_2057 : x_row (x_rws M_law) 2057 = some (2057, .iconst 3, 1, 0, 0, 0) := by decide +kernel
theorem lr_2058 : x_row (x_rws M_law) 2058 = some (2058, .iadd, 1, 0, 0, 0) := by decide +kernel
theorem lr_2059 : x_row (x_rws M_law) 2059 = some (2059, .iaload, 1, 0, 0, 0) := by decide +kernel
theorem lr_2060 : x_row (x_rws M_law) 2060 = some (2060, .invokevirtual 271, 3, 348, 3, 0) := by decide +kernel
theorem lr_2063 : x_row (x_rws M_law) 2063 = some (2063, .pop, 1, 0, 0, 0) := by decide +kernel
theorem lr_2064 : x_row (x_rws M_law) 2064 = some (2064, .goto 304, 3, 0, 0, 0) := by decide +kernel
theorem lr_2067 : x_row (x_rws M_law) 2067 = some (2067, .aload_n 1, 1, 0, 0, 0) := by decide +kernel
theorem lr_2068 : x_row (x_rws M_law) 2068 = some (2068, .aload_n 0, 1, 0, 0, 0) := by decide +kernel
theorem lr_2069 : x_row (x_rws M_law) 2069 = some (2069, .iload_n 3, 1, 0, 0, 0) := by decide +kernel
theorem lr_2070 : x_row (x_rws M_law) 2070 = some (2070, .iconst 1, 1, 0, 0, 0) := by decide +kernel
theorem lr_2071 : x_row (x_rws M_law) 2071 = some (2071, .iadd, 1, 0, 0, 0) := by decide +kernel
theorem lr_2072 : x_row (x_rws M_law) 2072 = some (2072, .iaload, 1, 0, 0, 0) := by decide +kernel
theorem lr_2073 : x_row (x_rws M_law) 2073 = some (2073, .aload_n 0, 1, 0, 0, 0) := by decide +kernel
theorem lr_2074 : x_row (x_rws M_law) 2074 = some (2074, .iload_n 3, 1, 0, 0, 0) := by decide +kernel
theorem lr_2075 : x_row (x_rws M_law) 2075 = some (2075, .iconst 2, 1, 0, 0, 0) := by decide +kernel
theorem lr_2076 : x_row (x_rws M_law) 2076 = some (2076, .iadd, 1, 0, 0, 0) := by decide +kernel
theorem lr_2077 : x_row (x_rws M_law) 2077 = some (2077, .iaload, 1, 0, 0, 0) := by decide +kernel
theorem lr_2078 : x_row (x_rws M_law) 2078 = some (2078, .aload_n 0, 1, 0, 0, 0) := by decide +kernel
theorem lr_2079 : x_row (x_rws M_law) 2079 = some (2079, .iload_n 3, 1, 0, 0, 0) := by decide +kernel
theorem lr_2080 : x_row (x_rws M_law) 2080 = some (2080, .iconst 3, 1, 0, 0, 0) := by decide +kernel
theorem lr_2081 : x_row (x_rws M_law) 2081 = some (2081, .iadd, 1, 0, 0, 0) := by decide +kernel
theorem lr_2082 : x_row (x_rws M_law) 2082 = some (2082, .iaload, 1, 0, 0, 0) := by decide +kernel
theorem lr_2083 : x_row (x_rws M_law) 2083 = some (2083, .aload_n 0, 1, 0, 0, 0) := by decide +kernel
theorem lr_2084 : x_row (x_rws M_law) 2084 = some (2084, .iload_n 3, 1, 0, 0, 0) := by decide +kernel
theorem lr_2085 : x_row (x_rws M_law) 2085 = some (2085, .iconst 4, 1, 0, 0, 0) := by decide +kernel
theorem lr_2086 : x_row (x_rws M_law) 2086 = some (2086, .iadd, 1, 0, 0, 0) := by decide +kernel
theorem lr_2087 : x_row (x_rws M_law) 2087 = some (2087, .iaload, 1, 0, 0, 0) := by decide +kernel
theorem lr_2088 : x_row (x_rws M_law) 2088 = some (2088, .invokevirtual 272, 3, 176, 4, 0) := by decide +kernel
theorem lr_2091 : x_row (x_rws M_law) 2091 = some (2091, .pop, 1, 0, 0, 0) := by decide +kernel
theorem lr_2092 : x_row (x_rws M_law) 2092 = some (2092, .aload_n 2, 1, 0, 0, 0) := by decide +kernel
theorem lr_2093 : x_row (x_rws M_law) 2093 = some (2093, .aload_n 0, 1, 0, 0, 0) := by decide +kernel
theorem lr_2094 : x_row (x_rws M_law) 2094 = some (2094, .iload_n 3, 1, 0, 0, 0) := by decide +kernel
theorem lr_2095 : x_row (x_rws M_law) 2095 = some (2095, .iconst 1, 1, 0, 0, 0) := by decide +kernel
theorem lr_2096 : x_row (x_rws M_law) 2096 = some (2096, .iadd, 1, 0, 0, 0) := by decide +kernel
theorem lr_2097 : x_row (x_rws M_law) 2097 = some (2097, .iaload, 1, 0, 0, 0) := by decide +kernel
theorem lr_2098 : x_row (x_rws M_law) 2098 = some (2098, .aload_n 0, 1, 0, 0, 0) := by decide +kernel
theorem lr_2099 : x_row (x_rws M_law) 2099 = some (2099, .iload_n 3, 1, 0, 0, 0) := by decide +kernel
theorem lr_2100 : x_row (x_rws M_law) 2100 = some (2100, .iconst 2, 1, 0, 0, 0) := by decide +kernel
theorem lr_2101 : x_row (x_rws M_law) 2101 = some (2101, .iadd, 1, 0, 0, 0) := by decide +kernel
theorem lr_2102 : x_row (x_rws M_law) 2102 = some (2102, .iaload, 1, 0, 0, 0) := by decide +kernel
theorem lr_2103 : x_row (x_rws M_law) 2103 = some (2103, .aload_n 0, 1, 0, 0, 0) := by decide +kernel
theorem lr_2104 : x_row (x_rws M_law) 2104 = some (2104, .iload_n 3, 1, 0, 0, 0) := by decide +kernel
theorem lr_2105 : x_row (x_rws M_law) 2105 = some (2105, .iconst 3, 1, 0, 0, 0) := by decide +kernel
theorem lr_2106 : x_row (x_rws M_law) 2106 = some (2106, .iadd, 1, 0, 0, 0) := by decide +kernel
theorem lr_2107 : x_row (x_rws M_law) 2107 = some (2107, .iaload, 1, 0, 0, 0) := by decide +kernel
theorem lr_2108 : x_row (x_rws M_law) 2108 = some (2108, .aload_n 0, 1, 0, 0, 0) := by decide +kernel
theorem lr_2109 : x_row (x_rws M_law) 2109 = some (2109, .iload_n 3, 1, 0, 0, 0) := by decide +kernel
theorem lr_2110 : x_row (x_rws M_law) 2110 = some (2110, .iconst 4, 1, 0, 0, 0) := by decide +kernel
theorem lr_2111 : x_row (x_rws M_law) 2111 = some (2111, .iadd, 1, 0, 0, 0) := by decide +kernel
theorem lr_2112 : x_row (x_rws M_law) 2112 = some (2112, .iaload, 1, 0, 0, 0) := by decide +kernel
theorem lr_2113 : x_row (x_rws M_law) 2113 = some (2113, .invokevirtual 276, 3, 349, 4, 0) := by decide +kernel
theorem lr_2116 : x_row (x_rws M_law) 2116 = some (2116, .pop, 1, 0, 0, 0) := by decide +kernel
theorem lr_2117 : x_row (x_rws M_law) 2117 = some (2117, .goto 251, 3, 0, 0, 0) := by decide +kernel
theorem lr_2120 : x_row (x_rws M_law) 2120 = some (2120, .aload_n 1, 1, 0, 0, 0) := by decide +kernel
theorem lr_2121 : x_row (x_rws M_law) 2121 = some (2121, .aload_n 0, 1, 0, 0, 0) := by decide +kernel
theorem lr_2122 : x_row (x_rws M_law) 2122 = some (2122, .iload_n 3, 1, 0, 0, 0) := by decide +kernel
theorem lr_2123 : x_row (x_rws M_law) 2123 = some (2123, .iconst 1, 1, 0, 0, 0) := by decide +kernel
theorem lr_2124 : x_row (x_rws M_law) 2124 = some (2124, .iadd, 1, 0, 0, 0) := by decide +kernel
theorem lr_2125 : x_row (x_rws M_law) 2125 = some (2125, .iaload, 1, 0, 0, 0) := by decide +kernel
theorem lr_2126 : x_row (x_rws M_law) 2126 = some (2126, .invokevirtual 277, 3, 119, 1, 0) := by decide +kernel
theorem lr_2129 : x_row (x_rws M_law) 2129 = some (2129, .pop, 1, 0, 0, 0) := by decide +kernel
theorem lr_2130 : x_row (x_rws M_law) 2130 = some (2130, .aload_n 2, 1, 0, 0, 0) := by decide +kernel
theorem lr_2131 : x_row (x_rws M_law) 2131 = some (2131, .aload_n 0, 1, 0, 0, 0) := by decide +kernel
theorem lr_2132 : x_row (x_rws M_law) 2132 = some (2132, .iload_n 3, 1, 0, 0, 0) := by decide +kernel
theorem lr_2133 : x_row (x_rws M_law) 2133 = some (2133, .iconst 1, 1, 0, 0, 0) := by decide +kernel
theorem lr_2134 : x_row (x_rws M_law) 2134 = some (2134, .iadd, 1, 0, 0, 0) := by decide +kernel
theorem lr_2135 : x_row (x_rws M_law) 2135 = some (2135, .iaload, 1, 0, 0, 0) := by decide +kernel
theorem lr_2136 : x_row (x_rws M_law) 2136 = some (2136, .invokevirtual 280, 3, 350, 1, 0) := by decide +kernel
theorem lr_2139 : x_row (x_rws M_law) 2139 = some (2139, .pop, 1, 0, 0, 0) := by decide +kernel
theorem lr_2140 : x_row (x_rws M_law) 2140 = some (2140, .goto 228, 3, 0, 0, 0) := by decide +kernel
theorem lr_2143 : x_row (x_rws M_law) 2143 = some (2143, .aload_n 1, 1, 0, 0, 0) := by decide +kernel
theorem lr_2144 : x_row (x_rws M_law) 2144 = some (2144, .aload_n 0, 1, 0, 0, 0) := by decide +kernel
theorem lr_2145 : x_row (x_rws M_law) 2145 = some (2145, .iload_n 3, 1, 0, 0, 0) := by decide +kernel
theorem lr_2146 : x_row (x_rws M_law) 2146 = some (2146, .iconst 1, 1, 0, 0, 0) := by decide +kernel
theorem lr_2147 : x_row (x_rws M_law) 2147 = some (2147, .iadd, 1, 0, 0, 0) := by decide +kernel
theorem lr_2148 : x_row (x_rws M_law) 2148 = some (2148, .iaload, 1, 0, 0, 0) := by decide +kernel
theorem lr_2149 : x_row (x_rws M_law) 2149 = some (2149, .invokevirtual 281, 3, 177, 1, 0) := by decide +kernel
theorem lr_2152 : x_row (x_rws M_law) 2152 = some (2152, .pop, 1, 0, 0, 0) := by decide +kernel
theorem lr_2153 : x_row (x_rws M_law) 2153 = some (2153, .aload_n 2, 1, 0, 0, 0) := by decide +kernel
theorem lr_2154 : x_row (x_rws M_law) 2154 = some (2154, .aload_n 0, 1, 0, 0, 0) := by decide +kernel
theorem lr_2155 : x_row (x_rws M_law) 2155 = some (2155, .iload_n 3, 1, 0, 0, 0) := by decide +kernel
theorem lr_2156 : x_row (x_rws M_law) 2156 = some (2156, .iconst 1, 1, 0, 0, 0) := by decide +kernel
theorem lr_2157 : x_row (x_rws M_law) 2157 = some (2157, .iadd, 1, 0, 0, 0) := by decide +kernel
theorem lr_2158 : x_row (x_rws M_law) 2158 = some (2158, .iaload, 1, 0, 0, 0) := by decide +kernel
theorem lr_2159 : x_row (x_rws M_law) 2159 = some (2159, .invokevirtual 284, 3, 197, 1, 0) := by decide +kernel
theorem lr_2162 : x_row (x_rws M_law) 2162 = some (2162, .pop, 1, 0, 0, 0) := by decide +kernel
theorem lr_2163 : x_row (x_rws M_law) 2163 = some (2163, .goto 205, 3, 0, 0, 0) := by decide +kernel
theorem lr_2166 : x_row (x_rws M_law) 2166 = some (2166, .aload_n 1, 1, 0, 0, 0) := by decide +kernel
theorem lr_2167 : x_row (x_rws M_law) 2167 = some (2167, .aload_n 0, 1, 0, 0, 0) := by decide +kernel
theorem lr_2168 : x_row (x_rws M_law) 2168 = some (2168, .iload_n 3, 1, 0, 0, 0) := by decide +kernel
theorem lr_2169 : x_row (x_rws M_law) 2169 = some (2169, .iconst 1, 1, 0, 0, 0) := by decide +kernel
theorem lr_2170 : x_row (x_rws M_law) 2170 = some (2170, .iadd, 1, 0, 0, 0) := by decide +kernel
theorem lr_2171 : x_row (x_rws M_law) 2171 = some (2171, .iaload, 1, 0, 0, 0) := by decide +kernel
theorem lr_2172 : x_row (x_rws M_law) 2172 = some (2172, .invokevirtual 285, 3, 178, 1, 0) := by decide +kernel
theorem lr_2175 : x_row (x_rws M_law) 2175 = some (2175, .pop, 1, 0, 0, 0) := by decide +kernel
theorem lr_2176 : x_row (x_rws M_law) 2176 = some (2176, .aload_n 2, 1, 0, 0, 0) := by decide +kernel
theorem lr_2177 : x_row (x_rws M_law) 2177 = some (2177, .aload_n 0, 1, 0, 0, 0) := by decide +kernel
theorem lr_2178 : x_row (x_rws M_law) 2178 = some (2178, .iload_n 3, 1, 0, 0, 0) := by decide +kernel
theorem lr_2179 : x_row (x_rws M_law) 2179 = some (2179, .iconst 1, 1, 0, 0, 0) := by decide +kernel
theorem lr_2180 : x_row (x_rws M_law) 2180 = some (2180, .iadd, 1, 0, 0, 0) := by decide +kernel
theorem lr_2181 : x_row (x_rws M_law) 2181 = some (2181, .iaload, 1, 0, 0, 0) := by decide +kernel
theorem lr_2182 : x_row (x_rws M_law) 2182 = some (2182, .invokevirtual 288, 3, 198, 1, 0) := by decide +kernel
theorem lr_2185 : x_row (x_rws M_law) 2185 = some (2185, .pop, 1, 0, 0, 0) := by decide +kernel
theorem lr_2186 : x_row (x_rws M_law) 2186 = some (2186, .goto 182, 3, 0, 0, 0) := by decide +kernel
theorem lr_2189 : x_row (x_rws M_law) 2189 = some (2189, .aload_n 1, 1, 0, 0, 0) := by decide +kernel
theorem lr_2190 : x_row (x_rws M_law) 2190 = some (2190, .aload_n 0, 1, 0, 0, 0) := by decide +kernel
theorem lr_2191 : x_row (x_rws M_law) 2191 = some (2191, .iload_n 3, 1, 0, 0, 0) := by decide +kernel
theorem lr_2192 : x_row (x_rws M_law) 2192 = some (2192, .iconst 1, 1, 0, 0, 0) := by decide +kernel
theorem lr_2193 : x_row (x_rws M_law) 2193 = some (2193, .iadd, 1, 0, 0, 0) := by decide +kernel
theorem lr_2194 : x_row (x_rws M_law) 2194 = some (2194, .iaload, 1, 0, 0, 0) := by decide +kernel
theorem lr_2195 : x_row (x_rws M_law) 2195 = some (2195, .aload_n 0, 1, 0, 0, 0) := by decide +kernel
theorem lr_2196 : x_row (x_rws M_law) 2196 = some (2196, .iload_n 3, 1, 0, 0, 0) := by decide +kernel
theorem lr_2197 : x_row (x_rws M_law) 2197 = some (2197, .iconst 2, 1, 0, 0, 0) := by decide +kernel
theorem lr_2198 : x_row (x_rws M_law) 2198 = some (2198, .iadd, 1, 0, 0, 0) := by decide +kernel
theorem lr_2199 : x_row (x_rws M_law) 2199 = some (2199, .iaload, 1, 0, 0, 0) := by decide +kernel
theorem lr_2200 : x_row (x_rws M_law) 2200 = some (2200, .aload_n 0, 1, 0, 0, 0) := by decide +kernel
theorem lr_2201 : x_row (x_rws M_law) 2201 = some (2201, .iload_n 3, 1, 0, 0, 0) := by decide +kernel
theorem lr_2202 : x_row (x_rws M_law) 2202 = some (2202, .iconst 3, 1, 0, 0, 0) := by decide +kernel
theorem lr_2203 : x_row (x_rws M_law) 2203 = some (2203, .iadd, 1, 0, 0, 0) := by decide +kernel
theorem lr_2204 : x_row (x_rws M_law) 2204 = some (2204, .iaload, 1, 0, 0, 0) := by decide +kernel
theorem lr_2205 : x_row (x_rws M_law) 2205 = some (2205, .invokevirtual 289, 3, 179, 3, 0) := by decide +kernel
theorem lr_2208 : x_row (x_rws M_law) 2208 = some (2208, .pop, 1, 0, 0, 0) := by decide +kernel
theorem lr_2209 : x_row (x_rws M_law) 2209 = some (2209, .aload_n 2, 1, 0, 0, 0) := by decide +kernel
theorem lr_2210 : x_row (x_rws M_law) 2210 = some (2210, .aload_n 0, 1, 0, 0, 0) := by decide +kernel
theorem lr_2211 : x_row (x_rws M_law) 2211 = some (2211, .iload_n 3, 1, 0, 0, 0) := by decide +kernel
theorem lr_2212 : x_row (x_rws M_law) 2212 = some (2212, .iconst 1, 1, 0, 0, 0) := by decide +kernel
theorem lr_2213 : x_row (x_rws M_law) 2213 = some (2213, .iadd, 1, 0, 0, 0) := by decide +kernel
theorem lr_2214 : x_row (x_rws M_law) 2214 = some (2214, .iaload, 1, 0, 0, 0) := by decide +kernel
theorem lr_2215 : x_row (x_rws M_law) 2215 = some (2215, .aload_n 0, 1, 0, 0, 0) := by decide +kernel
theorem lr_2216 : x_row (x_rws M_law) 2216 = some (2216, .iload_n 3, 1, 0, 0, 0) := by decide +kernel
theorem lr_2217 : x_row (x_rws M_law) 2217 = some (2217, .iconst 2, 1, 0, 0, 0) := by decide +kernel
theorem lr_2218 : x_row (x_rws M_law) 2218 = some (2218, .iadd, 1, 0, 0, 0) := by decide +kernel
theorem lr_2219 : x_row (x_rws M_law) 2219 = some (2219, .iaload, 1, 0, 0, 0) := by decide +kernel
theorem lr_2220 : x_row (x_rws M_law) 2220 = some (2220, .aload_n 0, 1, 0, 0, 0) := by decide +kernel
theorem lr_2221 : x_row (x_rws M_law) 2221 = some (2221, .iload_n 3, 1, 0, 0, 0) := by decide +kernel
theorem lr_2222 : x_row (x_rws M_law) 2222 = some (2222, .iconst 3, 1, 0, 0, 0) := by decide +kernel
theorem lr_2223 : x_row (x_rws M_law) 2223 = some (2223, .iadd, 1, 0, 0, 0) := by decide +kernel
theorem lr_2224 : x_row (x_rws M_law) 2224 = some (2224, .iaload, 1, 0, 0, 0) := by decide +kernel
theorem lr_2225 : x_row (x_rws M_law) 2225 = some (2225, .invokevirtual 292, 3, 353, 3, 0) := by decide +kernel
theorem lr_2228 : x_row (x_rws M_law) 2228 = some (2228, .pop, 1, 0, 0, 0) := by decide +kernel
theorem lr_2229 : x_row (x_rws M_law) 2229 = some (2229, .goto 139, 3, 0, 0, 0) := by decide +kernel
theorem lr_2232 : x_row (x_rws M_law) 2232 = some (2232, .aload_n 1, 1, 0, 0, 0) := by decide +kernel
theorem lr_2233 : x_row (x_rws M_law) 2233 = some (2233, .aload_n 0, 1, 0, 0, 0) := by decide +kernel
theorem lr_2234 : x_row (x_rws M_law) 2234 = some (2234, .iload_n 3, 1, 0, 0, 0) := by decide +kernel
theorem lr_2235 : x_row (x_rws M_law) 2235 = some (2235, .iconst 1, 1, 0, 0, 0) := by decide +kernel
theorem lr_2236 : x_row (x_rws M_law) 2236 = some (2236, .iadd, 1, 0, 0, 0) := by decide +kernel
theorem lr_2237 : x_row (x_rws M_law) 2237 = some (2237, .iaload, 1, 0, 0, 0) := by decide +kernel
theorem lr_2238 : x_row (x_rws M_law) 2238 = some (2238, .aload_n 0, 1, 0, 0, 0) := by decide +kernel
theorem lr_2239 : x_row (x_rws M_law) 2239 = some (2239, .iload_n 3, 1, 0, 0, 0) := by decide +kernel
theorem lr_2240 : x_row (x_rws M_law) 2240 = some (2240, .iconst 2, 1, 0, 0, 0) := by decide +kernel
theorem lr_2241 : x_row (x_rws M_law) 2241 = some (2241, .iadd, 1, 0, 0, 0) := by decide +kernel
theorem lr_2242 : x_row (x_rws M_law) 2242 = some (2242, .iaload, 1, 0, 0, 0) := by decide +kernel
theorem lr_2243 : x_row (x_rws M_law) 2243 = some (2243, .aload_n 0, 1, 0, 0, 0) := by decide +kernel
theorem lr_2244 : x_row (x_rws M_law) 2244 = some (2244, .iload_n 3, 1, 0, 0, 0) := by decide +kernel
theorem lr_2245 : x_row (x_rws M_law) 2245 = some (2245, .iconst 3, 1, 0, 0, 0) := by decide +kernel
theorem lr_2246 : x_row (x_rws M_law) 2246 = some (2246, .iadd, 1, 0, 0, 0) := by decide +kernel
theorem lr_2247 : x_row (x_rws M_law) 2247 = some (2247, .iaload, 1, 0, 0, 0) := by decide +kernel
theorem lr_2248 : x_row (x_rws M_law) 2248 = some (2248, .i2l, 1, 0, 0, 0) := by decide +kernel
theorem lr_2249 : x_row (x_rws M_law) 2249 = some (2249, .bipush 32, 2, 0, 0, 0) := by decide +kernel
theorem lr_2251 : x_row (x_rws M_law) 2251 = some (2251, .lshl, 1, 0, 0, 0) := by decide +kernel
theorem lr_2252 : x_row (x_rws M_law) 2252 = some (2252, .aload_n 0, 1, 0, 0, 0) := by decide +kernel
theorem lr_2253 : x_row (x_rws M_law) 2253 = some (2253, .iload_n 3, 1, 0, 0, 0) := by decide +kernel
theorem lr_2254 : x_row (x_rws M_law) 2254 = some (2254, .iconst 4, 1, 0, 0, 0) := by decide +kernel
theorem lr_2255 : x_row (x_rws M_law) 2255 = some (2255, .iadd, 1, 0, 0, 0) := by decide +kernel
theorem lr_2256 : x_row (x_rws M_law) 2256 = some (2256, .iaload, 1, 0, 0, 0) := by decide +kernel
theorem lr_2257 : x_row (x_rws M_law) 2257 = some (2257, .i2l, 1, 0, 0, 0) := by decide +kernel
theorem lr_2258 : x_row (x_rws M_law) 2258 = some (2258, .ldc2_w 293, 3, 4294967295, 0, 0) := by decide +kernel
theorem lr_2261 : x_row (x_rws M_law) 2261 = some (2261, .land, 1, 0, 0, 0) := by decide +kernel
theorem lr_2262 : x_row (x_rws M_law) 2262 = some (2262, .lor, 1, 0, 0, 0) := by decide +kernel
theorem lr_2263 : x_row (x_rws M_law) 2263 = some (2263, .invokevirtual 295, 3, 180, 3, 0) := by decide +kernel
theorem lr_2266 : x_row (x_rws M_law) 2266 = some (2266, .pop, 1, 0, 0, 0) := by decide +kernel
theorem lr_2267 : x_row (x_rws M_law) 2267 = some (2267, .aload_n 2, 1, 0, 0, 0) := by decide +kernel
theorem lr_2268 : x_row (x_rws M_law) 2268 = some (2268, .aload_n 0, 1, 0, 0, 0) := by decide +kernel
theorem lr_2269 : x_row (x_rws M_law) 2269 = some (2269, .iload_n 3, 1, 0, 0, 0) := by decide +kernel
theorem lr_2270 : x_row (x_rws M_law) 2270 = some (2270, .iconst 1, 1, 0, 0, 0) := by decide +kernel
theorem lr_2271 : x_row (x_rws M_law) 2271 = some (2271, .iadd, 1, 0, 0, 0) := by decide +kernel
theorem lr_2272 : x_row (x_rws M_law) 2272 = some (2272, .iaload, 1, 0, 0, 0) := by decide +kernel
theorem lr_2273 : x_row (x_rws M_law) 2273 = some (2273, .aload_n 0, 1, 0, 0, 0) := by decide +kernel
theorem lr_2274 : x_row (x_rws M_law) 2274 = some (2274, .iload_n 3, 1, 0, 0, 0) := by decide +kernel
theorem lr_2275 : x_row (x_rws M_law) 2275 = some (2275, .iconst 2, 1, 0, 0, 0) := by decide +kernel
theorem lr_2276 : x_row (x_rws M_law) 2276 = some (2276, .iadd, 1, 0, 0, 0) := by decide +kernel
theorem lr_2277 : x_row (x_rws M_law) 2277 = some (2277, .iaload, 1, 0, 0, 0) := by decide +kernel
theorem lr_2278 : x_row (x_rws M_law) 2278 = some (2278, .aload_n 0, 1, 0, 0, 0) := by decide +kernel
theorem lr_2279 : x_row (x_rws M_law) 2279 = some (2279, .iload_n 3, 1, 0, 0, 0) := by decide +kernel
theorem lr_2280 : x_row (x_rws M_law) 2280 = some (2280, .iconst 3, 1, 0, 0, 0) := by decide +kernel
theorem lr_2281 : x_row (x_rws M_law) 2281 = some (2281, .iadd, 1, 0, 0, 0) := by decide +kernel
theorem lr_2282 : x_row (x_rws M_law) 2282 = some (2282, .iaload, 1, 0, 0, 0) := by decide +kernel
theorem lr_2283 : x_row (x_rws M_law) 2283 = some (2283, .i2l, 1, 0, 0, 0) := by decide +kernel
theorem lr_2284 : x_row (x_rws M_law) 2284 = some (2284, .bipush 32, 2, 0, 0, 0) := by decide +kernel
theorem lr_2286 : x_row (x_rws M_law) 2286 = some (2286, .lshl, 1, 0, 0, 0) := by decide +kernel
theorem lr_2287 : x_row (x_rws M_law) 2287 = some (2287, .aload_n 0, 1, 0, 0, 0) := by decide +kernel
theorem lr_2288 : x_row (x_rws M_law) 2288 = some (2288, .iload_n 3, 1, 0, 0, 0) := by decide +kernel
theorem lr_2289 : x_row (x_rws M_law) 2289 = some (2289, .iconst 4, 1, 0, 0, 0) := by decide +kernel
theorem lr_2290 : x_row (x_rws M_law) 2290 = some (2290, .iadd, 1, 0, 0, 0) := by decide +kernel
theorem lr_2291 : x_row (x_rws M_law) 2291 = some (2291, .iaload, 1, 0, 0, 0) := by decide +kernel
theorem lr_2292 : x_row (x_rws M_law) 2292 = some (2292, .i2l, 1, 0, 0, 0) := by decide +kernel
theorem lr_2293 : x_row (x_rws M_law) 2293 = some (2293, .ldc2_w 293, 3, 4294967295, 0, 0) := by decide +kernel
theorem lr_2296 : x_row (x_rws M_law) 2296 = some (2296, .land, 1, 0, 0, 0) := by decide +kernel
theorem lr_2297 : x_row (x_rws M_law) 2297 = some (2297, .lor, 1, 0, 0, 0) := by decide +kernel
theorem lr_2298 : x_row (x_rws M_law) 2298 = some (2298, .invokevirtual 299, 3, 354, 3, 0) := by decide +kernel
theorem lr_2301 : x_row (x_rws M_law) 2301 = some (2301, .pop, 1, 0, 0, 0) := by decide +kernel
theorem lr_2302 : x_row (x_rws M_law) 2302 = some (2302, .goto 66, 3, 0, 0, 0) := by decide +kernel
theorem lr_2305 : x_row (x_rws M_law) 2305 = some (2305, .aload_n 1, 1, 0, 0, 0) := by decide +kernel
theorem lr_2306 : x_row (x_rws M_law) 2306 = some (2306, .aload_n 0, 1, 0, 0, 0) := by decide +kernel
theorem lr_2307 : x_row (x_rws M_law) 2307 = some (2307, .iload_n 3, 1, 0, 0, 0) := by decide +kernel
theorem lr_2308 : x_row (x_rws M_law) 2308 = some (2308, .iconst 1, 1, 0, 0, 0) := by decide +kernel
theorem lr_2309 : x_row (x_rws M_law) 2309 = some (2309, .iadd, 1, 0, 0, 0) := by decide +kernel
theorem lr_2310 : x_row (x_rws M_law) 2310 = some (2310, .iaload, 1, 0, 0, 0) := by decide +kernel
theorem lr_2311 : x_row (x_rws M_law) 2311 = some (2311, .aload_n 0, 1, 0, 0, 0) := by decide +kernel
theorem lr_2312 : x_row (x_rws M_law) 2312 = some (2312, .iload_n 3, 1, 0, 0, 0) := by decide +kernel
theorem lr_2313 : x_row (x_rws M_law) 2313 = some (2313, .iconst 2, 1, 0, 0, 0) := by decide +kernel
theorem lr_2314 : x_row (x_rws M_law) 2314 = some (2314, .iadd, 1, 0, 0, 0) := by decide +kernel
theorem lr_2315 : x_row (x_rws M_law) 2315 = some (2315, .iaload, 1, 0, 0, 0) := by decide +kernel
theorem lr_2316 : x_row (x_rws M_law) 2316 = some (2316, .aload_n 0, 1, 0, 0, 0) := by decide +kernel
theorem lr_2317 : x_row (x_rws M_law) 2317 = some (2317, .iload_n 3, 1, 0, 0, 0) := by decide +kernel
theorem lr_2318 : x_row (x_rws M_law) 2318 = some (2318, .iconst 3, 1, 0, 0, 0) := by decide +kernel
theorem lr_2319 : x_row (x_rws M_law) 2319 = some (2319, .iadd, 1, 0, 0, 0) := by decide +kernel
theorem lr_2320 : x_row (x_rws M_law) 2320 = some (2320, .iaload, 1, 0, 0, 0) := by decide +kernel
theorem lr_2321 : x_row (x_rws M_law) 2321 = some (2321, .aload_n 0, 1, 0, 0, 0) := by decide +kernel
theorem lr_2322 : x_row (x_rws M_law) 2322 = some (2322, .iload_n 3, 1, 0, 0, 0) := by decide +kernel
theorem lr_2323 : x_row (x_rws M_law) 2323 = some (2323, .iconst 4, 1, 0, 0, 0) := by decide +kernel
theorem lr_2324 : x_row (x_rws M_law) 2324 = some (2324, .iadd, 1, 0, 0, 0) := by decide +kernel
theorem lr_2325 : x_row (x_rws M_law) 2325 = some (2325, .iaload, 1, 0, 0, 0) := by decide +kernel
theorem lr_2326 : x_row (x_rws M_law) 2326 = some (2326, .aload_n 0, 1, 0, 0, 0) := by decide +kernel
theorem lr_2327 : x_row (x_rws M_law) 2327 = some (2327, .iload_n 3, 1, 0, 0, 0) := by decide +kernel
theorem lr_2328 : x_row (x_rws M_law) 2328 = some (2328, .iconst 5, 1, 0, 0, 0) := by decide +kernel
theorem lr_2329 : x_row (x_rws M_law) 2329 = some (2329, .iadd, 1, 0, 0, 0) := by decide +kernel
theorem lr_2330 : x_row (x_rws M_law) 2330 = some (2330, .iaload, 1, 0, 0, 0) := by decide +kernel
theorem lr_2331 : x_row (x_rws M_law) 2331 = some (2331, .invokevirtual 300, 3, 181, 5, 0) := by decide +kernel
theorem lr_2334 : x_row (x_rws M_law) 2334 = some (2334, .pop, 1, 0, 0, 0) := by decide +kernel
theorem lr_2335 : x_row (x_rws M_law) 2335 = some (2335, .aload_n 2, 1, 0, 0, 0) := by decide +kernel
theorem lr_2336 : x_row (x_rws M_law) 2336 = some (2336, .aload_n 0, 1, 0, 0, 0) := by decide +kernel
theorem lr_2337 : x_row (x_rws M_law) 2337 = some (2337, .iload_n 3, 1, 0, 0, 0) := by decide +kernel
theorem lr_2338 : x_row (x_rws M_law) 2338 = some (2338, .iconst 1, 1, 0, 0, 0) := by decide +kernel
theorem lr_2339 : x_row (x_rws M_law) 2339 = some (2339, .iadd, 1, 0, 0, 0) := by decide +kernel
theorem lr_2340 : x_row (x_rws M_law) 2340 = some (2340, .iaload, 1, 0, 0, 0) := by decide +kernel
theorem lr_2341 : x_row (x_rws M_law) 2341 = some (2341, .aload_n 0, 1, 0, 0, 0) := by decide +kernel
theorem lr_2342 : x_row (x_rws M_law) 2342 = some (2342, .iload_n 3, 1, 0, 0, 0) := by decide +kernel
theorem lr_2343 : x_row (x_rws M_law) 2343 = some (2343, .iconst 2, 1, 0, 0, 0) := by decide +kernel
theorem lr_2344 : x_row (x_rws M_law) 2344 = some (2344, .iadd, 1, 0, 0, 0) := by decide +kernel
theorem lr_2345 : x_row (x_rws M_law) 2345 = some (2345, .iaload, 1, 0, 0, 0) := by decide +kernel
theorem lr_2346 : x_row (x_rws M_law) 2346 = some (2346, .aload_n 0, 1, 0, 0, 0) := by decide +kernel
theorem lr_2347 : x_row (x_rws M_law) 2347 = some (2347, .iload_n 3, 1, 0, 0, 0) := by decide +kernel
theorem lr_2348 : x_row (x_rws M_law) 2348 = some (2348, .iconst 3, 1, 0, 0, 0) := by decide +kernel
theorem lr_2349 : x_row (x_rws M_law) 2349 = some (2349, .iadd, 1, 0, 0, 0) := by decide +kernel
theorem lr_2350 : x_row (x_rws M_law) 2350 = some (2350, .iaload, 1, 0, 0, 0) := by decide +kernel
theorem lr_2351 : x_row (x_rws M_law) 2351 = some (2351, .aload_n 0, 1, 0, 0, 0) := by decide +kernel
theorem lr_2352 : x_row (x_rws M_law) 2352 = some (2352, .iload_n 3, 1, 0, 0, 0) := by decide +kernel
theorem lr_2353 : x_row (x_rws M_law) 2353 = some (2353, .iconst 4, 1, 0, 0, 0) := by decide +kernel
theorem lr_2354 : x_row (x_rws M_law) 2354 = some (2354, .iadd, 1, 0, 0, 0) := by decide +kernel
theorem lr_2355 : x_row (x_rws M_law) 2355 = some (2355, .iaload, 1, 0, 0, 0) := by decide +kernel
theorem lr_2356 : x_row (x_rws M_law) 2356 = some (2356, .aload_n 0, 1, 0, 0, 0) := by decide +kernel
theorem lr_2357 : x_row (x_rws M_law) 2357 = some (2357, .iload_n 3, 1, 0, 0, 0) := by decide +kernel
theorem lr_2358 : x_row (x_rws M_law) 2358 = some (2358, .iconst 5, 1, 0, 0, 0) := by decide +kernel
theorem lr_2359 : x_row (x_rws M_law) 2359 = some (2359, .iadd, 1, 0, 0, 0) := by decide +kernel
theorem lr_2360 : x_row (x_rws M_law) 2360 = some (2360, .iaload, 1, 0, 0, 0) := by decide +kernel
theorem lr_2361 : x_row (x_rws M_law) 2361 = some (2361, .invokevirtual 303, 3, 355, 5, 0) := by decide +kernel
theorem lr_2364 : x_row (x_rws M_law) 2364 = some (2364, .pop, 1, 0, 0, 0) := by decide +kernel
theorem lr_2365 : x_row (x_rws M_law) 2365 = some (2365, .goto 3, 3, 0, 0, 0) := by decide +kernel
theorem lr_2368 : x_row (x_rws M_law) 2368 = some (2368, .iinc 3 6, 3, 0, 0, 0) := by decide +kernel
theorem lr_2371 : x_row (x_rws M_law) 2371 = some (2371, .goto (-2353), 3, 0, 0, 0) := by decide +kernel
theorem lr_2374 : x_row (x_rws M_law) 2374 = some (2374, .iconst 1, 1, 0, 0, 0) := by decide +kernel
