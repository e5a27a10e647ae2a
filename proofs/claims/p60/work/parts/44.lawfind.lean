/-! ===== rows of the law, found ===== -/
theorem lr_18 : x_row (x_rws M_law) 18 = some (18, .iload_n 3, 1, 0, 0, 0) := by decide +kernel
theorem lr_19 : x_row (x_rws M_law) 19 = some (19, .aload_n 0, 1, 0, 0, 0) := by decide +kernel
theorem lr_20 : x_row (x_rws M_law) 20 = some (20, .arraylength, 1, 0, 0, 0) := by decide +kernel
theorem lr_21 : x_row (x_rws M_law) 21 = some (21, .bipush 6, 2, 0, 0, 0) := by decide +kernel
theorem lr_23 : x_row (x_rws M_law) 23 = some (23, .isub, 1, 0, 0, 0) := by decide +kernel
theorem lr_27 : x_row (x_rws M_law) 27 = some (27, .aload_n 0, 1, 0, 0, 0) := by decide +kernel
theorem lr_28 : x_row (x_rws M_law) 28 = some (28, .iload_n 3, 1, 0, 0, 0) := by decide +kernel
theorem lr_29 : x_row (x_rws M_law) 29 = some (29, .iaload, 1, 0, 0, 0) := by decide +kernel
theorem lr_30 : x_row (x_rws M_law) 30 = some (30, .bipush 127, 2, 0, 0, 0) := by decide +kernel
theorem lr_32 : x_row (x_rws M_law) 32 = some (32, .iand, 1, 0, 0, 0) := by decide +kernel
theorem lr_33 : x_row (x_rws M_law) 33 = some (33, .tableswitch 2335 0 69 #[295, 358, 381, 394, 417, 450, 483, 506, 519, 552, 575, 588, 621, 654, 687, 710, 743, 776, 809, 832, 855, 878, 911, 944, 967, 1000, 1033, 1056, 1089, 1112, 1135, 1168, 1211, 1234, 1257, 1280, 1303, 1326, 1349, 1382, 1405, 1428, 1441, 1464, 1497, 1520, 1563, 1586, 1609, 1632, 1655, 1688, 1711, 1724, 1737, 1760, 1793, 1826, 1849, 1872, 1905, 1948, 1991, 2034, 2087, 2110, 2133, 2156, 2199, 2272], 295, 0, 0, 0) := by decide +kernel
theorem lr_328 : x_row (x_rws M_law) 328 = some (328, .aload_n 1, 1, 0, 0, 0) := by decide +kernel
theorem lr_329 : x_row (x_rws M_law) 329 = some (329, .aload_n 0, 1, 0, 0, 0) := by decide +kernel
theorem lr_330 : x_row (x_rws M_law) 330 = some (330, .iload_n 3, 1, 0, 0, 0) := by decide +kernel
theorem lr_331 : x_row (x_rws M_law) 331 = some (331, .iconst 1, 1, 0, 0, 0) := by decide +kernel
theorem lr_332 : x_row (x_rws M_law) 332 = some (332, .iadd, 1, 0, 0, 0) := by decide +kernel
theorem lr_333 : x_row (x_rws M_law) 333 = some (333, .iaload, 1, 0, 0, 0) := by decide +kernel
theorem lr_334 : x_row (x_rws M_law) 334 = some (334, .aload_n 0, 1, 0, 0, 0) := by decide +kernel
theorem lr_335 : x_row (x_rws M_law) 335 = some (335, .iload_n 3, 1, 0, 0, 0) := by decide +kernel
theorem lr_336 : x_row (x_rws M_law) 336 = some (336, .iconst 2, 1, 0, 0, 0) := by decide +kernel
theorem lr_337 : x_row (x_rws M_law) 337 = some (337, .iadd, 1, 0, 0, 0) := by decide +kernel
theorem lr_338 : x_row (x_rws M_law) 338 = some (338, .iaload, 1, 0, 0, 0) := by decide +kernel
theorem lr_339 : x_row (x_rws M_law) 339 = some (339, .aload_n 0, 1, 0, 0, 0) := by decide +kernel
theorem lr_340 : x_row (x_rws M_law) 340 = some (340, .iload_n 3, 1, 0, 0, 0) := by decide +kernel
theorem lr_341 : x_row (x_rws M_law) 341 = some (341, .iconst 3, 1, 0, 0, 0) := by decide +kernel
theorem lr_342 : x_row (x_rws M_law) 342 = some (342, .iadd, 1, 0, 0, 0) := by decide +kernel
theorem lr_343 : x_row (x_rws M_law) 343 = some (343, .iaload, 1, 0, 0, 0) := by decide +kernel
theorem lr_344 : x_row (x_rws M_law) 344 = some (344, .aload_n 0, 1, 0, 0, 0) := by decide +kernel
theorem lr_345 : x_row (x_rws M_law) 345 = some (345, .iload_n 3, 1, 0, 0, 0) := by decide +kernel
theorem lr_346 : x_row (x_rws M_law) 346 = some (346, .iconst 4, 1, 0, 0, 0) := by decide +kernel
theorem lr_347 : x_row (x_rws M_law) 347 = some (347, .iadd, 1, 0, 0, 0) := by decide +kernel
theorem lr_348 : x_row (x_rws M_law) 348 = some (348, .iaload, 1, 0, 0, 0) := by decide +kernel
theorem lr_349 : x_row (x_rws M_law) 349 = some (349, .aload_n 0, 1, 0, 0, 0) := by decide +kernel
theorem lr_350 : x_row (x_rws M_law) 350 = some (350, .iload_n 3, 1, 0, 0, 0) := by decide +kernel
theorem lr_351 : x_row (x_rws M_law) 351 = some (351, .iconst 5, 1, 0, 0, 0) := by decide +kernel
theorem lr_352 : x_row (x_rws M_law) 352 = some (352, .iadd, 1, 0, 0, 0) := by decide +kernel
theorem lr_353 : x_row (x_rws M_law) 353 = some (353, .iaload, 1, 0, 0, 0) := by decide +kernel
theorem lr_354 : x_row (x_rws M_law) 354 = some (354, .invokevirtual 13, 3, 112, 5, 0) := by decide +kernel
theorem lr_357 : x_row (x_rws M_law) 357 = some (357, .pop, 1, 0, 0, 0) := by decide +kernel
theorem lr_358 : x_row (x_rws M_law) 358 = some (358, .aload_n 2, 1, 0, 0, 0) := by decide +kernel
theorem lr_359 : x_row (x_rws M_law) 359 = some (359, .aload_n 0, 1, 0, 0, 0) := by decide +kernel
theorem lr_360 : x_row (x_rws M_law) 360 = some (360, .iload_n 3, 1, 0, 0, 0) := by decide +kernel
theorem lr_361 : x_row (x_rws M_law) 361 = some (361, .iconst 1, 1, 0, 0, 0) := by decide +kernel
theorem lr_362 : x_row (x_rws M_law) 362 = some (362, .iadd, 1, 0, 0, 0) := by decide +kernel
theorem lr_363 : x_row (x_rws M_law) 363 = some (363, .iaload, 1, 0, 0, 0) := by decide +kernel
theorem lr_364 : x_row (x_rws M_law) 364 = some (364, .aload_n 0, 1, 0, 0, 0) := by decide +kernel
theorem lr_365 : x_row (x_rws M_law) 365 = some (365, .iload_n 3, 1, 0, 0, 0) := by decide +kernel
theorem lr_366 : x_row (x_rws M_law) 366 = some (366, .iconst 2, 1, 0, 0, 0) := by decide +kernel
theorem lr_367 : x_row (x_rws M_law) 367 = some (367, .iadd, 1, 0, 0, 0) := by decide +kernel
theorem lr_368 : x_row (x_rws M_law) 368 = some (368, .iaload, 1, 0, 0, 0) := by decide +kernel
theorem lr_369 : x_row (x_rws M_law) 369 = some (369, .aload_n 0, 1, 0, 0, 0) := by decide +kernel
theorem lr_370 : x_row (x_rws M_law) 370 = some (370, .iload_n 3, 1, 0, 0, 0) := by decide +kernel
theorem lr_371 : x_row (x_rws M_law) 371 = some (371, .iconst 3, 1, 0, 0, 0) := by decide +kernel
theorem lr_372 : x_row (x_rws M_law) 372 = some (372, .iadd, 1, 0, 0, 0) := by decide +kernel
theorem lr_373 : x_row (x_rws M_law) 373 = some (373, .iaload, 1, 0, 0, 0) := by decide +kernel
theorem lr_374 : x_row (x_rws M_law) 374 = some (374, .aload_n 0, 1, 0, 0, 0) := by decide +kernel
theorem lr_375 : x_row (x_rws M_law) 375 = some (375, .iload_n 3, 1, 0, 0, 0) := by decide +kernel
theorem lr_376 : x_row (x_rws M_law) 376 = some (376, .iconst 4, 1, 0, 0, 0) := by decide +kernel
theorem lr_377 : x_row (x_rws M_law) 377 = some (377, .iadd, 1, 0, 0, 0) := by decide +kernel
theorem lr_378 : x_row (x_rws M_law) 378 = some (378, .iaload, 1, 0, 0, 0) := by decide +kernel
theorem lr_379 : x_row (x_rws M_law) 379 = some (379, .aload_n 0, 1, 0, 0, 0) := by decide +kernel
theorem lr_380 : x_row (x_rws M_law) 380 = some (380, .iload_n 3, 1, 0, 0, 0) := by decide +kernel
theorem lr_381 : x_row (x_rws M_law) 381 = some (381, .iconst 5, 1, 0, 0, 0) := by decide +kernel
theorem lr_382 : x_row (x_rws M_law) 382 = some (382, .iadd, 1, 0, 0, 0) := by decide +kernel
theorem lr_383 : x_row (x_rws M_law) 383 = some (383, .iaload, 1, 0, 0, 0) := by decide +kernel
theorem lr_384 : x_row (x_rws M_law) 384 = some (384, .invokevirtual 17, 3, 208, 5, 0) := by decide +kernel
theorem lr_387 : x_row (x_rws M_law) 387 = some (387, .pop, 1, 0, 0, 0) := by decide +kernel
theorem lr_388 : x_row (x_rws M_law) 388 = some (388, .goto 1980, 3, 0, 0, 0) := by decide +kernel
theorem lr_391 : x_row (x_rws M_law) 391 = some (391, .aload_n 1, 1, 0, 0, 0) := by decide +kernel
theorem lr_392 : x_row (x_rws M_law) 392 = some (392, .aload_n 0, 1, 0, 0, 0) := by decide +kernel
theorem lr_393 : x_row (x_rws M_law) 393 = some (393, .iload_n 3, 1, 0, 0, 0) := by decide +kernel
theorem lr_394 : x_row (x_rws M_law) 394 = some (394, .iconst 1, 1, 0, 0, 0) := by decide +kernel
theorem lr_395 : x_row (x_rws M_law) 395 = some (395, .iadd, 1, 0, 0, 0) := by decide +kernel
theorem lr_396 : x_row (x_rws M_law) 396 = some (396, .iaload, 1, 0, 0, 0) := by decide +kernel
theorem lr_397 : x_row (x_rws M_law) 397 = some (397, .invokevirtual 18, 3, 113, 1, 0) := by decide +kernel
theorem lr_400 : x_row (x_rws M_law) 400 = some (400, .pop, 1, 0, 0, 0) := by decide +kernel
theorem lr_401 : x_row (x_rws M_law) 401 = some (401, .aload_n 2, 1, 0, 0, 0) := by decide +kernel
theorem lr_402 : x_row (x_rws M_law) 402 = some (402, .aload_n 0, 1, 0, 0, 0) := by decide +kernel
theorem lr_403 : x_row (x_rws M_law) 403 = some (403, .iload_n 3, 1, 0, 0, 0) := by decide +kernel
theorem lr_404 : x_row (x_rws M_law) 404 = some (404, .iconst 1, 1, 0, 0, 0) := by decide +kernel
theorem lr_405 : x_row (x_rws M_law) 405 = some (405, .iadd, 1, 0, 0, 0) := by decide +kernel
theorem lr_406 : x_row (x_rws M_law) 406 = some (406, .iaload, 1, 0, 0, 0) := by decide +kernel
theorem lr_407 : x_row (x_rws M_law) 407 = some (407, .invokevirtual 22, 3, 209, 1, 0) := by decide +kernel
theorem lr_410 : x_row (x_rws M_law) 410 = some (410, .pop, 1, 0, 0, 0) := by decide +kernel
theorem lr_411 : x_row (x_rws M_law) 411 = some (411, .goto 1957, 3, 0, 0, 0) := by decide +kernel
theorem lr_414 : x_row (x_rws M_law) 414 = some (414, .aload_n 1, 1, 0, 0, 0) := by decide +kernel
theorem lr_415 : x_row (x_rws M_law) 415 = some (415, .invokevirtual 23, 3, 114, 0, 0) := by decide +kernel
theorem lr_418 : x_row (x_rws M_law) 418 = some (418, .pop, 1, 0, 0, 0) := by decide +kernel
theorem lr_419 : x_row (x_rws M_law) 419 = some (419, .aload_n 2, 1, 0, 0, 0) := by decide +kernel
theorem lr_420 : x_row (x_rws M_law) 420 = some (420, .invokevirtual 27, 3, 232, 0, 0) := by decide +kernel
theorem lr_423 : x_row (x_rws M_law) 423 = some (423, .pop, 1, 0, 0, 0) := by decide +kernel
theorem lr_424 : x_row (x_rws M_law) 424 = some (424, .goto 1944, 3, 0, 0, 0) := by decide +kernel
theorem lr_427 : x_row (x_rws M_law) 427 = some (427, .aload_n 1, 1, 0, 0, 0) := by decide +kernel
theorem lr_428 : x_row (x_rws M_law) 428 = some (428, .aload_n 0, 1, 0, 0, 0) := by decide +kernel
theorem lr_429 : x_row (x_rws M_law) 429 = some (429, .iload_n 3, 1, 0, 0, 0) := by decide +kernel
theorem lr_430 : x_row (x_rws M_law) 430 = some (430, .iconst 1, 1, 0, 0, 0) := by decide +kernel
theorem lr_431 : x_row (x_rws M_law) 431 = some (431, .iadd, 1, 0, 0, 0) := by decide +kernel
theorem lr_432 : x_row (x_rws M_law) 432 = some (432, .iaload, 1, 0, 0, 0) := by decide +kernel
theorem lr_433 : x_row (x_rws M_law) 433 = some (433, .invokevirtual 28, 3, 115, 1, 0) := by decide +kernel
theorem lr_436 : x_row (x_rws M_law) 436 = some (436, .pop, 1, 0, 0, 0) := by decide +kernel
theorem lr_437 : x_row (x_rws M_law) 437 = some (437, .aload_n 2, 1, 0, 0, 0) := by decide +kernel
theorem lr_438 : x_row (x_rws M_law) 438 = some (438, .aload_n 0, 1, 0, 0, 0) := by decide +kernel
theorem lr_439 : x_row (x_rws M_law) 439 = some (439, .iload_n 3, 1, 0, 0, 0) := by decide +kernel
theorem lr_440 : x_row (x_rws M_law) 440 = some (440, .iconst 1, 1, 0, 0, 0) := by decide +kernel
theorem lr_441 : x_row (x_rws M_law) 441 = some (441, .iadd, 1, 0, 0, 0) := by decide +kernel
theorem lr_442 : x_row (x_rws M_law) 442 = some (442, .iaload, 1, 0, 0, 0) := by decide +kernel
theorem lr_443 : x_row (x_rws M_law) 443 = some (443, .invokevirtual 31, 3, 219, 1, 0) := by decide +kernel
theorem lr_446 : x_row (x_rws M_law) 446 = some (446, .pop, 1, 0, 0, 0) := by decide +kernel
theorem lr_447 : x_row (x_rws M_law) 447 = some (447, .goto 1921, 3, 0, 0, 0) := by decide +kernel
theorem lr_450 : x_row (x_rws M_law) 450 = some (450, .aload_n 1, 1, 0, 0, 0) := by decide +kernel
theorem lr_451 : x_row (x_rws M_law) 451 = some (451, .aload_n 0, 1, 0, 0, 0) := by decide +kernel
theorem lr_452 : x_row (x_rws M_law) 452 = some (452, .iload_n 3, 1, 0, 0, 0) := by decide +kernel
theorem lr_453 : x_row (x_rws M_law) 453 = some (453, .iconst 1, 1, 0, 0, 0) := by decide +kernel
theorem lr_454 : x_row (x_rws M_law) 454 = some (454, .iadd, 1, 0, 0, 0) := by decide +kernel
theorem lr_455 : x_row (x_rws M_law) 455 = some (455, .iaload, 1, 0, 0, 0) := by decide +kernel
theorem lr_456 : x_row (x_rws M_law) 456 = some (456, .aload_n 0, 1, 0, 0, 0) := by decide +kernel
theorem lr_457 : x_row (x_rws M_law) 457 = some (457, .iload_n 3, 1, 0, 0, 0) := by decide +kernel
theorem lr_458 : x_row (x_rws M_law) 458 = some (458, .iconst 2, 1, 0, 0, 0) := by decide +kernel
theorem lr_459 : x_row (x_rws M_law) 459 = some (459, .iadd, 1, 0, 0, 0) := by decide +kernel
theorem lr_460 : x_row (x_rws M_law) 460 = some (460, .iaload, 1, 0, 0, 0) := by decide +kernel
theorem lr_461 : x_row (x_rws M_law) 461 = some (461, .invokevirtual 32, 3, 116, 2, 0) := by decide +kernel
theorem lr_464 : x_row (x_rws M_law) 464 = some (464, .pop, 1, 0, 0, 0) := by decide +kernel
theorem lr_465 : x_row (x_rws M_law) 465 = some (465, .aload_n 2, 1, 0, 0, 0) := by decide +kernel
theorem lr_466 : x_row (x_rws M_law) 466 = some (466, .aload_n 0, 1, 0, 0, 0) := by decide +kernel
theorem lr_467 : x_row (x_rws M_law) 467 = some (467, .iload_n 3, 1, 0, 0, 0) := by decide +kernel
theorem lr_468 : x_row (x_rws M_law) 468 = some (468, .iconst 1, 1, 0, 0, 0) := by decide +kernel
theorem lr_469 : x_row (x_rws M_law) 469 = some (469, .iadd, 1, 0, 0, 0) := by decide +kernel
theorem lr_470 : x_row (x_rws M_law) 470 = some (470, .iaload, 1, 0, 0, 0) := by decide +kernel
theorem lr_471 : x_row (x_rws M_law) 471 = some (471, .aload_n 0, 1, 0, 0, 0) := by decide +kernel
theorem lr_472 : x_row (x_rws M_law) 472 = some (472, .iload_n 3, 1, 0, 0, 0) := by decide +kernel
theorem lr_473 : x_row (x_rws M_law) 473 = some (473, .iconst 2, 1, 0, 0, 0) := by decide +kernel
theorem lr_474 : x_row (x_rws M_law) 474 = some (474, .iadd, 1, 0, 0, 0) := by decide +kernel
theorem lr_475 : x_row (x_rws M_law) 475 = some (475, .iaload, 1, 0, 0, 0) := by decide +kernel
theorem lr_476 : x_row (x_rws M_law) 476 = some (476, .invokevirtual 36, 3, 239, 2, 0) := by decide +kernel
theorem lr_479 : x_row (x_rws M_law) 479 = some (479, .pop, 1, 0, 0, 0) := by decide +kernel
theorem lr_480 : x_row (x_rws M_law) 480 = some (480, .goto 1888, 3, 0, 0, 0) := by decide +kernel
theorem lr_483 : x_row (x_rws M_law) 483 = some (483, .aload_n 1, 1, 0, 0, 0) := by decide +kernel
theorem lr_484 : x_row (x_rws M_law) 484 = some (484, .aload_n 0, 1, 0, 0, 0) := by decide +kernel
theorem lr_485 : x_row (x_rws M_law) 485 = some (485, .iload_n 3, 1, 0, 0, 0) := by decide +kernel
theorem lr_486 : x_row (x_rws M_law) 486 = some (486, .iconst 1, 1, 0, 0, 0) := by decide +kernel
theorem lr_487 : x_row (x_rws M_law) 487 = some (487, .iadd, 1, 0, 0, 0) := by decide +kernel
theorem lr_488 : x_row (x_rws M_law) 488 = some (488, .iaload, 1, 0, 0, 0) := by decide +kernel
theorem lr_489 : x_row (x_rws M_law) 489 = some (489, .aload_n 0, 1, 0, 0, 0) := by decide +kernel
theorem lr_490 : x_row (x_rws M_law) 490 = some (490, .iload_n 3, 1, 0, 0, 0) := by decide +kernel
theorem lr_491 : x_row (x_rws M_law) 491 = some (491, .iconst 2, 1, 0, 0, 0) := by decide +kernel
theorem lr_492 : x_row (x_rws M_law) 492 = some (492, .iadd, 1, 0, 0, 0) := by decide +kernel
theorem lr_493 : x_row (x_rws M_law) 493 = some (493, .iaload, 1, 0, 0, 0) := by decide +kernel
theorem lr_494 : x_row (x_rws M_law) 494 = some (494, .invokevirtual 37, 3, 117, 2, 0) := by decide +kernel
theorem lr_497 : x_row (x_rws M_law) 497 = some (497, .pop, 1, 0, 0, 0) := by decide +kernel
theorem lr_498 : x_row (x_rws M_law) 498 = some (498, .aload_n 2, 1, 0, 0, 0) := by decide +kernel
theorem lr_499 : x_row (x_rws M_law) 499 = some (499, .aload_n 0, 1, 0, 0, 0) := by decide +kernel
theorem lr_500 : x_row (x_rws M_law) 500 = some (500, .iload_n 3, 1, 0, 0, 0) := by decide +kernel
theorem lr_501 : x_row (x_rws M_law) 501 = some (501, .iconst 1, 1, 0, 0, 0) := by decide +kernel
theorem lr_502 : x_row (x_rws M_law) 502 = some (502, .iadd, 1, 0, 0, 0) := by decide +kernel
theorem lr_503 : x_row (x_rws M_law) 503 = some (503, .iaload, 1, 0, 0, 0) := by decide +kernel
theorem lr_504 : x_row (x_rws M_law) 504 = some (504, .aload_n 0, 1, 0, 0, 0) := by decide +kernel
theorem lr_505 : x_row (x_rws M_law) 505 = some (505, .iload_n 3, 1, 0, 0, 0) := by decide +kernel
theorem lr_506 : x_row (x_rws M_law) 506 = some (506, .iconst 2, 1, 0, 0, 0) := by decide +kernel
theorem lr_507 : x_row (x_rws M_law) 507 = some (507, .iadd, 1, 0, 0, 0) := by decide +kernel
theorem lr_508 : x_row (x_rws M_law) 508 = some (508, .iaload, 1, 0, 0, 0) := by decide +kernel
theorem lr_509 : x_row (x_rws M_law) 509 = some (509, .invokevirtual 40, 3, 240, 2, 0) := by decide +kernel
theorem lr_512 : x_row (x_rws M_law) 512 = some (512, .pop, 1, 0, 0, 0) := by decide +kernel
theorem lr_513 : x_row (x_rws M_law) 513 = some (513, .goto 1855, 3, 0, 0, 0) := by decide +kernel
theorem lr_516 : x_row (x_rws M_law) 516 = some (516, .aload_n 1, 1, 0, 0, 0) := by decide +kernel
theorem lr_517 : x_row (x_rws M_law) 517 = some (517, .aload_n 0, 1, 0, 0, 0) := by decide +kernel
theorem lr_518 : x_row (x_rws M_law) 518 = some (518, .iload_n 3, 1, 0, 0, 0) := by decide +kernel
theorem lr_519 : x_row (x_rws M_law) 519 = some (519, .iconst 1, 1, 0, 0, 0) := by decide +kernel
theorem lr_520 : x_row (x_rws M_law) 520 = some (520, .iadd, 1, 0, 0, 0) := by decide +kernel
theorem lr_521 : x_row (x_rws M_law) 521 = some (521, .iaload, 1, 0, 0, 0) := by decide +kernel
theorem lr_522 : x_row (x_rws M_law) 522 = some (522, .invokevirtual 41, 3, 118, 1, 0) := by decide +kernel
theorem lr_525 : x_row (x_rws M_law) 525 = some (525, .pop, 1, 0, 0, 0) := by decide +kernel
theorem lr_526 : x_row (x_rws M_law) 526 = some (526, .aload_n 2, 1, 0, 0, 0) := by decide +kernel
theorem lr_527 : x_row (x_rws M_law) 527 = some (527, .aload_n 0, 1, 0, 0, 0) := by decide +kernel
theorem lr_528 : x_row (x_rws M_law) 528 = some (528, .iload_n 3, 1, 0, 0, 0) := by decide +kernel
theorem lr_529 : x_row (x_rws M_law) 529 = some (529, .iconst 1, 1, 0, 0, 0) := by decide +kernel
theorem lr_530 : x_row (x_rws M_law) 530 = some (530, .iadd, 1, 0, 0, 0) := by decide +kernel
theorem lr_531 : x_row (x_rws M_law) 531 = some (531, .iaload, 1, 0, 0, 0) := by decide +kernel
theorem lr_532 : x_row (x_rws M_law) 532 = some (532, .invokevirtual 44, 3, 241, 1, 0) := by decide +kernel
theorem lr_535 : x_row (x_rws M_law) 535 = some (535, .pop, 1, 0, 0, 0) := by decide +kernel
theorem lr_536 : x_row (x_rws M_law) 536 = some (536, .goto 1832, 3, 0, 0, 0) := by decide +kernel
theorem lr_539 : x_row (x_rws M_law) 539 = some (539, .aload_n 1, 1, 0, 0, 0) := by decide +kernel
theorem lr_540 : x_row (x_rws M_law) 540 = some (540, .invokevirtual 45, 3, 120, 0, 0) := by decide +kernel
theorem lr_543 : x_row (x_rws M_law) 543 = some (543, .pop, 1, 0, 0, 0) := by decide +kernel
theorem lr_544 : x_row (x_rws M_law) 544 = some (544, .aload_n 2, 1, 0, 0, 0) := by decide +kernel
theorem lr_545 : x_row (x_rws M_law) 545 = some (545, .invokevirtual 48, 3, 242, 0, 0) := by decide +kernel
theorem lr_548 : x_row (x_rws M_law) 548 = some (548, .pop, 1, 0, 0, 0) := by decide +kernel
theorem lr_549 : x_row (x_rws M_law) 549 = some (549, .goto 1819, 3, 0, 0, 0) := by decide +kernel
theorem lr_552 : x_row (x_rws M_law) 552 = some (552, .aload_n 1, 1, 0, 0, 0) := by decide +kernel
theorem lr_553 : x_row (x_rws M_law) 553 = some (553, .aload_n 0, 1, 0, 0, 0) := by decide +kernel
theorem lr_554 : x_row (x_rws M_law) 554 = some (554, .iload_n 3, 1, 0, 0, 0) := by decide +kernel
theorem lr_555 : x_row (x_rws M_law) 555 = some (555, .iconst 1, 1, 0, 0, 0) := by decide +kernel
theorem lr_556 : x_row (x_rws M_law) 556 = some (556, .iadd, 1, 0, 0, 0) := by decide +kernel
theorem lr_557 : x_row (x_rws M_law) 557 = some (557, .iaload, 1, 0, 0, 0) := by decide +kernel
theorem lr_558 : x_row (x_rws M_law) 558 = some (558, .aload_n 0, 1, 0, 0, 0) := by decide +kernel
theorem lr_559 : x_row (x_rws M_law) 559 = some (559, .iload_n 3, 1, 0, 0, 0) := by decide +kernel
theorem lr_560 : x_row (x_rws M_law) 560 = some (560, .iconst 2, 1, 0, 0, 0) := by decide +kernel
theorem lr_561 : x_row (x_rws M_law) 561 = some (561, .iadd, 1, 0, 0, 0) := by decide +kernel
theorem lr_562 : x_row (x_rws M_law) 562 = some (562, .iaload, 1, 0, 0, 0) := by decide +kernel
theorem lr_563 : x_row (x_rws M_law) 563 = some (563, .invokevirtual 49, 3, 121, 2, 0) := by decide +kernel
theorem lr_566 : x_row (x_rws M_law) 566 = some (566, .pop, 1, 0, 0, 0) := by decide +kernel
theorem lr_567 : x_row (x_rws M_law) 567 = some (567, .aload_n 2, 1, 0, 0, 0) := by decide +kernel
theorem lr_568 : x_row (x_rws M_law) 568 = some (568, .aload_n 0, 1, 0, 0, 0) := by decide +kernel
theorem lr_569 : x_row (x_rws M_law) 569 = some (569, .iload_n 3, 1, 0, 0, 0) := by decide +kernel
theorem lr_570 : x_row (x_rws M_law) 570 = some (570, .iconst 1, 1, 0, 0, 0) := by decide +kernel
theorem lr_571 : x_row (x_rws M_law) 571 = some (571, .iadd, 1, 0, 0, 0) := by decide +kernel
theorem lr_572 : x_row (x_rws M_law) 572 = some (572, .iaload, 1, 0, 0, 0) := by decide +kernel
theorem lr_573 : x_row (x_rws M_law) 573 = some (573, .aload_n 0, 1, 0, 0, 0) := by decide +kernel
theorem lr_574 : x_row (x_rws M_law) 574 = some (574, .iload_n 3, 1, 0, 0, 0) := by decide +kernel
theorem lr_575 : x_row (x_rws M_law) 575 = some (575, .iconst 2, 1, 0, 0, 0) := by decide +kernel
theorem lr_576 : x_row (x_rws M_law) 576 = some (576, .iadd, 1, 0, 0, 0) := by decide +kernel
theorem lr_577 : x_row (x_rws M_law) 577 = some (577, .iaload, 1, 0, 0, 0) := by decide +kernel
theorem lr_578 : x_row (x_rws M_law) 578 = some (578, .invokevirtual 52, 3, 244, 2, 0) := by decide +kernel
theorem lr_581 : x_row (x_rws M_law) 581 = some (581, .pop, 1, 0, 0, 0) := by decide +kernel
theorem lr_582 : x_row (x_rws M_law) 582 = some (582, .goto 1786, 3, 0, 0, 0) := by decide +kernel
theorem lr_585 : x_row (x_rws M_law) 585 = some (585, .aload_n 1, 1, 0, 0, 0) := by decide +kernel
theorem lr_586 : x_row (x_rws M_law) 586 = some (586, .aload_n 0, 1, 0, 0, 0) := by decide +kernel
theorem lr_587 : x_row (x_rws M_law) 587 = some (587, .iload_n 3, 1, 0, 0, 0) := by decide +kernel
theorem lr_588 : x_row (x_rws M_law) 588 = some (588, .iconst 1, 1, 0, 0, 0) := by decide +kernel
theorem lr_589 : x_row (x_rws M_law) 589 = some (589, .iadd, 1, 0, 0, 0) := by decide +kernel
theorem lr_590 : x_row (x_rws M_law) 590 = some (590, .iaload, 1, 0, 0, 0) := by decide +kernel
theorem lr_591 : x_row (x_rws M_law) 591 = some (591, .invokevirtual 53, 3, 122, 1, 0) := by decide +kernel
theorem lr_594 : x_row (x_rws M_law) 594 = some (594, .pop, 1, 0, 0, 0) := by decide +kernel
theorem lr_595 : x_row (x_rws M_law) 595 = some (595, .aload_n 2, 1, 0, 0, 0) := by decide +kernel
theorem lr_596 : x_row (x_rws M_law) 596 = some (596, .aload_n 0, 1, 0, 0, 0) := by decide +kernel
theorem lr_597 : x_row (x_rws M_law) 597 = some (597, .iload_n 3, 1, 0, 0, 0) := by decide +kernel
theorem lr_598 : x_row (x_rws M_law) 598 = some (598, .iconst 1, 1, 0, 0, 0) := by decide +kernel
theorem lr_599 : x_row (x_rws M_law) 599 = some (599, .iadd, 1, 0, 0, 0) := by decide +kernel
theorem lr_600 : x_row (x_rws M_law) 600 = some (600, .iaload, 1, 0, 0, 0) := by decide +kernel
theorem lr_601 : x_row (x_rws M_law) 601 = some (601, .invokevirtual 56, 3, 246, 1, 0) := by decide +kernel
theorem lr_604 : x_row (x_rws M_law) 604 = some (604, .pop, 1, 0, 0, 0) := by decide +kernel
theorem lr_605 : x_row (x_rws M_law) 605 = some (605, .goto 1763, 3, 0, 0, 0) := by decide +kernel
theorem lr_608 : x_row (x_rws M_law) 608 = some (608, .aload_n 1, 1, 0, 0, 0) := by decide +kernel
theorem lr_609 : x_row (x_rws M_law) 609 = some (609, .invokevirtual 57, 3, 123, 0, 0) := by decide +kernel
theorem lr_612 : x_row (x_rws M_law) 612 = some (612, .pop, 1, 0, 0, 0) := by decide +kernel
theorem lr_613 : x_row (x_rws M_law) 613 = some (613, .aload_n 2, 1, 0, 0, 0) := by decide +kernel
theorem lr_614 : x_row (x_rws M_law) 614 = some (614, .invokevirtual 60, 3, 247, 0, 0) := by decide +kernel
theorem lr_617 : x_row (x_rws M_law) 617 = some (617, .pop, 1, 0, 0, 0) := by decide +kernel
theorem lr_618 : x_row (x_rws M_law) 618 = some (618, .goto 1750, 3, 0, 0, 0) := by decide +kernel
theorem lr_621 : x_row (x_rws M_law) 621 = some (621, .aload_n 1, 1, 0, 0, 0) := by decide +kernel
theorem lr_622 : x_row (x_rws M_law) 622 = some (622, .aload_n 0, 1, 0, 0, 0) := by decide +kernel
theorem lr_623 : x_row (x_rws M_law) 623 = some (623, .iload_n 3, 1, 0, 0, 0) := by decide +kernel
theorem lr_624 : x_row (x_rws M_law) 624 = some (624, .iconst 1, 1, 0, 0, 0) := by decide +kernel
theorem lr_625 : x_row (x_rws M_law) 625 = some (625, .iadd, 1, 0, 0, 0) := by decide +kernel
theorem lr_626 : x_row (x_rws M_law) 626 = some (626, .iaload, 1, 0, 0, 0) := by decide +kernel
theorem lr_627 : x_row (x_rws M_law) 627 = some (627, .aload_n 0, 1, 0, 0, 0) := by decide +kernel
theorem lr_628 : x_row (x_rws M_law) 628 = some (628, .iload_n 3, 1, 0, 0, 0) := by decide +kernel
theorem lr_629 : x_row (x_rws M_law) 629 = some (629, .iconst 2, 1, 0, 0, 0) := by decide +kernel
theorem lr_630 : x_row (x_rws M_law) 630 = some (630, .iadd, 1, 0, 0, 0) := by decide +kernel
theorem lr_631 : x_row (x_rws M_law) 631 = some (631, .iaload, 1, 0, 0, 0) := by decide +kernel
theorem lr_632 : x_row (x_rws M_law) 632 = some (632, .invokevirtual 61, 3, 124, 2, 0) := by decide +kernel
theorem lr_635 : x_row (x_rws M_law) 635 = some (635, .pop, 1, 0, 0, 0) := by decide +kernel
theorem lr_636 : x_row (x_rws M_law) 636 = some (636, .aload_n 2, 1, 0, 0, 0) := by decide +kernel
theorem lr_637 : x_row (x_rws M_law) 637 = some (637, .aload_n 0, 1, 0, 0, 0) := by decide +kernel
theorem lr_638 : x_row (x_rws M_law) 638 = some (638, .iload_n 3, 1, 0, 0, 0) := by decide +kernel
theorem lr_639 : x_row (x_rws M_law) 639 = some (639, .iconst 1, 1, 0, 0, 0) := by decide +kernel
theorem lr_640 : x_row (x_rws M_law) 640 = some (640, .iadd, 1, 0, 0, 0) := by decide +kernel
theorem lr_641 : x_row (x_rws M_law) 641 = some (641, .iaload, 1, 0, 0, 0) := by decide +kernel
theorem lr_642 : x_row (x_rws M_law) 642 = some (642, .aload_n 0, 1, 0, 0, 0) := by decide +kernel
theorem lr_643 : x_row (x_rws M_law) 643 = some (643, .iload_n 3, 1, 0, 0, 0) := by decide +kernel
theorem lr_644 : x_row (x_rws M_law) 644 = some (644, .iconst 2, 1, 0, 0, 0) := by decide +kernel
theorem lr_645 : x_row (x_rws M_law) 645 = some (645, .iadd, 1, 0, 0, 0) := by decide +kernel
theorem lr_646 : x_row (x_rws M_law) 646 = some (646, .iaload, 1, 0, 0, 0) := by decide +kernel
theorem lr_647 : x_row (x_rws M_law) 647 = some (647, .invokevirtual 64, 3, 249, 2, 0) := by decide +kernel
theorem lr_650 : x_row (x_rws M_law) 650 = some (650, .pop, 1, 0, 0, 0) := by decide +kernel
theorem lr_651 : x_row (x_rws M_law) 651 = some (651, .goto 1717, 3, 0, 0, 0) := by decide +kernel
theorem lr_654 : x_row (x_rws M_law) 654 = some (654, .aload_n 1, 1, 0, 0, 0) := by decide +kernel
theorem lr_655 : x_row (x_rws M_law) 655 = some (655, .aload_n 0, 1, 0, 0, 0) := by decide +kernel
theorem lr_656 : x_row (x_rws M_law) 656 = some (656, .iload_n 3, 1, 0, 0, 0) := by decide +kernel
theorem lr_657 : x_row (x_rws M_law) 657 = some (657, .iconst 1, 1, 0, 0, 0) := by decide +kernel
theorem lr_658 : x_row (x_rws M_law) 658 = some (658, .iadd, 1, 0, 0, 0) := by decide +kernel
theorem lr_659 : x_row (x_rws M_law) 659 = some (659, .iaload, 1, 0, 0, 0) := by decide +kernel
theorem lr_660 : x_row (x_rws M_law) 660 = some (660, .aload_n 0, 1, 0, 0, 0) := by decide +kernel
theorem lr_661 : x_row (x_rws M_law) 661 = some (661, .iload_n 3, 1, 0, 0, 0) := by decide +kernel
theorem lr_662 : x_row (x_rws M_law) 662 = some (662, .iconst 2, 1, 0, 0, 0) := by decide +kernel
theorem lr_663 : x_row (x_rws M_law) 663 = some (663, .iadd, 1, 0, 0, 0) := by decide +kernel
theorem lr_664 : x_row (x_rws M_law) 664 = some (664, .iaload, 1, 0, 0, 0) := by decide +kernel
theorem lr_665 : x_row (x_rws M_law) 665 = some (665, .invokevirtual 65, 3, 125, 2, 0) := by decide +kernel
theorem lr_668 : x_row (x_rws M_law) 668 = some (668, .pop, 1, 0, 0, 0) := by decide +kernel
theorem lr_669 : x_row (x_rws M_law) 669 = some (669, .aload_n 2, 1, 0, 0, 0) := by decide +kernel
theorem lr_670 : x_row (x_rws M_law) 670 = some (670, .aload_n 0, 1, 0, 0, 0) := by decide +kernel
theorem lr_671 : x_row (x_rws M_law) 671 = some (671, .iload_n 3, 1, 0, 0, 0) := by decide +kernel
theorem lr_672 : x_row (x_rws M_law) 672 = some (672, .iconst 1, 1, 0, 0, 0) := by decide +kernel
theorem lr_673 : x_row (x_rws M_law) 673 = some (673, .iadd, 1, 0, 0, 0) := by decide +kernel
theorem lr_674 : x_row (x_rws M_law) 674 = some (674, .iaload, 1, 0, 0, 0) := by decide +kernel
theorem lr_675 : x_row (x_rws M_law) 675 = some (675, .aload_n 0, 1, 0, 0, 0) := by decide +kernel
theorem lr_676 : x_row (x_rws M_law) 676 = some (676, .iload_n 3, 1, 0, 0, 0) := by decide +kernel
theorem lr_677 : x_row (x_rws M_law) 677 = some (677, .iconst 2, 1, 0, 0, 0) := by decide +kernel
theorem lr_678 : x_row (x_rws M_law) 678 = some (678, .iadd, 1, 0, 0, 0) := by decide +kernel
theorem lr_679 : x_row (x_rws M_law) 679 = some (679, .iaload, 1, 0, 0, 0) := by decide +kernel
theorem lr_680 : x_row (x_rws M_law) 680 = some (680, .invokevirtual 68, 3, 251, 2, 0) := by decide +kernel
theorem lr_683 : x_row (x_rws M_law) 683 = some (683, .pop, 1, 0, 0, 0) := by decide +kernel
theorem lr_684 : x_row (x_rws M_law) 684 = some (684, .goto 1684, 3, 0, 0, 0) := by decide +kernel
theorem lr_687 : x_row (x_rws M_law) 687 = some (687, .aload_n 1, 1, 0, 0, 0) := by decide +kernel
theorem lr_688 : x_row (x_rws M_law) 688 = some (688, .aload_n 0, 1, 0, 0, 0) := by decide +kernel
theorem lr_689 : x_row (x_rws M_law) 689 = some (689, .iload_n 3, 1, 0, 0, 0) := by decide +kernel
theorem lr_690 : x_row (x_rws M_law) 690 = some (690, .iconst 1, 1, 0, 0, 0) := by decide +kernel
theorem lr_691 : x_row (x_rws M_law) 691 = some (691, .iadd, 1, 0, 0, 0) := by decide +kernel
theorem lr_692 : x_row (x_rws M_law) 692 = some (692, .iaload, 1, 0, 0, 0) := by decide +kernel
theorem lr_693 : x_row (x_rws M_law) 693 = some (693, .aload_n 0, 1, 0, 0, 0) := by decide +kernel
theorem lr_694 : x_row (x_rws M_law) 694 = some (694, .iload_n 3, 1, 0, 0, 0) := by decide +kernel
theorem lr_695 : x_row (x_rws M_law) 695 = some (695, .iconst 2, 1, 0, 0, 0) := by decide +kernel
theorem lr_696 : x_row (x_rws M_law) 696 = some (696, .iadd, 1, 0, 0, 0) := by decide +kernel
theorem lr_697 : x_row (x_rws M_law) 697 = some (697, .iaload, 1, 0, 0, 0) := by decide +kernel
theorem lr_698 : x_row (x_rws M_law) 698 = some (698, .invokevirtual 69, 3, 126, 2, 0) := by decide +kernel
theorem lr_701 : x_row (x_rws M_law) 701 = some (701, .pop, 1, 0, 0, 0) := by decide +kernel
theorem lr_702 : x_row (x_rws M_law) 702 = some (702, .aload_n 2, 1, 0, 0, 0) := by decide +kernel
theorem lr_703 : x_row (x_rws M_law) 703 = some (703, .aload_n 0, 1, 0, 0, 0) := by decide +kernel
theorem lr_704 : x_row (x_rws M_law) 704 = some (704, .iload_n 3, 1, 0, 0, 0) := by decide +kernel
theorem lr_705 : x_row (x_rws M_law) 705 = some (705, .iconst 1, 1, 0, 0, 0) := by decide +kernel
theorem lr_706 : x_row (x_rws M_law) 706 = some (706, .iadd, 1, 0, 0, 0) := by decide +kernel
theorem lr_707 : x_row (x_rws M_law) 707 = some (707, .iaload, 1, 0, 0, 0) := by decide +kernel
theorem lr_708 : x_row (x_rws M_law) 708 = some (708, .aload_n 0, 1, 0, 0, 0) := by decide +kernel
theorem lr_709 : x_row (x_rws M_law) 709 = some (709, .iload_n 3, 1, 0, 0, 0) := by decide +kernel
theorem lr_710 : x_row (x_rws M_law) 710 = some (710, .iconst 2, 1, 0, 0, 0) := by decide +kernel
theorem lr_711 : x_row (x_rws M_law) 711 = some (711, .iadd, 1, 0, 0, 0) := by decide +kernel
theorem lr_712 : x_row (x_rws M_law) 712 = some (712, .iaload, 1, 0, 0, 0) := by decide +kernel
theorem lr_713 : x_row (x_rws M_law) 713 = some (713, .invokevirtual 72, 3, 254, 2, 0) := by decide +kernel
theorem lr_716 : x_row (x_rws M_law) 716 = some (716, .pop, 1, 0, 0, 0) := by decide +kernel
theorem lr_717 : x_row (x_rws M_law) 717 = some (717, .goto 1651, 3, 0, 0, 0) := by decide +kernel
theorem lr_720 : x_row (x_rws M_law) 720 = some (720, .aload_n 1, 1, 0, 0, 0) := by decide +kernel
theorem lr_721 : x_row (x_rws M_law) 721 = some (721, .aload_n 0, 1, 0, 0, 0) := by decide +kernel
theorem lr_722 : x_row (x_rws M_law) 722 = some (722, .iload_n 3, 1, 0, 0, 0) := by decide +kernel
theorem lr_723 : x_row (x_rws M_law) 723 = some (723, .iconst 1, 1, 0, 0, 0) := by decide +kernel
theorem lr_724 : x_row (x_rws M_law) 724 = some (724, .iadd, 1, 0, 0, 0) := by decide +kernel
theorem lr_725 : x_row (x_rws M_law) 725 = some (725, .iaload, 1, 0, 0, 0) := by decide +kernel
theorem lr_726 : x_row (x_rws M_law) 726 = some (726, .invokevirtual 73, 3, 127, 1, 0) := by decide +kernel
theorem lr_729 : x_row (x_rws M_law) 729 = some (729, .pop, 1, 0, 0, 0) := by decide +kernel
theorem lr_730 : x_row (x_rws M_law) 730 = some (730, .aload_n 2, 1, 0, 0, 0) := by decide +kernel
theorem lr_731 : x_row (x_rws M_law) 731 = some (731, .aload_n 0, 1, 0, 0, 0) := by decide +kernel
theorem lr_732 : x_row (x_rws M_law) 732 = some (732, .iload_n 3, 1, 0, 0, 0) := by decide +kernel
theorem lr_733 : x_row (x_rws M_law) 733 = some (733, .iconst 1, 1, 0, 0, 0) := by decide +kernel
theorem lr_734 : x_row (x_rws M_law) 734 = some (734, .iadd, 1, 0, 0, 0) := by decide +kernel
theorem lr_735 : x_row (x_rws M_law) 735 = some (735, .iaload, 1, 0, 0, 0) := by decide +kernel
theorem lr_736 : x_row (x_rws M_law) 736 = some (736, .invokevirtual 76, 3, 260, 1, 0) := by decide +kernel
theorem lr_739 : x_row (x_rws M_law) 739 = some (739, .pop, 1, 0, 0, 0) := by decide +kernel
theorem lr_740 : x_row (x_rws M_law) 740 = some (740, .goto 1628, 3, 0, 0, 0) := by decide +kernel
theorem lr_743 : x_row (x_rws M_law) 743 = some (743, .aload_n 1, 1, 0, 0, 0) := by decide +kernel
theorem lr_744 : x_row (x_rws M_law) 744 = some (744, .aload_n 0, 1, 0, 0, 0) := by decide +kernel
theorem lr_745 : x_row (x_rws M_law) 745 = some (745, .iload_n 3, 1, 0, 0, 0) := by decide +kernel
theorem lr_746 : x_row (x_rws M_law) 746 = some (746, .iconst 1, 1, 0, 0, 0) := by decide +kernel
theorem lr_747 : x_row (x_rws M_law) 747 = some (747, .iadd, 1, 0, 0, 0) := by decide +kernel
theorem lr_748 : x_row (x_rws M_law) 748 = some (748, .iaload, 1, 0, 0, 0) := by decide +kernel
theorem lr_749 : x_row (x_rws M_law) 749 = some (749, .aload_n 0, 1, 0, 0, 0) := by decide +kernel
theorem lr_750 : x_row (x_rws M_law) 750 = some (750, .iload_n 3, 1, 0, 0, 0) := by decide +kernel
theorem lr_751 : x_row (x_rws M_law) 751 = some (751, .iconst 2, 1, 0, 0, 0) := by decide +kernel
theorem lr_752 : x_row (x_rws M_law) 752 = some (752, .iadd, 1, 0, 0, 0) := by decide +kernel
theorem lr_753 : x_row (x_rws M_law) 753 = some (753, .iaload, 1, 0, 0, 0) := by decide +kernel
theorem lr_754 : x_row (x_rws M_law) 754 = some (754, .invokevirtual 77, 3, 128, 2, 0) := by decide +kernel
theorem lr_757 : x_row (x_rws M_law) 757 = some (757, .pop, 1, 0, 0, 0) := by decide +kernel
theorem lr_758 : x_row (x_rws M_law) 758 = some (758, .aload_n 2, 1, 0, 0, 0) := by decide +kernel
theorem lr_759 : x_row (x_rws M_law) 759 = some (759, .aload_n 0, 1, 0, 0, 0) := by decide +kernel
theorem lr_760 : x_row (x_rws M_law) 760 = some (760, .iload_n 3, 1, 0, 0, 0) := by decide +kernel
theorem lr_761 : x_row (x_rws M_law) 761 = some (761, .iconst 1, 1, 0, 0, 0) := by decide +kernel
theorem lr_762 : x_row (x_rws M_law) 762 = some (762, .iadd, 1, 0, 0, 0) := by decide +kernel
theorem lr_763 : x_row (x_rws M_law) 763 = some (763, .iaload, 1, 0, 0, 0) := by decide +kernel
theorem lr_764 : x_row (x_rws M_law) 764 = some (764, .aload_n 0, 1, 0, 0, 0) := by decide +kernel
theorem lr_765 : x_row (x_rws M_law) 765 = some (765, .iload_n 3, 1, 0, 0, 0) := by decide +kernel
theorem lr_766 : x_row (x_rws M_law) 766 = some (766, .iconst 2, 1, 0, 0, 0) := by decide +kernel
theorem lr_767 : x_row (x_rws M_law) 767 = some (767, .iadd, 1, 0, 0, 0) := by decide +kernel
theorem lr_768 : x_row (x_rws M_law) 768 = some (768, .iaload, 1, 0, 0, 0) := by decide +kernel
theorem lr_769 : x_row (x_rws M_law) 769 = some (769, .invokevirtual 80, 3, 261, 2, 0) := by decide +kernel
theorem lr_772 : x_row (x_rws M_law) 772 = some (772, .pop, 1, 0, 0, 0) := by decide +kernel
theorem lr_773 : x_row (x_rws M_law) 773 = some (773, .goto 1595, 3, 0, 0, 0) := by decide +kernel
theorem lr_776 : x_row (x_rws M_law) 776 = some (776, .aload_n 1, 1, 0, 0, 0) := by decide +kernel
theorem lr_777 : x_row (x_rws M_law) 777 = some (777, .aload_n 0, 1, 0, 0, 0) := by decide +kernel
theorem lr_778 : x_row (x_rws M_law) 778 = some (778, .iload_n 3, 1, 0, 0, 0) := by decide +kernel
theorem lr_779 : x_row (x_rws M_law) 779 = some (779, .iconst 1, 1, 0, 0, 0) := by decide +kernel
theorem lr_780 : x_row (x_rws M_law) 780 = some (780, .iadd, 1, 0, 0, 0) := by decide +kernel
theorem lr_781 : x_row (x_rws M_law) 781 = some (781, .iaload, 1, 0, 0, 0) := by decide +kernel
theorem lr_782 : x_row (x_rws M_law) 782 = some (782, .aload_n 0, 1, 0, 0, 0) := by decide +kernel
theorem lr_783 : x_row (x_rws M_law) 783 = some (783, .iload_n 3, 1, 0, 0, 0) := by decide +kernel
theorem lr_784 : x_row (x_rws M_law) 784 = some (784, .iconst 2, 1, 0, 0, 0) := by decide +kernel
theorem lr_785 : x_row (x_rws M_law) 785 = some (785, .iadd, 1, 0, 0, 0) := by decide +kernel
theorem lr_786 : x_row (x_rws M_law) 786 = some (786, .iaload, 1, 0, 0, 0) := by decide +kernel
theorem lr_787 : x_row (x_rws M_law) 787 = some (787, .invokevirtual 81, 3, 129, 2, 0) := by decide +kernel
theorem lr_790 : x_row (x_rws M_law) 790 = some (790, .pop, 1, 0, 0, 0) := by decide +kernel
theorem lr_791 : x_row (x_rws M_law) 791 = some (791, .aload_n 2, 1, 0, 0, 0) := by decide +kernel
theorem lr_792 : x_row (x_rws M_law) 792 = some (792, .aload_n 0, 1, 0, 0, 0) := by decide +kernel
theorem lr_793 : x_row (x_rws M_law) 793 = some (793, .iload_n 3, 1, 0, 0, 0) := by decide +kernel
theorem lr_794 : x_row (x_rws M_law) 794 = some (794, .iconst 1, 1, 0, 0, 0) := by decide +kernel
theorem lr_795 : x_row (x_rws M_law) 795 = some (795, .iadd, 1, 0, 0, 0) := by decide +kernel
theorem lr_796 : x_row (x_rws M_law) 796 = some (796, .iaload, 1, 0, 0, 0) := by decide +kernel
theorem lr_797 : x_row (x_rws M_law) 797 = some (797, .aload_n 0, 1, 0, 0, 0) := by decide +kernel
theorem lr_798 : x_row (x_rws M_law) 798 = some (798, .iload_n 3, 1, 0, 0, 0) := by decide +kernel
theorem lr_799 : x_row (x_rws M_law) 799 = some (799, .iconst 2, 1, 0, 0, 0) := by decide +kernel
theorem lr_800 : x_row (x_rws M_law) 800 = some (800, .iadd, 1, 0, 0, 0) := by decide +kernel
theorem lr_801 : x_row (x_rws M_law) 801 = some (801, .iaload, 1, 0, 0, 0) := by decide +kernel
theorem lr_802 : x_row (x_rws M_law) 802 = some (802, .invokevirtual 84, 3, 262, 2, 0) := by decide +kernel
theorem lr_805 : x_row (x_rws M_law) 805 = some (805, .pop, 1, 0, 0, 0) := by decide +kernel
theorem lr_806 : x_row (x_rws M_law) 806 = some (806, .goto 1562, 3, 0, 0, 0) := by decide +kernel
theorem lr_809 : x_row (x_rws M_law) 809 = some (809, .aload_n 1, 1, 0, 0, 0) := by decide +kernel
theorem lr_810 : x_row (x_rws M_law) 810 = some (810, .aload_n 0, 1, 0, 0, 0) := by decide +kernel
theorem lr_811 : x_row (x_rws M_law) 811 = some (811, .iload_n 3, 1, 0, 0, 0) := by decide +kernel
theorem lr_812 : x_row (x_rws M_law) 812 = some (812, .iconst 1, 1, 0, 0, 0) := by decide +kernel
theorem lr_813 : x_row (x_rws M_law) 813 = some (813, .iadd, 1, 0, 0, 0) := by decide +kernel
theorem lr_814 : x_row (x_rws M_law) 814 = some (814, .iaload, 1, 0, 0, 0) := by decide +kernel
theorem lr_815 : x_row (x_rws M_law) 815 = some (815, .aload_n 0, 1, 0, 0, 0) := by decide +kernel
theorem lr_816 : x_row (x_rws M_law) 816 = some (816, .iload_n 3, 1, 0, 0, 0) := by decide +kernel
theorem lr_817 : x_row (x_rws M_law) 817 = some (817, .iconst 2, 1, 0, 0, 0) := by decide +kernel
theorem lr_818 : x_row (x_rws M_law) 818 = some (818, .iadd, 1, 0, 0, 0) := by decide +kernel
theorem lr_819 : x_row (x_rws M_law) 819 = some (819, .iaload, 1, 0, 0, 0) := by decide +kernel
theorem lr_820 : x_row (x_rws M_law) 820 = some (820, .invokevirtual 85, 3, 130, 2, 0) := by decide +kernel
theorem lr_823 : x_row (x_rws M_law) 823 = some (823, .pop, 1, 0, 0, 0) := by decide +kernel
theorem lr_824 : x_row (x_rws M_law) 824 = some (824, .aload_n 2, 1, 0, 0, 0) := by decide +kernel
theorem lr_825 : x_row (x_rws M_law) 825 = some (825, .aload_n 0, 1, 0, 0, 0) := by decide +kernel
theorem lr_826 : x_row (x_rws M_law) 826 = some (826, .iload_n 3, 1, 0, 0, 0) := by decide +kernel
theorem lr_827 : x_row (x_rws M_law) 827 = some (827, .iconst 1, 1, 0, 0, 0) := by decide +kernel
theorem lr_828 : x_row (x_rws M_law) 828 = some (828, .iadd, 1, 0, 0, 0) := by decide +kernel
theorem lr_829 : x_row (x_rws M_law) 829 = some (829, .iaload, 1, 0, 0, 0) := by decide +kernel
theorem lr_830 : x_row (x_rws M_law) 830 = some (830, .aload_n 0, 1, 0, 0, 0) := by decide +kernel
theorem lr_831 : x_row (x_rws M_law) 831 = some (831, .iload_n 3, 1, 0, 0, 0) := by decide +kernel
theorem lr_832 : x_row (x_rws M_law) 832 = some (832, .iconst 2, 1, 0, 0, 0) := by decide +kernel
theorem lr_833 : x_row (x_rws M_law) 833 = some (833, .iadd, 1, 0, 0, 0) := by decide +kernel
theorem lr_834 : x_row (x_rws M_law) 834 = some (834, .iaload, 1, 0, 0, 0) := by decide +kernel
theorem lr_835 : x_row (x_rws M_law) 835 = some (835, .invokevirtual 88, 3, 263, 2, 0) := by decide +kernel
theorem lr_838 : x_row (x_rws M_law) 838 = some (838, .pop, 1, 0, 0, 0) := by decide +kernel
theorem lr_839 : x_row (x_rws M_law) 839 = some (839, .goto 1529, 3, 0, 0, 0) := by decide +kernel
theorem lr_842 : x_row (x_rws M_law) 842 = some (842, .aload_n 1, 1, 0, 0, 0) := by decide +kernel
theorem lr_843 : x_row (x_rws M_law) 843 = some (843, .aload_n 0, 1, 0, 0, 0) := by decide +kernel
theorem lr_844 : x_row (x_rws M_law) 844 = some (844, .iload_n 3, 1, 0, 0, 0) := by decide +kernel
theorem lr_845 : x_row (x_rws M_law) 845 = some (845, .iconst 1, 1, 0, 0, 0) := by decide +kernel
theorem lr_846 : x_row (x_rws M_law) 846 = some (846, .iadd, 1, 0, 0, 0) := by decide +kernel
theorem lr_847 : x_row (x_rws M_law) 847 = some (847, .iaload, 1, 0, 0, 0) := by decide +kernel
theorem lr_848 : x_row (x_rws M_law) 848 = some (848, .invokevirtual 89, 3, 131, 1, 0) := by decide +kernel
theorem lr_851 : x_row (x_rws M_law) 851 = some (851, .pop, 1, 0, 0, 0) := by decide +kernel
theorem lr_852 : x_row (x_rws M_law) 852 = some (852, .aload_n 2, 1, 0, 0, 0) := by decide +kernel
theorem lr_853 : x_row (x_rws M_law) 853 = some (853, .aload_n 0, 1, 0, 0, 0) := by decide +kernel
theorem lr_854 : x_row (x_rws M_law) 854 = some (854, .iload_n 3, 1, 0, 0, 0) := by decide +kernel
theorem lr_855 : x_row (x_rws M_law) 855 = some (855, .iconst 1, 1, 0, 0, 0) := by decide +kernel
theorem lr_856 : x_row (x_rws M_law) 856 = some (856, .iadd, 1, 0, 0, 0) := by decide +kernel
theorem lr_857 : x_row (x_rws M_law) 857 = some (857, .iaload, 1, 0, 0, 0) := by decide +kernel
theorem lr_858 : x_row (x_rws M_law) 858 = some (858, .invokevirtual 92, 3, 264, 1, 0) := by decide +kernel
theorem lr_861 : x_row (x_rws M_law) 861 = some (861, .pop, 1, 0, 0, 0) := by decide +kernel
theorem lr_862 : x_row (x_rws M_law) 862 = some (862, .goto 1506, 3, 0, 0, 0) := by decide +kernel
theorem lr_865 : x_row (x_rws M_law) 865 = some (865, .aload_n 1, 1, 0, 0, 0) := by decide +kernel
theorem lr_866 : x_row (x_rws M_law) 866 = some (866, .aload_n 0, 1, 0, 0, 0) := by decide +kernel
theorem lr_867 : x_row (x_rws M_law) 867 = some (867, .iload_n 3, 1, 0, 0, 0) := by decide +kernel
theorem lr_868 : x_row (x_rws M_law) 868 = some (868, .iconst 1, 1, 0, 0, 0) := by decide +kernel
theorem lr_869 : x_row (x_rws M_law) 869 = some (869, .iadd, 1, 0, 0, 0) := by decide +kernel
theorem lr_870 : x_row (x_rws M_law) 870 = some (870, .iaload, 1, 0, 0, 0) := by decide +kernel
theorem lr_871 : x_row (x_rws M_law) 871 = some (871, .invokevirtual 93, 3, 132, 1, 0) := by decide +kernel
theorem lr_874 : x_row (x_rws M_law) 874 = some (874, .pop, 1, 0, 0, 0) := by decide +kernel
theorem lr_875 : x_row (x_rws M_law) 875 = some (875, .aload_n 2, 1, 0, 0, 0) := by decide +kernel
theorem lr_876 : x_row (x_rws M_law) 876 = some (876, .aload_n 0, 1, 0, 0, 0) := by decide +kernel
theorem lr_877 : x_row (x_rws M_law) 877 = some (877, .iload_n 3, 1, 0, 0, 0) := by decide +kernel
theorem lr_878 : x_row (x_rws M_law) 878 = some (878, .iconst 1, 1, 0, 0, 0) := by decide +kernel
theorem lr_879 : x_row (x_rws M_law) 879 = some (879, .iadd, 1, 0, 0, 0) := by decide +kernel
theorem lr_880 : x_row (x_rws M_law) 880 = some (880, .iaload, 1, 0, 0, 0) := by decide +kernel
theorem lr_881 : x_row (x_rws M_law) 881 = some (881, .invokevirtual 96, 3, 265, 1, 0) := by decide +kernel
theorem lr_884 : x_row (x_rws M_law) 884 = some (884, .pop, 1, 0, 0, 0) := by decide +kernel
theorem lr_885 : x_row (x_rws M_law) 885 = some (885, .goto 1483, 3, 0, 0, 0) := by decide +kernel
theorem lr_888 : x_row (x_rws M_law) 888 = some (888, .aload_n 1, 1, 0, 0, 0) := by decide +kernel
theorem lr_889 : x_row (x_rws M_law) 889 = some (889, .aload_n 0, 1, 0, 0, 0) := by decide +kernel
theorem lr_890 : x_row (x_rws M_law) 890 = some (890, .iload_n 3, 1, 0, 0, 0) := by decide +kernel
theorem lr_891 : x_row (x_rws M_law) 891 = some (891, .iconst 1, 1, 0, 0, 0) := by decide +kernel
theorem lr_892 : x_row (x_rws M_law) 892 = some (892, .iadd, 1, 0, 0, 0) := by decide +kernel
theorem lr_893 : x_row (x_rws M_law) 893 = some (893, .iaload, 1, 0, 0, 0) := by decide +kernel
theorem lr_894 : x_row (x_rws M_law) 894 = some (894, .invokevirtual 97, 3, 133, 1, 0) := by decide +kernel
theorem lr_897 : x_row (x_rws M_law) 897 = some (897, .pop, 1, 0, 0, 0) := by decide +kernel
theorem lr_898 : x_row (x_rws M_law) 898 = some (898, .aload_n 2, 1, 0, 0, 0) := by decide +kernel
theorem lr_899 : x_row (x_rws M_law) 899 = some (899, .aload_n 0, 1, 0, 0, 0) := by decide +kernel
theorem lr_900 : x_row (x_rws M_law) 900 = some (900, .iload_n 3, 1, 0, 0, 0) := by decide +kernel
theorem lr_901 : x_row (x_rws M_law) 901 = some (901, .iconst 1, 1, 0, 0, 0) := by decide +kernel
theorem lr_902 : x_row (x_rws M_law) 902 = some (902, .iadd, 1, 0, 0, 0) := by decide +kernel
theorem lr_903 : x_row (x_rws M_law) 903 = some (903, .iaload, 1, 0, 0, 0) := by decide +kernel
theorem lr_904 : x_row (x_rws M_law) 904 = some (904, .invokevirtual 100, 3, 271, 1, 0) := by decide +kernel
theorem lr_907 : x_row (x_rws M_law) 907 = some (907, .pop, 1, 0, 0, 0) := by decide +kernel
theorem lr_908 : x_row (x_rws M_law) 908 = some (908, .goto 1460, 3, 0, 0, 0) := by decide +kernel
theorem lr_911 : x_row (x_rws M_law) 911 = some (911, .aload_n 1, 1, 0, 0, 0) := by decide +kernel
theorem lr_912 : x_row (x_rws M_law) 912 = some (912, .aload_n 0, 1, 0, 0, 0) := by decide +kernel
theorem lr_913 : x_row (x_rws M_law) 913 = some (913, .iload_n 3, 1, 0, 0, 0) := by decide +kernel
theorem lr_914 : x_row (x_rws M_law) 914 = some (914, .iconst 1, 1, 0, 0, 0) := by decide +kernel
theorem lr_915 : x_row (x_rws M_law) 915 = some (915, .iadd, 1, 0, 0, 0) := by decide +kernel
theorem lr_916 : x_row (x_rws M_law) 916 = some (916, .iaload, 1, 0, 0, 0) := by decide +kernel
theorem lr_917 : x_row (x_rws M_law) 917 = some (917, .aload_n 0, 1, 0, 0, 0) := by decide +kernel
theorem lr_918 : x_row (x_rws M_law) 918 = some (918, .iload_n 3, 1, 0, 0, 0) := by decide +kernel
theorem lr_919 : x_row (x_rws M_law) 919 = some (919, .iconst 2, 1, 0, 0, 0) := by decide +kernel
theorem lr_920 : x_row (x_rws M_law) 920 = some (920, .iadd, 1, 0, 0, 0) := by decide +kernel
theorem lr_921 : x_row (x_rws M_law) 921 = some (921, .iaload, 1, 0, 0, 0) := by decide +kernel
theorem lr_922 : x_row (x_rws M_law) 922 = some (922, .invokevirtual 101, 3, 134, 2, 0) := by decide +kernel
theorem lr_925 : x_row (x_rws M_law) 925 = some (925, .pop, 1, 0, 0, 0) := by decide +kernel
theorem lr_926 : x_row (x_rws M_law) 926 = some (926, .aload_n 2, 1, 0, 0, 0) := by decide +kernel
theorem lr_927 : x_row (x_rws M_law) 927 = some (927, .aload_n 0, 1, 0, 0, 0) := by decide +kernel
theorem lr_928 : x_row (x_rws M_law) 928 = some (928, .iload_n 3, 1, 0, 0, 0) := by decide +kernel
theorem lr_929 : x_row (x_rws M_law) 929 = some (929, .iconst 1, 1, 0, 0, 0) := by decide +kernel
theorem lr_930 : x_row (x_rws M_law) 930 = some (930, .iadd, 1, 0, 0, 0) := by decide +kernel
theorem lr_931 : x_row (x_rws M_law) 931 = some (931, .iaload, 1, 0, 0, 0) := by decide +kernel
theorem lr_932 : x_row (x_rws M_law) 932 = some (932, .aload_n 0, 1, 0, 0, 0) := by decide +kernel
theorem lr_933 : x_row (x_rws M_law) 933 = some (933, .iload_n 3, 1, 0, 0, 0) := by decide +kernel
theorem lr_934 : x_row (x_rws M_law) 934 = some (934, .iconst 2, 1, 0, 0, 0) := by decide +kernel
theorem lr_935 : x_row (x_rws M_law) 935 = some (935, .iadd, 1, 0, 0, 0) := by decide +kernel
theorem lr_936 : x_row (x_rws M_law) 936 = some (936, .iaload, 1, 0, 0, 0) := by decide +kernel
theorem lr_937 : x_row (x_rws M_law) 937 = some (937, .invokevirtual 104, 3, 272, 2, 0) := by decide +kernel
theorem lr_940 : x_row (x_rws M_law) 940 = some (940, .pop, 1, 0, 0, 0) := by decide +kernel
theorem lr_941 : x_row (x_rws M_law) 941 = some (941, .goto 1427, 3, 0, 0, 0) := by decide +kernel
theorem lr_944 : x_row (x_rws M_law) 944 = some (944, .aload_n 1, 1, 0, 0, 0) := by decide +kernel
theorem lr_945 : x_row (x_rws M_law) 945 = some (945, .aload_n 0, 1, 0, 0, 0) := by decide +kernel
theorem lr_946 : x_row (x_rws M_law) 946 = some (946, .iload_n 3, 1, 0, 0, 0) := by decide +kernel
theorem lr_947 : x_row (x_rws M_law) 947 = some (947, .iconst 1, 1, 0, 0, 0) := by decide +kernel
theorem lr_948 : x_row (x_rws M_law) 948 = some (948, .iadd, 1, 0, 0, 0) := by decide +kernel
theorem lr_949 : x_row (x_rws M_law) 949 = some (949, .iaload, 1, 0, 0, 0) := by decide +kernel
theorem lr_950 : x_row (x_rws M_law) 950 = some (950, .aload_n 0, 1, 0, 0, 0) := by decide +kernel
theorem lr_951 : x_row (x_rws M_law) 951 = some (951, .iload_n 3, 1, 0, 0, 0) := by decide +kernel
theorem lr_952 : x_row (x_rws M_law) 952 = some (952, .iconst 2, 1, 0, 0, 0) := by decide +kernel
theorem lr_953 : x_row (x_rws M_law) 953 = some (953, .iadd, 1, 0, 0, 0) := by decide +kernel
theorem lr_954 : x_row (x_rws M_law) 954 = some (954, .iaload, 1, 0, 0, 0) := by decide +kernel
theorem lr_955 : x_row (x_rws M_law) 955 = some (955, .invokevirtual 105, 3, 135, 2, 0) := by decide +kernel
theorem lr_958 : x_row (x_rws M_law) 958 = some (958, .pop, 1, 0, 0, 0) := by decide +kernel
theorem lr_959 : x_row (x_rws M_law) 959 = some (959, .aload_n 2, 1, 0, 0, 0) := by decide +kernel
theorem lr_960 : x_row (x_rws M_law) 960 = some (960, .aload_n 0, 1, 0, 0, 0) := by decide +kernel
theorem lr_961 : x_row (x_rws M_law) 961 = some (961, .iload_n 3, 1, 0, 0, 0) := by decide +kernel
theorem lr_962 : x_row (x_rws M_law) 962 = some (962, .iconst 1, 1, 0, 0, 0) := by decide +kernel
theorem lr_963 : x_row (x_rws M_law) 963 = some (963, .iadd, 1, 0, 0, 0) := by decide +kernel
theorem lr_964 : x_row (x_rws M_law) 964 = some (964, .iaload, 1, 0, 0, 0) := by decide +kernel
theorem lr_965 : x_row (x_rws M_law) 965 = some (965, .aload_n 0, 1, 0, 0, 0) := by decide +kernel
theorem lr_966 : x_row (x_rws M_law) 966 = some (966, .iload_n 3, 1, 0, 0, 0) := by decide +kernel
theorem lr_967 : x_row (x_rws M_law) 967 = some (967, .iconst 2, 1, 0, 0, 0) := by decide +kernel
theorem lr_968 : x_row (x_rws M_law) 968 = some (968, .iadd, 1, 0, 0, 0) := by decide +kernel
theorem lr_969 : x_row (x_rws M_law) 969 = some (969, .iaload, 1, 0, 0, 0) := by decide +kernel
theorem lr_970 : x_row (x_rws M_law) 970 = some (970, .invokevirtual 108, 3, 274, 2, 0) := by decide +kernel
theorem lr_973 : x_row (x_rws M_law) 973 = some (973, .pop, 1, 0, 0, 0) := by decide +kernel
theorem lr_974 : x_row (x_rws M_law) 974 = some (974, .goto 1394, 3, 0, 0, 0) := by decide +kernel
theorem lr_977 : x_row (x_rws M_law) 977 = some (977, .aload_n 1, 1, 0, 0, 0) := by decide +kernel
theorem lr_978 : x_row (x_rws M_law) 978 = some (978, .aload_n 0, 1, 0, 0, 0) := by decide +kernel
theorem lr_979 : x_row (x_rws M_law) 979 = some (979, .iload_n 3, 1, 0, 0, 0) := by decide +kernel
theorem lr_980 : x_row (x_rws M_law) 980 = some (980, .iconst 1, 1, 0, 0, 0) := by decide +kernel
theorem lr_981 : x_row (x_rws M_law) 981 = some (981, .iadd, 1, 0, 0, 0) := by decide +kernel
theorem lr_982 : x_row (x_rws M_law) 982 = some (982, .iaload, 1, 0, 0, 0) := by decide +kernel
theorem lr_983 : x_row (x_rws M_law) 983 = some (983, .invokevirtual 109, 3, 136, 1, 0) := by decide +kernel
theorem lr_986 : x_row (x_rws M_law) 986 = some (986, .pop, 1, 0, 0, 0) := by decide +kernel
theorem lr_987 : x_row (x_rws M_law) 987 = some (987, .aload_n 2, 1, 0, 0, 0) := by decide +kernel
theorem lr_988 : x_row (x_rws M_law) 988 = some (988, .aload_n 0, 1, 0, 0, 0) := by decide +kernel
theorem lr_989 : x_row (x_rws M_law) 989 = some (989, .iload_n 3, 1, 0, 0, 0) := by decide +kernel
theorem lr_990 : x_row (x_rws M_law) 990 = some (990, .iconst 1, 1, 0, 0, 0) := by decide +kernel
theorem lr_991 : x_row (x_rws M_law) 991 = some (991, .iadd, 1, 0, 0, 0) := by decide +kernel
theorem lr_992 : x_row (x_rws M_law) 992 = some (992, .iaload, 1, 0, 0, 0) := by decide +kernel
theorem lr_993 : x_row (x_rws M_law) 993 = some (993, .invokevirtual 112, 3, 275, 1, 0) := by decide +kernel
theorem lr_996 : x_row (x_rws M_law) 996 = some (996, .pop, 1, 0, 0, 0) := by decide +kernel
theorem lr_997 : x_row (x_rws M_law) 997 = some (997, .goto 1371, 3, 0, 0, 0) := by decide +kernel
theorem lr_1000 : x_row (x_rws M_law) 1000 = some (1000, .aload_n 1, 1, 0, 0, 0) := by decide +kernel
theorem lr_1001 : x_row (x_rws M_law) 1001 = some (1001, .aload_n 0, 1, 0, 0, 0) := by decide +kernel
theorem lr_1002 : x_row (x_rws M_law) 1002 = some (1002, .iload_n 3, 1, 0, 0, 0) := by decide +kernel
theorem lr_1003 : x_row (x_rws M_law) 1003 = some (1003, .iconst 1, 1, 0, 0, 0) := by decide +kernel
theorem lr_1004 : x_row (x_rws M_law) 1004 = some (1004, .iadd, 1, 0, 0, 0) := by decide +kernel
theorem lr_1005 : x_row (x_rws M_law) 1005 = some (1005, .iaload, 1, 0, 0, 0) := by decide +kernel
theorem lr_1006 : x_row (x_rws M_law) 1006 = some (1006, .aload_n 0, 1, 0, 0, 0) := by decide +kernel
theorem lr_1007 : x_row (x_rws M_law) 1007 = some (1007, .iload_n 3, 1, 0, 0, 0) := by decide +kernel
theorem lr_1008 : x_row (x_rws M_law) 1008 = some (1008, .iconst 2, 1, 0, 0, 0) := by decide +kernel
theorem lr_1009 : x_row (x_rws M_law) 1009 = some (1009, .iadd, 1, 0, 0, 0) := by decide +kernel
theorem lr_1010 : x_row (x_rws M_law) 1010 = some (1010, .iaload, 1, 0, 0, 0) := by decide +kernel
theorem lr_1011 : x_row (x_rws M_law) 1011 = some (1011, .invokevirtual 113, 3, 137, 2, 0) := by decide +kernel
theorem lr_1014 : x_row (x_rws M_law) 1014 = some (1014, .pop, 1, 0, 0, 0) := by decide +kernel
theorem lr_1015 : x_row (x_rws M_law) 1015 = some (1015, .aload_n 2, 1, 0, 0, 0) := by decide +kernel
theorem lr_1016 : x_row (x_rws M_law) 1016 = some (1016, .aload_n 0, 1, 0, 0, 0) := by decide +kernel
theorem lr_1017 : x_row (x_rws M_law) 1017 = some (1017, .iload_n 3, 1, 0, 0, 0) := by decide +kernel
theorem lr_1018 : x_row (x_rws M_law) 1018 = some (1018, .iconst 1, 1, 0, 0, 0) := by decide +kernel
theorem lr_1019 : x_row (x_rws M_law) 1019 = some (1019, .iadd, 1, 0, 0, 0) := by decide +kernel
theorem lr_1020 : x_row (x_rws M_law) 1020 = some (1020, .iaload, 1, 0, 0, 0) := by decide +kernel
theorem lr_1021 : x_row (x_rws M_law) 1021 = some (1021, .aload_n 0, 1, 0, 0, 0) := by decide +kernel
theorem lr_1022 : x_row (x_rws M_law) 1022 = some (1022, .iload_n 3, 1, 0, 0, 0) := by decide +kernel
theorem lr_1023 : x_row (x_rws M_law) 1023 = some (1023, .iconst 2, 1, 0, 0, 0) := by decide +kernel
theorem lr_1024 : x_row (x_rws M_law) 1024 = some (1024, .iadd, 1, 0, 0, 0) := by decide +kernel
theorem lr_1025 : x_row (x_rws M_law) 1025 = some (1025, .iaload, 1, 0, 0, 0) := by decide +kernel
theorem lr_1026 : x_row (x_rws M_law) 1026 = some (1026, .invokevirtual 116, 3, 277, 2, 0) := by decide +kernel
theorem lr_1029 : x_row (x_rws M_law) 1029 = some (1029, .pop, 1, 0, 0, 0) := by decide +kernel
theorem lr_1030 : x_row (x_rws M_law) 1030 = some (1030, .goto 1338, 3, 0, 0, 0) := by decide +kernel
theorem lr_1033 : x_row (x_rws M_law) 1033 = some (1033, .aload_n 1, 1, 0, 0, 0) := by decide +kernel
theorem lr_1034 : x_row (x_rws M_law) 1034 = some (1034, .aload_n 0, 1, 0, 0, 0) := by decide +kernel
theorem lr_1035 : x_row (x_rws M_law) 1035 = some (1035, .iload_n 3, 1, 0, 0, 0) := by decide +kernel
theorem lr_1036 : x_row (x_rws M_law) 1036 = some (1036, .iconst 1, 1, 0, 0, 0) := by decide +kernel
theorem lr_1037 : x_row (x_rws M_law) 1037 = some (1037, .iadd, 1, 0, 0, 0) := by decide +kernel
theorem lr_1038 : x_row (x_rws M_law) 1038 = some (1038, .iaload, 1, 0, 0, 0) := by decide +kernel
theorem lr_1039 : x_row (x_rws M_law) 1039 = some (1039, .aload_n 0, 1, 0, 0, 0) := by decide +kernel
theorem lr_1040 : x_row (x_rws M_law) 1040 = some (1040, .iload_n 3, 1, 0, 0, 0) := by decide +kernel
theorem lr_1041 : x_row (x_rws M_law) 1041 = some (1041, .iconst 2, 1, 0, 0, 0) := by decide +kernel
theorem lr_1042 : x_row (x_rws M_law) 1042 = some (1042, .iadd, 1, 0, 0, 0) := by decide +kernel
theorem lr_1043 : x_row (x_rws M_law) 1043 = some (1043, .iaload, 1, 0, 0, 0) := by decide +kernel
theorem lr_1044 : x_row (x_rws M_law) 1044 = some (1044, .invokevirtual 117, 3, 140, 2, 0) := by decide +kernel
theorem lr_1047 : x_row (x_rws M_law) 1047 = some (1047, .pop, 1, 0, 0, 0) := by decide +kernel
theorem lr_1048 : x_row (x_rws M_law) 1048 = some (1048, .aload_n 2, 1, 0, 0, 0) := by decide +kernel
theorem lr_1049 : x_row (x_rws M_law) 1049 = some (1049, .aload_n 0, 1, 0, 0, 0) := by decide +kernel
theorem lr_1050 : x_row (x_rws M_law) 1050 = some (1050, .iload_n 3, 1, 0, 0, 0) := by decide +kernel
theorem lr_1051 : x_row (x_rws M_law) 1051 = some (1051, .iconst 1, 1, 0, 0, 0) := by decide +kernel
theorem lr_1052 : x_row (x_rws M_law) 1052 = some (1052, .iadd, 1, 0, 0, 0) := by decide +kernel
theorem lr_1053 : x_row (x_rws M_law) 1053 = some (1053, .iaload, 1, 0, 0, 0) := by decide +kernel
theorem lr_1054 : x_row (x_rws M_law) 1054 = some (1054, .aload_n 0, 1, 0, 0, 0) := by decide +kernel
theorem lr_1055 : x_row (x_rws M_law) 1055 = some (1055, .iload_n 3, 1, 0, 0, 0) := by decide +kernel
theorem lr_1056 : x_row (x_rws M_law) 1056 = some (1056, .iconst 2, 1, 0, 0, 0) := by decide +kernel
theorem lr_1057 : x_row (x_rws M_law) 1057 = some (1057, .iadd, 1, 0, 0, 0) := by decide +kernel
theorem lr_1058 : x_row (x_rws M_law) 1058 = some (1058, .iaload, 1, 0, 0, 0) := by decide +kernel
theorem lr_1059 : x_row (x_rws M_law) 1059 = some (1059, .invokevirtual 120, 3, 281, 2, 0) := by decide +kernel
theorem lr_1062 : x_row (x_rws M_law) 1062 = some (1062, .pop, 1, 0, 0, 0) := by decide +kernel
theorem lr_1063 : x_row (x_rws M_law) 1063 = some (1063, .goto 1305, 3, 0, 0, 0) := by decide +kernel
theorem lr_1066 : x_row (x_rws M_law) 1066 = some (1066, .aload_n 1, 1, 0, 0, 0) := by decide +kernel
theorem lr_1067 : x_row (x_rws M_law) 1067 = some (1067, .aload_n 0, 1, 0, 0, 0) := by decide +kernel
theorem lr_1068 : x_row (x_rws M_law) 1068 = some (1068, .iload_n 3, 1, 0, 0, 0) := by decide +kernel
theorem lr_1069 : x_row (x_rws M_law) 1069 = some (1069, .iconst 1, 1, 0, 0, 0) := by decide +kernel
theorem lr_1070 : x_row (x_rws M_law) 1070 = some (1070, .iadd, 1, 0, 0, 0) := by decide +kernel
theorem lr_1071 : x_row (x_rws M_law) 1071 = some (1071, .iaload, 1, 0, 0, 0) := by decide +kernel
theorem lr_1072 : x_row (x_rws M_law) 1072 = some (1072, .invokevirtual 121, 3, 141, 1, 0) := by decide +kernel
theorem lr_1075 : x_row (x_rws M_law) 1075 = some (1075, .pop, 1, 0, 0, 0) := by decide +kernel
theorem lr_1076 : x_row (x_rws M_law) 1076 = some (1076, .aload_n 2, 1, 0, 0, 0) := by decide +kernel
theorem lr_1077 : x_row (x_rws M_law) 1077 = some (1077, .aload_n 0, 1, 0, 0, 0) := by decide +kernel
theorem lr_1078 : x_row (x_rws M_law) 1078 = some (1078, .iload_n 3, 1, 0, 0, 0) := by decide +kernel
theorem lr_1079 : x_row (x_rws M_law) 1079 = some (1079, .iconst 1, 1, 0, 0, 0) := by decide +kernel
theorem lr_1080 : x_row (x_rws M_law) 1080 = some (1080, .iadd, 1, 0, 0, 0) := by decide +kernel
theorem lr_1081 : x_row (x_rws M_law) 1081 = some (1081, .iaload, 1, 0, 0, 0) := by decide +kernel
theorem lr_1082 : x_row (x_rws M_law) 1082 = some (1082, .invokevirtual 124, 3, 282, 1, 0) := by decide +kernel
theorem lr_1085 : x_row (x_rws M_law) 1085 = some (1085, .pop, 1, 0, 0, 0) := by decide +kernel
theorem lr_1086 : x_row (x_rws M_law) 1086 = some (1086, .goto 1282, 3, 0, 0, 0) := by decide +kernel
theorem lr_1089 : x_row (x_rws M_law) 1089 = some (1089, .aload_n 1, 1, 0, 0, 0) := by decide +kernel
theorem lr_1090 : x_row (x_rws M_law) 1090 = some (1090, .aload_n 0, 1, 0, 0, 0) := by decide +kernel
theorem lr_1091 : x_row (x_rws M_law) 1091 = some (1091, .iload_n 3, 1, 0, 0, 0) := by decide +kernel
theorem lr_1092 : x_row (x_rws M_law) 1092 = some (1092, .iconst 1, 1, 0, 0, 0) := by decide +kernel
theorem lr_1093 : x_row (x_rws M_law) 1093 = some (1093, .iadd, 1, 0, 0, 0) := by decide +kernel
theorem lr_1094 : x_row (x_rws M_law) 1094 = some (1094, .iaload, 1, 0, 0, 0) := by decide +kernel
theorem lr_1095 : x_row (x_rws M_law) 1095 = some (1095, .aload_n 0, 1, 0, 0, 0) := by decide +kernel
theorem lr_1096 : x_row (x_rws M_law) 1096 = some (1096, .iload_n 3, 1, 0, 0, 0) := by decide +kernel
theorem lr_1097 : x_row (x_rws M_law) 1097 = some (1097, .iconst 2, 1, 0, 0, 0) := by decide +kernel
theorem lr_1098 : x_row (x_rws M_law) 1098 = some (1098, .iadd, 1, 0, 0, 0) := by decide +kernel
theorem lr_1099 : x_row (x_rws M_law) 1099 = some (1099, .iaload, 1, 0, 0, 0) := by decide +kernel
theorem lr_1100 : x_row (x_rws M_law) 1100 = some (1100, .invokevirtual 125, 3, 142, 2, 0) := by decide +kernel
theorem lr_1103 : x_row (x_rws M_law) 1103 = some (1103, .pop, 1, 0, 0, 0) := by decide +kernel
theorem lr_1104 : x_row (x_rws M_law) 1104 = some (1104, .aload_n 2, 1, 0, 0, 0) := by decide +kernel
theorem lr_1105 : x_row (x_rws M_law) 1105 = some (1105, .aload_n 0, 1, 0, 0, 0) := by decide +kernel
theorem lr_1106 : x_row (x_rws M_law) 1106 = some (1106, .iload_n 3, 1, 0, 0, 0) := by decide +kernel
theorem lr_1107 : x_row (x_rws M_law) 1107 = some (1107, .iconst 1, 1, 0, 0, 0) := by decide +kernel
theorem lr_1108 : x_row (x_rws M_law) 1108 = some (1108, .iadd, 1, 0, 0, 0) := by decide +kernel
theorem lr_1109 : x_row (x_rws M_law) 1109 = some (1109, .iaload, 1, 0, 0, 0) := by decide +kernel
theorem lr_1110 : x_row (x_rws M_law) 1110 = some (1110, .aload_n 0, 1, 0, 0, 0) := by decide +kernel
theorem lr_1111 : x_row (x_rws M_law) 1111 = some (1111, .iload_n 3, 1, 0, 0, 0) := by decide +kernel
theorem lr_1112 : x_row (x_rws M_law) 1112 = some (1112, .iconst 2, 1, 0, 0, 0) := by decide +kernel
theorem lr_1113 : x_row (x_rws M_law) 1113 = some (1113, .iadd, 1, 0, 0, 0) := by decide +kernel
theorem lr_1114 : x_row (x_rws M_law) 1114 = some (1114, .iaload, 1, 0, 0, 0) := by decide +kernel
theorem lr_1115 : x_row (x_rws M_law) 1115 = some (1115, .invokevirtual 128, 3, 284, 2, 0) := by decide +kernel
theorem lr_1118 : x_row (x_rws M_law) 1118 = some (1118, .pop, 1, 0, 0, 0) := by decide +kernel
theorem lr_1119 : x_row (x_rws M_law) 1119 = some (1119, .goto 1249, 3, 0, 0, 0) := by decide +kernel
theorem lr_1122 : x_row (x_rws M_law) 1122 = some (1122, .aload_n 1, 1, 0, 0, 0) := by decide +kernel
theorem lr_1123 : x_row (x_rws M_law) 1123 = some (1123, .aload_n 0, 1, 0, 0, 0) := by decide +kernel
theorem lr_1124 : x_row (x_rws M_law) 1124 = some (1124, .iload_n 3, 1, 0, 0, 0) := by decide +kernel
theorem lr_1125 : x_row (x_rws M_law) 1125 = some (1125, .iconst 1, 1, 0, 0, 0) := by decide +kernel
theorem lr_1126 : x_row (x_rws M_law) 1126 = some (1126, .iadd, 1, 0, 0, 0) := by decide +kernel
theorem lr_1127 : x_row (x_rws M_law) 1127 = some (1127, .iaload, 1, 0, 0, 0) := by decide +kernel
theorem lr_1128 : x_row (x_rws M_law) 1128 = some (1128, .invokevirtual 129, 3, 143, 1, 0) := by decide +kernel
theorem lr_1131 : x_row (x_rws M_law) 1131 = some (1131, .pop, 1, 0, 0, 0) := by decide +kernel
theorem lr_1132 : x_row (x_rws M_law) 1132 = some (1132, .aload_n 2, 1, 0, 0, 0) := by decide +kernel
theorem lr_1133 : x_row (x_rws M_law) 1133 = some (1133, .aload_n 0, 1, 0, 0, 0) := by decide +kernel
theorem lr_1134 : x_row (x_rws M_law) 1134 = some (1134, .iload_n 3, 1, 0, 0, 0) := by decide +kernel
theorem lr_1135 : x_row (x_rws M_law) 1135 = some (1135, .iconst 1, 1, 0, 0, 0) := by decide +kernel
theorem lr_1136 : x_row (x_rws M_law) 1136 = some (1136, .iadd, 1, 0, 0, 0) := by decide +kernel
theorem lr_1137 : x_row (x_rws M_law) 1137 = some (1137, .iaload, 1, 0, 0, 0) := by decide +kernel
theorem lr_1138 : x_row (x_rws M_law) 1138 = some (1138, .invokevirtual 132, 3, 286, 1, 0) := by decide +kernel
theorem lr_1141 : x_row (x_rws M_law) 1141 = some (1141, .pop, 1, 0, 0, 0) := by decide +kernel
theorem lr_1142 : x_row (x_rws M_law) 1142 = some (1142, .goto 1226, 3, 0, 0, 0) := by decide +kernel
theorem lr_1145 : x_row (x_rws M_law) 1145 = some (1145, .aload_n 1, 1, 0, 0, 0) := by decide +kernel
theorem lr_1146 : x_row (x_rws M_law) 1146 = some (1146, .aload_n 0, 1, 0, 0, 0) := by decide +kernel
theorem lr_1147 : x_row (x_rws M_law) 1147 = some (1147, .iload_n 3, 1, 0, 0, 0) := by decide +kernel
theorem lr_1148 : x_row (x_rws M_law) 1148 = some (1148, .iconst 1, 1, 0, 0, 0) := by decide +kernel
theorem lr_1149 : x_row (x_rws M_law) 1149 = some (1149, .iadd, 1, 0, 0, 0) := by decide +kernel
theorem lr_1150 : x_row (x_rws M_law) 1150 = some (1150, .iaload, 1, 0, 0, 0) := by decide +kernel
theorem lr_1151 : x_row (x_rws M_law) 1151 = some (1151, .invokevirtual 133, 3, 138, 1, 0) := by decide +kernel
theorem lr_1154 : x_row (x_rws M_law) 1154 = some (1154, .pop, 1, 0, 0, 0) := by decide +kernel
theorem lr_1155 : x_row (x_rws M_law) 1155 = some (1155, .aload_n 2, 1, 0, 0, 0) := by decide +kernel
theorem lr_1156 : x_row (x_rws M_law) 1156 = some (1156, .aload_n 0, 1, 0, 0, 0) := by decide +kernel
theorem lr_1157 : x_row (x_rws M_law) 1157 = some (1157, .iload_n 3, 1, 0, 0, 0) := by decide +kernel
theorem lr_1158 : x_row (x_rws M_law) 1158 = some (1158, .iconst 1, 1, 0, 0, 0) := by decide +kernel
theorem lr_1159 : x_row (x_rws M_law) 1159 = some (1159, .iadd, 1, 0, 0, 0) := by decide +kernel
theorem lr_1160 : x_row (x_rws M_law) 1160 = some (1160, .iaload, 1, 0, 0, 0) := by decide +kernel
theorem lr_1161 : x_row (x_rws M_law) 1161 = some (1161, .invokevirtual 136, 3, 288, 1, 0) := by decide +kernel
theorem lr_1164 : x_row (x_rws M_law) 1164 = some (1164, .pop, 1, 0, 0, 0) := by decide +kernel
theorem lr_1165 : x_row (x_rws M_law) 1165 = some (1165, .goto 1203, 3, 0, 0, 0) := by decide +kernel
theorem lr_1168 : x_row (x_rws M_law) 1168 = some (1168, .aload_n 1, 1, 0, 0, 0) := by decide +kernel
theorem lr_1169 : x_row (x_rws M_law) 1169 = some (1169, .aload_n 0, 1, 0, 0, 0) := by decide +kernel
theorem lr_1170 : x_row (x_rws M_law) 1170 = some (1170, .iload_n 3, 1, 0, 0, 0) := by decide +kernel
theorem lr_1171 : x_row (x_rws M_law) 1171 = some (1171, .iconst 1, 1, 0, 0, 0) := by decide +kernel
theorem lr_1172 : x_row (x_rws M_law) 1172 = some (1172, .iadd, 1, 0, 0, 0) := by decide +kernel
theorem lr_1173 : x_row (x_rws M_law) 1173 = some (1173, .iaload, 1, 0, 0, 0) := by decide +kernel
theorem lr_1174 : x_row (x_rws M_law) 1174 = some (1174, .aload_n 0, 1, 0, 0, 0) := by decide +kernel
theorem lr_1175 : x_row (x_rws M_law) 1175 = some (1175, .iload_n 3, 1, 0, 0, 0) := by decide +kernel
theorem lr_1176 : x_row (x_rws M_law) 1176 = some (1176, .iconst 2, 1, 0, 0, 0) := by decide +kernel
theorem lr_1177 : x_row (x_rws M_law) 1177 = some (1177, .iadd, 1, 0, 0, 0) := by decide +kernel
theorem lr_1178 : x_row (x_rws M_law) 1178 = some (1178, .iaload, 1, 0, 0, 0) := by decide +kernel
theorem lr_1179 : x_row (x_rws M_law) 1179 = some (1179, .invokevirtual 137, 3, 144, 2, 0) := by decide +kernel
theorem lr_1182 : x_row (x_rws M_law) 1182 = some (1182, .pop2, 1, 0, 0, 0) := by decide +kernel
theorem lr_1183 : x_row (x_rws M_law) 1183 = some (1183, .aload_n 2, 1, 0, 0, 0) := by decide +kernel
theorem lr_1184 : x_row (x_rws M_law) 1184 = some (1184, .aload_n 0, 1, 0, 0, 0) := by decide +kernel
theorem lr_1185 : x_row (x_rws M_law) 1185 = some (1185, .iload_n 3, 1, 0, 0, 0) := by decide +kernel
theorem lr_1186 : x_row (x_rws M_law) 1186 = some (1186, .iconst 1, 1, 0, 0, 0) := by decide +kernel
theorem lr_1187 : x_row (x_rws M_law) 1187 = some (1187, .iadd, 1, 0, 0, 0) := by decide +kernel
theorem lr_1188 : x_row (x_rws M_law) 1188 = some (1188, .iaload, 1, 0, 0, 0) := by decide +kernel
theorem lr_1189 : x_row (x_rws M_law) 1189 = some (1189, .aload_n 0, 1, 0, 0, 0) := by decide +kernel
theorem lr_1190 : x_row (x_rws M_law) 1190 = some (1190, .iload_n 3, 1, 0, 0, 0) := by decide +kernel
theorem lr_1191 : x_row (x_rws M_law) 1191 = some (1191, .iconst 2, 1, 0, 0, 0) := by decide +kernel
theorem lr_1192 : x_row (x_rws M_law) 1192 = some (1192, .iadd, 1, 0, 0, 0) := by decide +kernel
theorem lr_1193 : x_row (x_rws M_law) 1193 = some (1193, .iaload, 1, 0, 0, 0) := by decide +kernel
theorem lr_1194 : x_row (x_rws M_law) 1194 = some (1194, .invokevirtual 141, 3, 293, 2, 0) := by decide +kernel
theorem lr_1197 : x_row (x_rws M_law) 1197 = some (1197, .pop2, 1, 0, 0, 0) := by decide +kernel
theorem lr_1198 : x_row (x_rws M_law) 1198 = some (1198, .goto 1170, 3, 0, 0, 0) := by decide +kernel
theorem lr_1201 : x_row (x_rws M_law) 1201 = some (1201, .aload_n 1, 1, 0, 0, 0) := by decide +kernel
theorem lr_1202 : x_row (x_rws M_law) 1202 = some (1202, .aload_n 0, 1, 0, 0, 0) := by decide +kernel
theorem lr_1203 : x_row (x_rws M_law) 1203 = some (1203, .iload_n 3, 1, 0, 0, 0) := by decide +kernel
theorem lr_1204 : x_row (x_rws M_law) 1204 = some (1204, .iconst 1, 1, 0, 0, 0) := by decide +kernel
theorem lr_1205 : x_row (x_rws M_law) 1205 = some (1205, .iadd, 1, 0, 0, 0) := by decide +kernel
theorem lr_1206 : x_row (x_rws M_law) 1206 = some (1206, .iaload, 1, 0, 0, 0) := by decide +kernel
theorem lr_1207 : x_row (x_rws M_law) 1207 = some (1207, .aload_n 0, 1, 0, 0, 0) := by decide +kernel
theorem lr_1208 : x_row (x_rws M_law) 1208 = some (1208, .iload_n 3, 1, 0, 0, 0) := by decide +kernel
theorem lr_1209 : x_row (x_rws M_law) 1209 = some (1209, .iconst 2, 1, 0, 0, 0) := by decide +kernel
theorem lr_1210 : x_row (x_rws M_law) 1210 = some (1210, .iadd, 1, 0, 0, 0) := by decide +kernel
theorem lr_1211 : x_row (x_rws M_law) 1211 = some (1211, .iaload, 1, 0, 0, 0) := by decide +kernel
theorem lr_1212 : x_row (x_rws M_law) 1212 = some (1212, .aload_n 0, 1, 0, 0, 0) := by decide +kernel
theorem lr_1213 : x_row (x_rws M_law) 1213 = some (1213, .iload_n 3, 1, 0, 0, 0) := by decide +kernel
theorem lr_1214 : x_row (x_rws M_law) 1214 = some (1214, .iconst 3, 1, 0, 0, 0) := by decide +kernel
theorem lr_1215 : x_row (x_rws M_law) 1215 = some (1215, .iadd, 1, 0, 0, 0) := by decide +kernel
theorem lr_1216 : x_row (x_rws M_law) 1216 = some (1216, .iaload, 1, 0, 0, 0) := by decide +kernel
theorem lr_1217 : x_row (x_rws M_law) 1217 = some (1217, .invokevirtual 142, 3, 145, 3, 0) := by decide +kernel
theorem lr_1220 : x_row (x_rws M_law) 1220 = some (1220, .pop2, 1, 0, 0, 0) := by decide +kernel
theorem lr_1221 : x_row (x_rws M_law) 1221 = some (1221, .aload_n 2, 1, 0, 0, 0) := by decide +kernel
theorem lr_1222 : x_row (x_rws M_law) 1222 = some (1222, .aload_n 0, 1, 0, 0, 0) := by decide +kernel
theorem lr_1223 : x_row (x_rws M_law) 1223 = some (1223, .iload_n 3, 1, 0, 0, 0) := by decide +kernel
theorem lr_1224 : x_row (x_rws M_law) 1224 = some (1224, .iconst 1, 1, 0, 0, 0) := by decide +kernel
theorem lr_1225 : x_row (x_rws M_law) 1225 = some (1225, .iadd, 1, 0, 0, 0) := by decide +kernel
theorem lr_1226 : x_row (x_rws M_law) 1226 = some (1226, .iaload, 1, 0, 0, 0) := by decide +kernel
theorem lr_1227 : x_row (x_rws M_law) 1227 = some (1227, .aload_n 0, 1, 0, 0, 0) := by decide +kernel
theorem lr_1228 : x_row (x_rws M_law) 1228 = some (1228, .iload_n 3, 1, 0, 0, 0) := by decide +kernel
theorem lr_1229 : x_row (x_rws M_law) 1229 = some (1229, .iconst 2, 1, 0, 0, 0) := by decide +kernel
theorem lr_1230 : x_row (x_rws M_law) 1230 = some (1230, .iadd, 1, 0, 0, 0) := by decide +kernel
theorem lr_1231 : x_row (x_rws M_law) 1231 = some (1231, .iaload, 1, 0, 0, 0) := by decide +kernel
theorem lr_1232 : x_row (x_rws M_law) 1232 = some (1232, .aload_n 0, 1, 0, 0, 0) := by decide +kernel
theorem lr_1233 : x_row (x_rws M_law) 1233 = some (1233, .iload_n 3, 1, 0, 0, 0) := by decide +kernel
theorem lr_1234 : x_row (x_rws M_law) 1234 = some (1234, .iconst 3, 1, 0, 0, 0) := by decide +kernel
theorem lr_1235 : x_row (x_rws M_law) 1235 = some (1235, .iadd, 1, 0, 0, 0) := by decide +kernel
theorem lr_1236 : x_row (x_rws M_law) 1236 = some (1236, .iaload, 1, 0, 0, 0) := by decide +kernel
theorem lr_1237 : x_row (x_rws M_law) 1237 = some (1237, .invokevirtual 146, 3, 294, 3, 0) := by decide +kernel
theorem lr_1240 : x_row (x_rws M_law) 1240 = some (1240, .pop2, 1, 0, 0, 0) := by decide +kernel
theorem lr_1241 : x_row (x_rws M_law) 1241 = some (1241, .goto 1127, 3, 0, 0, 0) := by decide +kernel
theorem lr_1244 : x_row (x_rws M_law) 1244 = some (1244, .aload_n 1, 1, 0, 0, 0) := by decide +kernel
theorem lr_1245 : x_row (x_rws M_law) 1245 = some (1245, .aload_n 0, 1, 0, 0, 0) := by decide +kernel
theorem lr_1246 : x_row (x_rws M_law) 1246 = some (1246, .iload_n 3, 1, 0, 0, 0) := by decide +kernel
theorem lr_1247 : x_row (x_rws M_law) 1247 = some (1247, .iconst 1, 1, 0, 0, 0) := by decide +kernel
theorem lr_1248 : x_row (x_rws M_law) 1248 = some (1248, .iadd, 1, 0, 0, 0) := by decide +kernel
theorem lr_1249 : x_row (x_rws M_law) 1249 = some (1249, .iaload, 1, 0, 0, 0) := by decide +kernel
theorem lr_1250 : x_row (x_rws M_law) 1250 = some (1250, .invokevirtual 147, 3, 146, 1, 0) := by decide +kernel
theorem lr_1253 : x_row (x_rws M_law) 1253 = some (1253, .pop, 1, 0, 0, 0) := by decide +kernel
theorem lr_1254 : x_row (x_rws M_law) 1254 = some (1254, .aload_n 2, 1, 0, 0, 0) := by decide +kernel
theorem lr_1255 : x_row (x_rws M_law) 1255 = some (1255, .aload_n 0, 1, 0, 0, 0) := by decide +kernel
theorem lr_1256 : x_row (x_rws M_law) 1256 = some (1256, .iload_n 3, 1, 0, 0, 0) := by decide +kernel
theorem lr_1257 : x_row (x_rws M_law) 1257 = some (1257, .iconst 1, 1, 0, 0, 0) := by decide +kernel
theorem lr_1258 : x_row (x_rws M_law) 1258 = some (1258, .iadd, 1, 0, 0, 0) := by decide +kernel
theorem lr_1259 : x_row (x_rws M_law) 1259 = some (1259, .iaload, 1, 0, 0, 0) := by decide +kernel
theorem lr_1260 : x_row (x_rws M_law) 1260 = some (1260, .invokevirtual 150, 3, 295, 1, 0) := by decide +kernel
theorem lr_1263 : x_row (x_rws M_law) 1263 = some (1263, .pop, 1, 0, 0, 0) := by decide +kernel
theorem lr_1264 : x_row (x_rws M_law) 1264 = some (1264, .goto 1104, 3, 0, 0, 0) := by decide +kernel
theorem lr_1267 : x_row (x_rws M_law) 1267 = some (1267, .aload_n 1, 1, 0, 0, 0) := by decide +kernel
theorem lr_1268 : x_row (x_rws M_law) 1268 = some (1268, .aload_n 0, 1, 0, 0, 0) := by decide +kernel
theorem lr_1269 : x_row (x_rws M_law) 1269 = some (1269, .iload_n 3, 1, 0, 0, 0) := by decide +kernel
theorem lr_1270 : x_row (x_rws M_law) 1270 = some (1270, .iconst 1, 1, 0, 0, 0) := by decide +kernel
theorem lr_1271 : x_row (x_rws M_law) 1271 = some (1271, .iadd, 1, 0, 0, 0) := by decide +kernel
theorem lr_1272 : x_row (x_rws M_law) 1272 = some (1272, .iaload, 1, 0, 0, 0) := by decide +kernel
theorem lr_1273 : x_row (x_rws M_law) 1273 = some (1273, .invokevirtual 151, 3, 147, 1, 0) := by decide +kernel
theorem lr_1276 : x_row (x_rws M_law) 1276 = some (1276, .pop, 1, 0, 0, 0) := by decide +kernel
theorem lr_1277 : x_row (x_rws M_law) 1277 = some (1277, .aload_n 2, 1, 0, 0, 0) := by decide +kernel
theorem lr_1278 : x_row (x_rws M_law) 1278 = some (1278, .aload_n 0, 1, 0, 0, 0) := by decide +kernel
theorem lr_1279 : x_row (x_rws M_law) 1279 = some (1279, .iload_n 3, 1, 0, 0, 0) := by decide +kernel
theorem lr_1280 : x_row (x_rws M_law) 1280 = some (1280, .iconst 1, 1, 0, 0, 0) := by decide +kernel
theorem lr_1281 : x_row (x_rws M_law) 1281 = some (1281, .iadd, 1, 0, 0, 0) := by decide +kernel
theorem lr_1282 : x_row (x_rws M_law) 1282 = some (1282, .iaload, 1, 0, 0, 0) := by decide +kernel
theorem lr_1283 : x_row (x_rws M_law) 1283 = some (1283, .invokevirtual 154, 3, 297, 1, 0) := by decide +kernel
theorem lr_1286 : x_row (x_rws M_law) 1286 = some (1286, .pop, 1, 0, 0, 0) := by decide +kernel
theorem lr_1287 : x_row (x_rws M_law) 1287 = some (1287, .goto 1081, 3, 0, 0, 0) := by decide +kernel
theorem lr_1290 : x_row (x_rws M_law) 1290 = some (1290, .aload_n 1, 1, 0, 0, 0) := by decide +kernel
theorem lr_1291 : x_row (x_rws M_law) 1291 = some (1291, .aload_n 0, 1, 0, 0, 0) := by decide +kernel
theorem lr_1292 : x_row (x_rws M_law) 1292 = some (1292, .iload_n 3, 1, 0, 0, 0) := by decide +kernel
theorem lr_1293 : x_row (x_rws M_law) 1293 = some (1293, .iconst 1, 1, 0, 0, 0) := by decide +kernel
theorem lr_1294 : x_row (x_rws M_law) 1294 = some (1294, .iadd, 1, 0, 0, 0) := by decide +kernel
theorem lr_1295 : x_row (x_rws M_law) 1295 = some (1295, .iaload, 1, 0, 0, 0) := by decide +kernel
theorem lr_1296 : x_row (x_rws M_law) 1296 = some (1296, .invokevirtual 155, 3, 148, 1, 0) := by decide +kernel
theorem lr_1299 : x_row (x_rws M_law) 1299 = some (1299, .pop, 1, 0, 0, 0) := by decide +kernel
theorem lr_1300 : x_row (x_rws M_law) 1300 = some (1300, .aload_n 2, 1, 0, 0, 0) := by decide +kernel
theorem lr_1301 : x_row (x_rws M_law) 1301 = some (1301, .aload_n 0, 1, 0, 0, 0) := by decide +kernel
theorem lr_1302 : x_row (x_rws M_law) 1302 = some (1302, .iload_n 3, 1, 0, 0, 0) := by decide +kernel
theorem lr_1303 : x_row (x_rws M_law) 1303 = some (1303, .iconst 1, 1, 0, 0, 0) := by decide +kernel
theorem lr_1304 : x_row (x_rws M_law) 1304 = some (1304, .iadd, 1, 0, 0, 0) := by decide +kernel
theorem lr_1305 : x_row (x_rws M_law) 1305 = some (1305, .iaload, 1, 0, 0, 0) := by decide +kernel
theorem lr_1306 : x_row (x_rws M_law) 1306 = some (1306, .invokevirtual 158, 3, 302, 1, 0) := by decide +kernel
theorem lr_1309 : x_row (x_rws M_law) 1309 = some (1309, .pop, 1, 0, 0, 0) := by decide +kernel
theorem lr_1310 : x_row (x_rws M_law) 1310 = some (1310, .goto 1058, 3, 0, 0, 0) := by decide +kernel
theorem lr_1313 : x_row (x_rws M_law) 1313 = some (1313, .aload_n 1, 1, 0, 0, 0) := by decide +kernel
theorem lr_1314 : x_row (x_rws M_law) 1314 = some (1314, .aload_n 0, 1, 0, 0, 0) := by decide +kernel
theorem lr_1315 : x_row (x_rws M_law) 1315 = some (1315, .iload_n 3, 1, 0, 0, 0) := by decide +kernel
theorem lr_1316 : x_row (x_rws M_law) 1316 = some (1316, .iconst 1, 1, 0, 0, 0) := by decide +kernel
theorem lr_1317 : x_row (x_rws M_law) 1317 = some (1317, .iadd, 1, 0, 0, 0) := by decide +kernel
theorem lr_1318 : x_row (x_rws M_law) 1318 = some (1318, .iaload, 1, 0, 0, 0) := by decide +kernel
theorem lr_1319 : x_row (x_rws M_law) 1319 = some (1319, .invokevirtual 159, 3, 149, 1, 0) := by decide +kernel
theorem lr_1322 : x_row (x_rws M_law) 1322 = some (1322, .pop, 1, 0, 0, 0) := by decide +kernel
theorem lr_1323 : x_row (x_rws M_law) 1323 = some (1323, .aload_n 2, 1, 0, 0, 0) := by decide +kernel
theorem lr_1324 : x_row (x_rws M_law) 1324 = some (1324, .aload_n 0, 1, 0, 0, 0) := by decide +kernel
theorem lr_1325 : x_row (x_rws M_law) 1325 = some (1325, .iload_n 3, 1, 0, 0, 0) := by decide +kernel
theorem lr_1326 : x_row (x_rws M_law) 1326 = some (1326, .iconst 1, 1, 0, 0, 0) := by decide +kernel
theorem lr_1327 : x_row (x_rws M_law) 1327 = some (1327, .iadd, 1, 0, 0, 0) := by decide +kernel
theorem lr_1328 : x_row (x_rws M_law) 1328 = some (1328, .iaload, 1, 0, 0, 0) := by decide +kernel
theorem lr_1329 : x_row (x_rws M_law) 1329 = some (1329, .invokevirtual 162, 3, 303, 1, 0) := by decide +kernel
theorem lr_1332 : x_row (x_rws M_law) 1332 = some (1332, .pop, 1, 0, 0, 0) := by decide +kernel
theorem lr_1333 : x_row (x_rws M_law) 1333 = some (1333, .goto 1035, 3, 0, 0, 0) := by decide +kernel
theorem lr_1336 : x_row (x_rws M_law) 1336 = some (1336, .aload_n 1, 1, 0, 0, 0) := by decide +kernel
theorem lr_1337 : x_row (x_rws M_law) 1337 = some (1337, .aload_n 0, 1, 0, 0, 0) := by decide +kernel
theorem lr_1338 : x_row (x_rws M_law) 1338 = some (1338, .iload_n 3, 1, 0, 0, 0) := by decide +kernel
theorem lr_1339 : x_row (x_rws M_law) 1339 = some (1339, .iconst 1, 1, 0, 0, 0) := by decide +kernel
theorem lr_1340 : x_row (x_rws M_law) 1340 = some (1340, .iadd, 1, 0, 0, 0) := by decide +kernel
theorem lr_1341 : x_row (x_rws M_law) 1341 = some (1341, .iaload, 1, 0, 0, 0) := by decide +kernel
theorem lr_1342 : x_row (x_rws M_law) 1342 = some (1342, .invokevirtual 163, 3, 150, 1, 0) := by decide +kernel
theorem lr_1345 : x_row (x_rws M_law) 1345 = some (1345, .pop, 1, 0, 0, 0) := by decide +kernel
theorem lr_1346 : x_row (x_rws M_law) 1346 = some (1346, .aload_n 2, 1, 0, 0, 0) := by decide +kernel
theorem lr_1347 : x_row (x_rws M_law) 1347 = some (1347, .aload_n 0, 1, 0, 0, 0) := by decide +kernel
theorem lr_1348 : x_row (x_rws M_law) 1348 = some (1348, .iload_n 3, 1, 0, 0, 0) := by decide +kernel
theorem lr_1349 : x_row (x_rws M_law) 1349 = some (1349, .iconst 1, 1, 0, 0, 0) := by decide +kernel
theorem lr_1350 : x_row (x_rws M_law) 1350 = some (1350, .iadd, 1, 0, 0, 0) := by decide +kernel
theorem lr_1351 : x_row (x_rws M_law) 1351 = some (1351, .iaload, 1, 0, 0, 0) := by decide +kernel
theorem lr_1352 : x_row (x_rws M_law) 1352 = some (1352, .invokevirtual 166, 3, 304, 1, 0) := by decide +kernel
theorem lr_1355 : x_row (x_rws M_law) 1355 = some (1355, .pop, 1, 0, 0, 0) := by decide +kernel
theorem lr_1356 : x_row (x_rws M_law) 1356 = some (1356, .goto 1012, 3, 0, 0, 0) := by decide +kernel
theorem lr_1359 : x_row (x_rws M_law) 1359 = some (1359, .aload_n 1, 1, 0, 0, 0) := by decide +kernel
theorem lr_1360 : x_row (x_rws M_law) 1360 = some (1360, .aload_n 0, 1, 0, 0, 0) := by decide +kernel
theorem lr_1361 : x_row (x_rws M_law) 1361 = some (1361, .iload_n 3, 1, 0, 0, 0) := by decide +kernel
theorem lr_1362 : x_row (x_rws M_law) 1362 = some (1362, .iconst 1, 1, 0, 0, 0) := by decide +kernel
theorem lr_1363 : x_row (x_rws M_law) 1363 = some (1363, .iadd, 1, 0, 0, 0) := by decide +kernel
theorem lr_1364 : x_row (x_rws M_law) 1364 = some (1364, .iaload, 1, 0, 0, 0) := by decide +kernel
theorem lr_1365 : x_row (x_rws M_law) 1365 = some (1365, .invokevirtual 167, 3, 151, 1, 0) := by decide +kernel
theorem lr_1368 : x_row (x_rws M_law) 1368 = some (1368, .pop, 1, 0, 0, 0) := by decide +kernel
theorem lr_1369 : x_row (x_rws M_law) 1369 = some (1369, .aload_n 2, 1, 0, 0, 0) := by decide +kernel
theorem lr_1370 : x_row (x_rws M_law) 1370 = some (1370, .aload_n 0, 1, 0, 0, 0) := by decide +kernel
theorem lr_1371 : x_row (x_rws M_law) 1371 = some (1371, .iload_n 3, 1, 0, 0, 0) := by decide +kernel
theorem lr_1372 : x_row (x_rws M_law) 1372 = some (1372, .iconst 1, 1, 0, 0, 0) := by decide +kernel
theorem lr_1373 : x_row (x_rws M_law) 1373 = some (1373, .iadd, 1, 0, 0, 0) := by decide +kernel
theorem lr_1374 : x_row (x_rws M_law) 1374 = some (1374, .iaload, 1, 0, 0, 0) := by decide +kernel
theorem lr_1375 : x_row (x_rws M_law) 1375 = some (1375, .invokevirtual 170, 3, 306, 1, 0) := by decide +kernel
theorem lr_1378 : x_row (x_rws M_law) 1378 = some (1378, .pop, 1, 0, 0, 0) := by decide +kernel
theorem lr_1379 : x_row (x_rws M_law) 1379 = some (1379, .goto 989, 3, 0, 0, 0) := by decide +kernel
theorem lr_1382 : x_row (x_rws M_law) 1382 = some (1382, .aload_n 1, 1, 0, 0, 0) := by decide +kernel
theorem lr_1383 : x_row (x_rws M_law) 1383 = some (1383, .aload_n 0, 1, 0, 0, 0) := by decide +kernel
theorem lr_1384 : x_row (x_rws M_law) 1384 = some (1384, .iload_n 3, 1, 0, 0, 0) := by decide +kernel
theorem lr_1385 : x_row (x_rws M_law) 1385 = some (1385, .iconst 1, 1, 0, 0, 0) := by decide +kernel
theorem lr_1386 : x_row (x_rws M_law) 1386 = some (1386, .iadd, 1, 0, 0, 0) := by decide +kernel
theorem lr_1387 : x_row (x_rws M_law) 1387 = some (1387, .iaload, 1, 0, 0, 0) := by decide +kernel
theorem lr_1388 : x_row (x_rws M_law) 1388 = some (1388, .aload_n 0, 1, 0, 0, 0) := by decide +kernel
theorem lr_1389 : x_row (x_rws M_law) 1389 = some (1389, .iload_n 3, 1, 0, 0, 0) := by decide +kernel
theorem lr_1390 : x_row (x_rws M_law) 1390 = some (1390, .iconst 2, 1, 0, 0, 0) := by decide +kernel
theorem lr_1391 : x_row (x_rws M_law) 1391 = some (1391, .iadd, 1, 0, 0, 0) := by decide +kernel
theorem lr_1392 : x_row (x_rws M_law) 1392 = some (1392, .iaload, 1, 0, 0, 0) := by decide +kernel
theorem lr_1393 : x_row (x_rws M_law) 1393 = some (1393, .invokevirtual 171, 3, 152, 2, 0) := by decide +kernel
theorem lr_1396 : x_row (x_rws M_law) 1396 = some (1396, .pop, 1, 0, 0, 0) := by decide +kernel
theorem lr_1397 : x_row (x_rws M_law) 1397 = some (1397, .aload_n 2, 1, 0, 0, 0) := by decide +kernel
theorem lr_1398 : x_row (x_rws M_law) 1398 = some (1398, .aload_n 0, 1, 0, 0, 0) := by decide +kernel
theorem lr_1399 : x_row (x_rws M_law) 1399 = some (1399, .iload_n 3, 1, 0, 0, 0) := by decide +kernel
theorem lr_1400 : x_row (x_rws M_law) 1400 = some (1400, .iconst 1, 1, 0, 0, 0) := by decide +kernel
theorem lr_1401 : x_row (x_rws M_law) 1401 = some (1401, .iadd, 1, 0, 0, 0) := by decide +kernel
theorem lr_1402 : x_row (x_rws M_law) 1402 = some (1402, .iaload, 1, 0, 0, 0) := by decide +kernel
theorem lr_1403 : x_row (x_rws M_law) 1403 = some (1403, .aload_n 0, 1, 0, 0, 0) := by decide +kernel
theorem lr_1404 : x_row (x_rws M_law) 1404 = some (1404, .iload_n 3, 1, 0, 0, 0) := by decide +kernel
theorem lr_1405 : x_row (x_rws M_law) 1405 = some (1405, .iconst 2, 1, 0, 0, 0) := by decide +kernel
theorem lr_1406 : x_row (x_rws M_law) 1406 = some (1406, .iadd, 1, 0, 0, 0) := by decide +kernel
theorem lr_1407 : x_row (x_rws M_law) 1407 = some (1407, .iaload, 1, 0, 0, 0) := by decide +kernel
theorem lr_1408 : x_row (x_rws M_law) 1408 = some (1408, .invokevirtual 174, 3, 307, 2, 0) := by decide +kernel
theorem lr_1411 : x_row (x_rws M_law) 1411 = some (1411, .pop, 1, 0, 0, 0) := by decide +kernel
theorem lr_1412 : x_row (x_rws M_law) 1412 = some (1412, .goto 956, 3, 0, 0, 0) := by decide +kernel
theorem lr_1415 : x_row (x_rws M_law) 1415 = some (1415, .aload_n 1, 1, 0, 0, 0) := by decide +kernel
theorem lr_1416 : x_row (x_rws M_law) 1416 = some (1416, .aload_n 0, 1, 0, 0, 0) := by decide +kernel
theorem lr_1417 : x_row (x_rws M_law) 1417 = some (1417, .iload_n 3, 1, 0, 0, 0) := by decide +kernel
theorem lr_1418 : x_row (x_rws M_law) 1418 = some (1418, .iconst 1, 1, 0, 0, 0) := by decide +kernel
theorem lr_1419 : x_row (x_rws M_law) 1419 = some (1419, .iadd, 1, 0, 0, 0) := by decide +kernel
theorem lr_1420 : x_row (x_rws M_law) 1420 = some (1420, .iaload, 1, 0, 0, 0) := by decide +kernel
theorem lr_1421 : x_row (x_rws M_law) 1421 = some (1421, .invokevirtual 175, 3, 153, 1, 0) := by decide +kernel
theorem lr_1424 : x_row (x_rws M_law) 1424 = some (1424, .pop, 1, 0, 0, 0) := by decide +kernel
theorem lr_1425 : x_row (x_rws M_law) 1425 = some (1425, .aload_n 2, 1, 0, 0, 0) := by decide +kernel
theorem lr_1426 : x_row (x_rws M_law) 1426 = some (1426, .aload_n 0, 1, 0, 0, 0) := by decide +kernel
theorem lr_1427 : x_row (x_rws M_law) 1427 = some (1427, .iload_n 3, 1, 0, 0, 0) := by decide +kernel
theorem lr_1428 : x_row (x_rws M_law) 1428 = some (1428, .iconst 1, 1, 0, 0, 0) := by decide +kernel
theorem lr_1429 : x_row (x_rws M_law) 1429 = some (1429, .iadd, 1, 0, 0, 0) := by decide +kernel
theorem lr_1430 : x_row (x_rws M_law) 1430 = some (1430, .iaload, 1, 0, 0, 0) := by decide +kernel
theorem lr_1431 : x_row (x_rws M_law) 1431 = some (1431, .invokevirtual 178, 3, 308, 1, 0) := by decide +kernel
theorem lr_1434 : x_row (x_rws M_law) 1434 = some (1434, .pop, 1, 0, 0, 0) := by decide +kernel
theorem lr_1435 : x_row (x_rws M_law) 1435 = some (1435, .goto 933, 3, 0, 0, 0) := by decide +kernel
theorem lr_1438 : x_row (x_rws M_law) 1438 = some (1438, .aload_n 1, 1, 0, 0, 0) := by decide +kernel
theorem lr_1439 : x_row (x_rws M_law) 1439 = some (1439, .aload_n 0, 1, 0, 0, 0) := by decide +kernel
theorem lr_1440 : x_row (x_rws M_law) 1440 = some (1440, .iload_n 3, 1, 0, 0, 0) := by decide +kernel
theorem lr_1441 : x_row (x_rws M_law) 1441 = some (1441, .iconst 1, 1, 0, 0, 0) := by decide +kernel
theorem lr_1442 : x_row (x_rws M_law) 1442 = some (1442, .iadd, 1, 0, 0, 0) := by decide +kernel
theorem lr_1443 : x_row (x_rws M_law) 1443 = some (1443, .iaload, 1, 0, 0, 0) := by decide +kernel
theorem lr_1444 : x_row (x_rws M_law) 1444 = some (1444, .invokevirtual 179, 3, 154, 1, 0) := by decide +kernel
theorem lr_1447 : x_row (x_rws M_law) 1447 = some (1447, .pop, 1, 0, 0, 0) := by decide +kernel
theorem lr_1448 : x_row (x_rws M_law) 1448 = some (1448, .aload_n 2, 1, 0, 0, 0) := by decide +kernel
theorem lr_1449 : x_row (x_rws M_law) 1449 = some (1449, .aload_n 0, 1, 0, 0, 0) := by decide +kernel
theorem lr_1450 : x_row (x_rws M_law) 1450 = some (1450, .iload_n 3, 1, 0, 0, 0) := by decide +kernel
theorem lr_1451 : x_row (x_rws M_law) 1451 = some (1451, .iconst 1, 1, 0, 0, 0) := by decide +kernel
theorem lr_1452 : x_row (x_rws M_law) 1452 = some (1452, .iadd, 1, 0, 0, 0) := by decide +kernel
theorem lr_1453 : x_row (x_rws M_law) 1453 = some (1453, .iaload, 1, 0, 0, 0) := by decide +kernel
theorem lr_1454 : x_row (x_rws M_law) 1454 = some (1454, .invokevirtual 182, 3, 311, 1, 0) := by decide +kernel
theorem lr_1457 : x_row (x_rws M_law) 1457 = some (1457, .pop, 1, 0, 0, 0) := by decide +kernel
theorem lr_1458 : x_row (x_rws M_law) 1458 = some (1458, .goto 910, 3, 0, 0, 0) := by decide +kernel
theorem lr_1461 : x_row (x_rws M_law) 1461 = some (1461, .aload_n 1, 1, 0, 0, 0) := by decide +kernel
theorem lr_1462 : x_row (x_rws M_law) 1462 = some (1462, .invokevirtual 183, 3, 155, 0, 0) := by decide +kernel
theorem lr_1465 : x_row (x_rws M_law) 1465 = some (1465, .pop, 1, 0, 0, 0) := by decide +kernel
theorem lr_1466 : x_row (x_rws M_law) 1466 = some (1466, .aload_n 2, 1, 0, 0, 0) := by decide +kernel
theorem lr_1467 : x_row (x_rws M_law) 1467 = some (1467, .invokevirtual 186, 3, 312, 0, 0) := by decide +kernel
theorem lr_1470 : x_row (x_rws M_law) 1470 = some (1470, .pop, 1, 0, 0, 0) := by decide +kernel
theorem lr_1471 : x_row (x_rws M_law) 1471 = some (1471, .goto 897, 3, 0, 0, 0) := by decide +kernel
theorem lr_1474 : x_row (x_rws M_law) 1474 = some (1474, .aload_n 1, 1, 0, 0, 0) := by decide +kernel
theorem lr_1475 : x_row (x_rws M_law) 1475 = some (1475, .aload_n 0, 1, 0, 0, 0) := by decide +kernel
theorem lr_1476 : x_row (x_rws M_law) 1476 = some (1476, .iload_n 3, 1, 0, 0, 0) := by decide +kernel
theorem lr_1477 : x_row (x_rws M_law) 1477 = some (1477, .iconst 1, 1, 0, 0, 0) := by decide +kernel
theorem lr_1478 : x_row (x_rws M_law) 1478 = some (1478, .iadd, 1, 0, 0, 0) := by decide +kernel
theorem lr_1479 : x_row (x_rws M_law) 1479 = some (1479, .iaload, 1, 0, 0, 0) := by decide +kernel
theorem lr_1480 : x_row (x_rws M_law) 1480 = some (1480, .invokevirtual 187, 3, 156, 1, 0) := by decide +kernel
theorem lr_1483 : x_row (x_rws M_law) 1483 = some (1483, .pop, 1, 0, 0, 0) := by decide +kernel
theorem lr_1484 : x_row (x_rws M_law) 1484 = some (1484, .aload_n 2, 1, 0, 0, 0) := by decide +kernel
theorem lr_1485 : x_row (x_rws M_law) 1485 = some (1485, .aload_n 0, 1, 0, 0, 0) := by decide +kernel
theorem lr_1486 : x_row (x_rws M_law) 1486 = some (1486, .iload_n 3, 1, 0, 0, 0) := by decide +kernel
theorem lr_1487 : x_row (x_rws M_law) 1487 = some (1487, .iconst 1, 1, 0, 0, 0) := by decide +kernel
theorem lr_1488 : x_row (x_rws M_law) 1488 = some (1488, .iadd, 1, 0, 0, 0) := by decide +kernel
theorem lr_1489 : x_row (x_rws M_law) 1489 = some (1489, .iaload, 1, 0, 0, 0) := by decide +kernel
theorem lr_1490 : x_row (x_rws M_law) 1490 = some (1490, .invokevirtual 190, 3, 314, 1, 0) := by decide +kernel
theorem lr_1493 : x_row (x_rws M_law) 1493 = some (1493, .pop, 1, 0, 0, 0) := by decide +kernel
theorem lr_1494 : x_row (x_rws M_law) 1494 = some (1494, .goto 874, 3, 0, 0, 0) := by decide +kernel
theorem lr_1497 : x_row (x_rws M_law) 1497 = some (1497, .aload_n 1, 1, 0, 0, 0) := by decide +kernel
theorem lr_1498 : x_row (x_rws M_law) 1498 = some (1498, .aload_n 0, 1, 0, 0, 0) := by decide +kernel
theorem lr_1499 : x_row (x_rws M_law) 1499 = some (1499, .iload_n 3, 1, 0, 0, 0) := by decide +kernel
theorem lr_1500 : x_row (x_rws M_law) 1500 = some (1500, .iconst 1, 1, 0, 0, 0) := by decide +kernel
theorem lr_1501 : x_row (x_rws M_law) 1501 = some (1501, .iadd, 1, 0, 0, 0) := by decide +kernel
theorem lr_1502 : x_row (x_rws M_law) 1502 = some (1502, .iaload, 1, 0, 0, 0) := by decide +kernel
theorem lr_1503 : x_row (x_rws M_law) 1503 = some (1503, .aload_n 0, 1, 0, 0, 0) := by decide +kernel
theorem lr_1504 : x_row (x_rws M_law) 1504 = some (1504, .iload_n 3, 1, 0, 0, 0) := by decide +kernel
theorem lr_1505 : x_row (x_rws M_law) 1505 = some (1505, .iconst 2, 1, 0, 0, 0) := by decide +kernel
theorem lr_1506 : x_row (x_rws M_law) 1506 = some (1506, .iadd, 1, 0, 0, 0) := by decide +kernel
theorem lr_1507 : x_row (x_rws M_law) 1507 = some (1507, .iaload, 1, 0, 0, 0) := by decide +kernel
theorem lr_1508 : x_row (x_rws M_law) 1508 = some (1508, .invokevirtual 191, 3, 157, 2, 0) := by decide +kernel
theorem lr_1511 : x_row (x_rws M_law) 1511 = some (1511, .pop, 1, 0, 0, 0) := by decide +kernel
theorem lr_1512 : x_row (x_rws M_law) 1512 = some (1512, .aload_n 2, 1, 0, 0, 0) := by decide +kernel
theorem lr_1513 : x_row (x_rws M_law) 1513 = some (1513, .aload_n 0, 1, 0, 0, 0) := by decide +kernel
theorem lr_1514 : x_row (x_rws M_law) 1514 = some (1514, .iload_n 3, 1, 0, 0, 0) := by decide +kernel
theorem lr_1515 : x_row (x_rws M_law) 1515 = some (1515, .iconst 1, 1, 0, 0, 0) := by decide +kernel
theorem lr_1516 : x_row (x_rws M_law) 1516 = some (1516, .iadd, 1, 0, 0, 0) := by decide +kernel
theorem lr_1517 : x_row (x_rws M_law) 1517 = some (1517, .iaload, 1, 0, 0, 0) := by decide +kernel
theorem lr_1518 : x_row (x_rws M_law) 1518 = some (1518, .aload_n 0, 1, 0, 0, 0) := by decide +kernel
theorem lr_1519 : x_row (x_rws M_law) 1519 = some (1519, .iload_n 3, 1, 0, 0, 0) := by decide +kernel
theorem lr_1520 : x_row (x_rws M_law) 1520 = some (1520, .iconst 2, 1, 0, 0, 0) := by decide +kernel
theorem lr_1521 : x_row (x_rws M_law) 1521 = some (1521, .iadd, 1, 0, 0, 0) := by decide +kernel
theorem lr_1522 : x_row (x_rws M_law) 1522 = some (1522, .iaload, 1, 0, 0, 0) := by decide +kernel
theorem lr_1523 : x_row (x_rws M_law) 1523 = some (1523, .invokevirtual 194, 3, 316, 2, 0) := by decide +kernel
theorem lr_1526 : x_row (x_rws M_law) 1526 = some (1526, .pop, 1, 0, 0, 0) := by decide +kernel
theorem lr_1527 : x_row (x_rws M_law) 1527 = some (1527, .goto 841, 3, 0, 0, 0) := by decide +kernel
theorem lr_1530 : x_row (x_rws M_law) 1530 = some (1530, .aload_n 1, 1, 0, 0, 0) := by decide +kernel
theorem lr_1531 : x_row (x_rws M_law) 1531 = some (1531, .aload_n 0, 1, 0, 0, 0) := by decide +kernel
theorem lr_1532 : x_row (x_rws M_law) 1532 = some (1532, .iload_n 3, 1, 0, 0, 0) := by decide +kernel
theorem lr_1533 : x_row (x_rws M_law) 1533 = some (1533, .iconst 1, 1, 0, 0, 0) := by decide +kernel
theorem lr_1534 : x_row (x_rws M_law) 1534 = some (1534, .iadd, 1, 0, 0, 0) := by decide +kernel
theorem lr_1535 : x_row (x_rws M_law) 1535 = some (1535, .iaload, 1, 0, 0, 0) := by decide +kernel
theorem lr_1536 : x_row (x_rws M_law) 1536 = some (1536, .invokevirtual 195, 3, 158, 1, 0) := by decide +kernel
theorem lr_1539 : x_row (x_rws M_law) 1539 = some (1539, .pop, 1, 0, 0, 0) := by decide +kernel
theorem lr_1540 : x_row (x_rws M_law) 1540 = some (1540, .aload_n 2, 1, 0, 0, 0) := by decide +kernel
theorem lr_1541 : x_row (x_rws M_law) 1541 = some (1541, .aload_n 0, 1, 0, 0, 0) := by decide +kernel
theorem lr_1542 : x_row (x_rws M_law) 1542 = some (1542, .iload_n 3, 1, 0, 0, 0) := by decide +kernel
theorem lr_1543 : x_row (x_rws M_law) 1543 = some (1543, .iconst 1, 1, 0, 0, 0) := by decide +kernel
theorem lr_1544 : x_row (x_rws M_law) 1544 = some (1544, .iadd, 1, 0, 0, 0) := by decide +kernel
theorem lr_1545 : x_row (x_rws M_law) 1545 = some (1545, .iaload, 1, 0, 0, 0) := by decide +kernel
theorem lr_1546 : x_row (x_rws M_law) 1546 = some (1546, .invokevirtual 198, 3, 317, 1, 0) := by decide +kernel
theorem lr_1549 : x_row (x_rws M_law) 1549 = some (1549, .pop, 1, 0, 0, 0) := by decide +kernel
theorem lr_1550 : x_row (x_rws M_law) 1550 = some (1550, .goto 818, 3, 0, 0, 0) := by decide +kernel
theorem lr_1553 : x_row (x_rws M_law) 1553 = some (1553, .aload_n 1, 1, 0, 0, 0) := by decide +kernel
theorem lr_1554 : x_row (x_rws M_law) 1554 = some (1554, .aload_n 0, 1, 0, 0, 0) := by decide +kernel
theorem lr_1555 : x_row (x_rws M_law) 1555 = some (1555, .iload_n 3, 1, 0, 0, 0) := by decide +kernel
theorem lr_1556 : x_row (x_rws M_law) 1556 = some (1556, .iconst 1, 1, 0, 0, 0) := by decide +kernel
theorem lr_1557 : x_row (x_rws M_law) 1557 = some (1557, .iadd, 1, 0, 0, 0) := by decide +kernel
theorem lr_1558 : x_row (x_rws M_law) 1558 = some (1558, .iaload, 1, 0, 0, 0) := by decide +kernel
theorem lr_1559 : x_row (x_rws M_law) 1559 = some (1559, .aload_n 0, 1, 0, 0, 0) := by decide +kernel
theorem lr_1560 : x_row (x_rws M_law) 1560 = some (1560, .iload_n 3, 1, 0, 0, 0) := by decide +kernel
theorem lr_1561 : x_row (x_rws M_law) 1561 = some (1561, .iconst 2, 1, 0, 0, 0) := by decide +kernel
theorem lr_1562 : x_row (x_rws M_law) 1562 = some (1562, .iadd, 1, 0, 0, 0) := by decide +kernel
theorem lr_1563 : x_row (x_rws M_law) 1563 = some (1563, .iaload, 1, 0, 0, 0) := by decide +kernel
theorem lr_1564 : x_row (x_rws M_law) 1564 = some (1564, .aload_n 0, 1, 0, 0, 0) := by decide +kernel
theorem lr_1565 : x_row (x_rws M_law) 1565 = some (1565, .iload_n 3, 1, 0, 0, 0) := by decide +kernel
theorem lr_1566 : x_row (x_rws M_law) 1566 = some (1566, .iconst 3, 1, 0, 0, 0) := by decide +kernel
theorem lr_1567 : x_row (x_rws M_law) 1567 = some (1567, .iadd, 1, 0, 0, 0) := by decide +kernel
theorem lr_1568 : x_row (x_rws M_law) 1568 = some (1568, .iaload, 1, 0, 0, 0) := by decide +kernel
theorem lr_1569 : x_row (x_rws M_law) 1569 = some (1569, .invokevirtual 199, 3, 159, 3, 0) := by decide +kernel
theorem lr_1572 : x_row (x_rws M_law) 1572 = some (1572, .pop, 1, 0, 0, 0) := by decide +kernel
theorem lr_1573 : x_row (x_rws M_law) 1573 = some (1573, .aload_n 2, 1, 0, 0, 0) := by decide +kernel
theorem lr_1574 : x_row (x_rws M_law) 1574 = some (1574, .aload_n 0, 1, 0, 0, 0) := by decide +kernel
theorem lr_1575 : x_row (x_rws M_law) 1575 = some (1575, .iload_n 3, 1, 0, 0, 0) := by decide +kernel
theorem lr_1576 : x_row (x_rws M_law) 1576 = some (1576, .iconst 1, 1, 0, 0, 0) := by decide +kernel
theorem lr_1577 : x_row (x_rws M_law) 1577 = some (1577, .iadd, 1, 0, 0, 0) := by decide +kernel
theorem lr_1578 : x_row (x_rws M_law) 1578 = some (1578, .iaload, 1, 0, 0, 0) := by decide +kernel
theorem lr_1579 : x_row (x_rws M_law) 1579 = some (1579, .aload_n 0, 1, 0, 0, 0) := by decide +kernel
theorem lr_1580 : x_row (x_rws M_law) 1580 = some (1580, .iload_n 3, 1, 0, 0, 0) := by decide +kernel
theorem lr_1581 : x_row (x_rws M_law) 1581 = some (1581, .iconst 2, 1, 0, 0, 0) := by decide +kernel
theorem lr_1582 : x_row (x_rws M_law) 1582 = some (1582, .iadd, 1, 0, 0, 0) := by decide +kernel
theorem lr_1583 : x_row (x_rws M_law) 1583 = some (1583, .iaload, 1, 0, 0, 0) := by decide +kernel
theorem lr_1584 : x_row (x_rws M_law) 1584 = some (1584, .aload_n 0, 1, 0, 0, 0) := by decide +kernel
theorem lr_1585 : x_row (x_rws M_law) 1585 = some (1585, .iload_n 3, 1, 0, 0, 0) := by decide +kernel
theorem lr_1586 : x_row (x_rws M_law) 1586 = some (1586, .iconst 3, 1, 0, 0, 0) := by decide +kernel
theorem lr_1587 : x_row (x_rws M_law) 1587 = some (1587, .iadd, 1, 0, 0, 0) := by decide +kernel
theorem lr_1588 : x_row (x_rws M_law) 1588 = some (1588, .iaload, 1, 0, 0, 0) := by decide +kernel
theorem lr_1589 : x_row (x_rws M_law) 1589 = some (1589, .invokevirtual 203, 3, 319, 3, 0) := by decide +kernel
theorem lr_1592 : x_row (x_rws M_law) 1592 = some (1592, .pop, 1, 0, 0, 0) := by decide +kernel
theorem lr_1593 : x_row (x_rws M_law) 1593 = some (1593, .goto 775, 3, 0, 0, 0) := by decide +kernel
theorem lr_1596 : x_row (x_rws M_law) 1596 = some (1596, .aload_n 1, 1, 0, 0, 0) := by decide +kernel
theorem lr_1597 : x_row (x_rws M_law) 1597 = some (1597, .aload_n 0, 1, 0, 0, 0) := by decide +kernel
theorem lr_1598 : x_row (x_rws M_law) 1598 = some (1598, .iload_n 3, 1, 0, 0, 0) := by decide +kernel
theorem lr_1599 : x_row (x_rws M_law) 1599 = some (1599, .iconst 1, 1, 0, 0, 0) := by decide +kernel
theorem lr_1600 : x_row (x_rws M_law) 1600 = some (1600, .iadd, 1, 0, 0, 0) := by decide +kernel
theorem lr_1601 : x_row (x_rws M_law) 1601 = some (1601, .iaload, 1, 0, 0, 0) := by decide +kernel
theorem lr_1602 : x_row (x_rws M_law) 1602 = some (1602, .invokevirtual 204, 3, 160, 1, 0) := by decide +kernel
theorem lr_1605 : x_row (x_rws M_law) 1605 = some (1605, .pop, 1, 0, 0, 0) := by decide +kernel
theorem lr_1606 : x_row (x_rws M_law) 1606 = some (1606, .aload_n 2, 1, 0, 0, 0) := by decide +kernel
theorem lr_1607 : x_row (x_rws M_law) 1607 = some (1607, .aload_n 0, 1, 0, 0, 0) := by decide +kernel
theorem lr_1608 : x_row (x_rws M_law) 1608 = some (1608, .iload_n 3, 1, 0, 0, 0) := by decide +kernel
theorem lr_1609 : x_row (x_rws M_law) 1609 = some (1609, .iconst 1, 1, 0, 0, 0) := by decide +kernel
theorem lr_1610 : x_row (x_rws M_law) 1610 = some (1610, .iadd, 1, 0, 0, 0) := by decide +kernel
theorem lr_1611 : x_row (x_rws M_law) 1611 = some (1611, .iaload, 1, 0, 0, 0) := by decide +kernel
theorem lr_1612 : x_row (x_rws M_law) 1612 = some (1612, .invokevirtual 207, 3, 321, 1, 0) := by decide +kernel
theorem lr_1615 : x_row (x_rws M_law) 1615 = some (1615, .pop, 1, 0, 0, 0) := by decide +kernel
theorem lr_1616 : x_row (x_rws M_law) 1616 = some (1616, .goto 752, 3, 0, 0, 0) := by decide +kernel
theorem lr_1619 : x_row (x_rws M_law) 1619 = some (1619, .aload_n 1, 1, 0, 0, 0) := by decide +kernel
theorem lr_1620 : x_row (x_rws M_law) 1620 = some (1620, .aload_n 0, 1, 0, 0, 0) := by decide +kernel
theorem lr_1621 : x_row (x_rws M_law) 1621 = some (1621, .iload_n 3, 1, 0, 0, 0) := by decide +kernel
theorem lr_1622 : x_row (x_rws M_law) 1622 = some (1622, .iconst 1, 1, 0, 0, 0) := by decide +kernel
theorem lr_1623 : x_row (x_rws M_law) 1623 = some (1623, .iadd, 1, 0, 0, 0) := by decide +kernel
theorem lr_1624 : x_row (x_rws M_law) 1624 = some (1624, .iaload, 1, 0, 0, 0) := by decide +kernel
theorem lr_1625 : x_row (x_rws M_law) 1625 = some (1625, .invokevirtual 208, 3, 161, 1, 0) := by decide +kernel
theorem lr_1628 : x_row (x_rws M_law) 1628 = some (1628, .pop, 1, 0, 0, 0) := by decide +kernel
theorem lr_1629 : x_row (x_rws M_law) 1629 = some (1629, .aload_n 2, 1, 0, 0, 0) := by decide +kernel
theorem lr_1630 : x_row (x_rws M_law) 1630 = some (1630, .aload_n 0, 1, 0, 0, 0) := by decide +kernel
theorem lr_1631 : x_row (x_rws M_law) 1631 = some (1631, .iload_n 3, 1, 0, 0, 0) := by decide +kernel
theorem lr_1632 : x_row (x_rws M_law) 1632 = some (1632, .iconst 1, 1, 0, 0, 0) := by decide +kernel
theorem lr_1633 : x_row (x_rws M_law) 1633 = some (1633, .iadd, 1, 0, 0, 0) := by decide +kernel
theorem lr_1634 : x_row (x_rws M_law) 1634 = some (1634, .iaload, 1, 0, 0, 0) := by decide +kernel
theorem lr_1635 : x_row (x_rws M_law) 1635 = some (1635, .invokevirtual 211, 3, 322, 1, 0) := by decide +kernel
theorem lr_1638 : x_row (x_rws M_law) 1638 = some (1638, .pop, 1, 0, 0, 0) := by decide +kernel
theorem lr_1639 : x_row (x_rws M_law) 1639 = some (1639, .goto 729, 3, 0, 0, 0) := by decide +kernel
theorem lr_1642 : x_row (x_rws M_law) 1642 = some (1642, .aload_n 1, 1, 0, 0, 0) := by decide +kernel
theorem lr_1643 : x_row (x_rws M_law) 1643 = some (1643, .aload_n 0, 1, 0, 0, 0) := by decide +kernel
theorem lr_1644 : x_row (x_rws M_law) 1644 = some (1644, .iload_n 3, 1, 0, 0, 0) := by decide +kernel
theorem lr_1645 : x_row (x_rws M_law) 1645 = some (1645, .iconst 1, 1, 0, 0, 0) := by decide +kernel
theorem lr_1646 : x_row (x_rws M_law) 1646 = some (1646, .iadd, 1, 0, 0, 0) := by decide +kernel
theorem lr_1647 : x_row (x_rws M_law) 1647 = some (1647, .iaload, 1, 0, 0, 0) := by decide +kernel
theorem lr_1648 : x_row (x_rws M_law) 1648 = some (1648, .invokevirtual 212, 3, 162, 1, 0) := by decide +kernel
theorem lr_1651 : x_row (x_rws M_law) 1651 = some (1651, .pop, 1, 0, 0, 0) := by decide +kernel
theorem lr_1652 : x_row (x_rws M_law) 1652 = some (1652, .aload_n 2, 1, 0, 0, 0) := by decide +kernel
theorem lr_1653 : x_row (x_rws M_law) 1653 = some (1653, .aload_n 0, 1, 0, 0, 0) := by decide +kernel
theorem lr_1654 : x_row (x_rws M_law) 1654 = some (1654, .iload_n 3, 1, 0, 0, 0) := by decide +kernel
theorem lr_1655 : x_row (x_rws M_law) 1655 = some (1655, .iconst 1, 1, 0, 0, 0) := by decide +kernel
theorem lr_1656 : x_row (x_rws M_law) 1656 = some (1656, .iadd, 1, 0, 0, 0) := by decide +kernel
theorem lr_1657 : x_row (x_rws M_law) 1657 = some (1657, .iaload, 1, 0, 0, 0) := by decide +kernel
theorem lr_1658 : x_row (x_rws M_law) 1658 = some (1658, .invokevirtual 215, 3, 326, 1, 0) := by decide +kernel
theorem lr_1661 : x_row (x_rws M_law) 1661 = some (1661, .pop, 1, 0, 0, 0) := by decide +kernel
theorem lr_1662 : x_row (x_rws M_law) 1662 = some (1662, .goto 706, 3, 0, 0, 0) := by decide +kernel
theorem lr_1665 : x_row (x_rws M_law) 1665 = some (1665, .aload_n 1, 1, 0, 0, 0) := by decide +kernel
theorem lr_1666 : x_row (x_rws M_law) 1666 = some (1666, .aload_n 0, 1, 0, 0, 0) := by decide +kernel
theorem lr_1667 : x_row (x_rws M_law) 1667 = some (1667, .iload_n 3, 1, 0, 0, 0) := by decide +kernel
theorem lr_1668 : x_row (x_rws M_law) 1668 = some (1668, .iconst 1, 1, 0, 0, 0) := by decide +kernel
theorem lr_1669 : x_row (x_rws M_law) 1669 = some (1669, .iadd, 1, 0, 0, 0) := by decide +kernel
theorem lr_1670 : x_row (x_rws M_law) 1670 = some (1670, .iaload, 1, 0, 0, 0) := by decide +kernel
theorem lr_1671 : x_row (x_rws M_law) 1671 = some (1671, .invokevirtual 216, 3, 163, 1, 0) := by decide +kernel
theorem lr_1674 : x_row (x_rws M_law) 1674 = some (1674, .pop, 1, 0, 0, 0) := by decide +kernel
theorem lr_1675 : x_row (x_rws M_law) 1675 = some (1675, .aload_n 2, 1, 0, 0, 0) := by decide +kernel
theorem lr_1676 : x_row (x_rws M_law) 1676 = some (1676, .aload_n 0, 1, 0, 0, 0) := by decide +kernel
theorem lr_1677 : x_row (x_rws M_law) 1677 = some (1677, .iload_n 3, 1, 0, 0, 0) := by decide +kernel
theorem lr_1678 : x_row (x_rws M_law) 1678 = some (1678, .iconst 1, 1, 0, 0, 0) := by decide +kernel
theorem lr_1679 : x_row (x_rws M_law) 1679 = some (1679, .iadd, 1, 0, 0, 0) := by decide +kernel
theorem lr_1680 : x_row (x_rws M_law) 1680 = some (1680, .iaload, 1, 0, 0, 0) := by decide +kernel
theorem lr_1681 : x_row (x_rws M_law) 1681 = some (1681, .invokevirtual 219, 3, 327, 1, 0) := by decide +kernel
theorem lr_1684 : x_row (x_rws M_law) 1684 = some (1684, .pop, 1, 0, 0, 0) := by decide +kernel
theorem lr_1685 : x_row (x_rws M_law) 1685 = some (1685, .goto 683, 3, 0, 0, 0) := by decide +kernel
theorem lr_1688 : x_row (x_rws M_law) 1688 = some (1688, .aload_n 1, 1, 0, 0, 0) := by decide +kernel
theorem lr_1689 : x_row (x_rws M_law) 1689 = some (1689, .aload_n 0, 1, 0, 0, 0) := by decide +kernel
theorem lr_1690 : x_row (x_rws M_law) 1690 = some (1690, .iload_n 3, 1, 0, 0, 0) := by decide +kernel
theorem lr_1691 : x_row (x_rws M_law) 1691 = some (1691, .iconst 1, 1, 0, 0, 0) := by decide +kernel
theorem lr_1692 : x_row (x_rws M_law) 1692 = some (1692, .iadd, 1, 0, 0, 0) := by decide +kernel
theorem lr_1693 : x_row (x_rws M_law) 1693 = some (1693, .iaload, 1, 0, 0, 0) := by decide +kernel
theorem lr_1694 : x_row (x_rws M_law) 1694 = some (1694, .aload_n 0, 1, 0, 0, 0) := by decide +kernel
theorem lr_1695 : x_row (x_rws M_law) 1695 = some (1695, .iload_n 3, 1, 0, 0, 0) := by decide +kernel
theorem lr_1696 : x_row (x_rws M_law) 1696 = some (1696, .iconst 2, 1, 0, 0, 0) := by decide +kernel
theorem lr_1697 : x_row (x_rws M_law) 1697 = some (1697, .iadd, 1, 0, 0, 0) := by decide +kernel
theorem lr_1698 : x_row (x_rws M_law) 1698 = some (1698, .iaload, 1, 0, 0, 0) := by decide +kernel
theorem lr_1699 : x_row (x_rws M_law) 1699 = some (1699, .invokevirtual 220, 3, 164, 2, 0) := by decide +kernel
theorem lr_1702 : x_row (x_rws M_law) 1702 = some (1702, .pop, 1, 0, 0, 0) := by decide +kernel
theorem lr_1703 : x_row (x_rws M_law) 1703 = some (1703, .aload_n 2, 1, 0, 0, 0) := by decide +kernel
theorem lr_1704 : x_row (x_rws M_law) 1704 = some (1704, .aload_n 0, 1, 0, 0, 0) := by decide +kernel
theorem lr_1705 : x_row (x_rws M_law) 1705 = some (1705, .iload_n 3, 1, 0, 0, 0) := by decide +kernel
theorem lr_1706 : x_row (x_rws M_law) 1706 = some (1706, .iconst 1, 1, 0, 0, 0) := by decide +kernel
theorem lr_1707 : x_row (x_rws M_law) 1707 = some (1707, .iadd, 1, 0, 0, 0) := by decide +kernel
theorem lr_1708 : x_row (x_rws M_law) 1708 = some (1708, .iaload, 1, 0, 0, 0) := by decide +kernel
theorem lr_1709 : x_row (x_rws M_law) 1709 = some (1709, .aload_n 0, 1, 0, 0, 0) := by decide +kernel
theorem lr_1710 : x_row (x_rws M_law) 1710 = some (1710, .iload_n 3, 1, 0, 0, 0) := by decide +kernel
theorem lr_1711 : x_row (x_rws M_law) 1711 = some (1711, .iconst 2, 1, 0, 0, 0) := by decide +kernel
theorem lr_1712 : x_row (x_rws M_law) 1712 = some (1712, .iadd, 1, 0, 0, 0) := by decide +kernel
theorem lr_1713 : x_row (x_rws M_law) 1713 = some (1713, .iaload, 1, 0, 0, 0) := by decide +kernel
theorem lr_1714 : x_row (x_rws M_law) 1714 = some (1714, .invokevirtual 223, 3, 328, 2, 0) := by decide +kernel
theorem lr_1717 : x_row (x_rws M_law) 1717 = some (1717, .pop, 1, 0, 0, 0) := by decide +kernel
theorem lr_1718 : x_row (x_rws M_law) 1718 = some (1718, .goto 650, 3, 0, 0, 0) := by decide +kernel
theorem lr_1721 : x_row (x_rws M_law) 1721 = some (1721, .aload_n 1, 1, 0, 0, 0) := by decide +kernel
theorem lr_1722 : x_row (x_rws M_law) 1722 = some (1722, .aload_n 0, 1, 0, 0, 0) := by decide +kernel
theorem lr_1723 : x_row (x_rws M_law) 1723 = some (1723, .iload_n 3, 1, 0, 0, 0) := by decide +kernel
theorem lr_1724 : x_row (x_rws M_law) 1724 = some (1724, .iconst 1, 1, 0, 0, 0) := by decide +kernel
theorem lr_1725 : x_row (x_rws M_law) 1725 = some (1725, .iadd, 1, 0, 0, 0) := by decide +kernel
theorem lr_1726 : x_row (x_rws M_law) 1726 = some (1726, .iaload, 1, 0, 0, 0) := by decide +kernel
theorem lr_1727 : x_row (x_rws M_law) 1727 = some (1727, .invokevirtual 224, 3, 165, 1, 0) := by decide +kernel
theorem lr_1730 : x_row (x_rws M_law) 1730 = some (1730, .pop, 1, 0, 0, 0) := by decide +kernel
theorem lr_1731 : x_row (x_rws M_law) 1731 = some (1731, .aload_n 2, 1, 0, 0, 0) := by decide +kernel
theorem lr_1732 : x_row (x_rws M_law) 1732 = some (1732, .aload_n 0, 1, 0, 0, 0) := by decide +kernel
theorem lr_1733 : x_row (x_rws M_law) 1733 = some (1733, .iload_n 3, 1, 0, 0, 0) := by decide +kernel
theorem lr_1734 : x_row (x_rws M_law) 1734 = some (1734, .iconst 1, 1, 0, 0, 0) := by decide +kernel
theorem lr_1735 : x_row (x_rws M_law) 1735 = some (1735, .iadd, 1, 0, 0, 0) := by decide +kernel
theorem lr_1736 : x_row (x_rws M_law) 1736 = some (1736, .iaload, 1, 0, 0, 0) := by decide +kernel
theorem lr_1737 : x_row (x_rws M_law) 1737 = some (1737, .invokevirtual 227, 3, 330, 1, 0) := by decide +kernel
theorem lr_1740 : x_row (x_rws M_law) 1740 = some (1740, .pop, 1, 0, 0, 0) := by decide +kernel
theorem lr_1741 : x_row (x_rws M_law) 1741 = some (1741, .goto 627, 3, 0, 0, 0) := by decide +kernel
theorem lr_1744 : x_row (x_rws M_law) 1744 = some (1744, .aload_n 1, 1, 0, 0, 0) := by decide +kernel
theorem lr_1745 : x_row (x_rws M_law) 1745 = some (1745, .invokevirtual 228, 3, 166, 0, 0) := by decide +kernel
theorem lr_1748 : x_row (x_rws M_law) 1748 = some (1748, .pop, 1, 0, 0, 0) := by decide +kernel
theorem lr_1749 : x_row (x_rws M_law) 1749 = some (1749, .aload_n 2, 1, 0, 0, 0) := by decide +kernel
theorem lr_1750 : x_row (x_rws M_law) 1750 = some (1750, .invokevirtual 231, 3, 331, 0, 0) := by decide +kernel
theorem lr_1753 : x_row (x_rws M_law) 1753 = some (1753, .pop, 1, 0, 0, 0) := by decide +kernel
theorem lr_1754 : x_row (x_rws M_law) 1754 = some (1754, .goto 614, 3, 0, 0, 0) := by decide +kernel
theorem lr_1757 : x_row (x_rws M_law) 1757 = some (1757, .aload_n 1, 1, 0, 0, 0) := by decide +kernel
theorem lr_1758 : x_row (x_rws M_law) 1758 = some (1758, .invokevirtual 232, 3, 167, 0, 0) := by decide +kernel
theorem lr_1761 : x_row (x_rws M_law) 1761 = some (1761, .pop, 1, 0, 0, 0) := by decide +kernel
theorem lr_1762 : x_row (x_rws M_law) 1762 = some (1762, .aload_n 2, 1, 0, 0, 0) := by decide +kernel
theorem lr_1763 : x_row (x_rws M_law) 1763 = some (1763, .invokevirtual 235, 3, 333, 0, 0) := by decide +kernel
theorem lr_1766 : x_row (x_rws M_law) 1766 = some (1766, .pop, 1, 0, 0, 0) := by decide +kernel
theorem lr_1767 : x_row (x_rws M_law) 1767 = some (1767, .goto 601, 3, 0, 0, 0) := by decide +kernel
theorem lr_1770 : x_row (x_rws M_law) 1770 = some (1770, .aload_n 1, 1, 0, 0, 0) := by decide +kernel
theorem lr_1771 : x_row (x_rws M_law) 1771 = some (1771, .aload_n 0, 1, 0, 0, 0) := by decide +kernel
theorem lr_1772 : x_row (x_rws M_law) 1772 = some (1772, .iload_n 3, 1, 0, 0, 0) := by decide +kernel
theorem lr_1773 : x_row (x_rws M_law) 1773 = some (1773, .iconst 1, 1, 0, 0, 0) := by decide +kernel
theorem lr_1774 : x_row (x_rws M_law) 1774 = some (1774, .iadd, 1, 0, 0, 0) := by decide +kernel
theorem lr_1775 : x_row (x_rws M_law) 1775 = some (1775, .iaload, 1, 0, 0, 0) := by decide +kernel
theorem lr_1776 : x_row (x_rws M_law) 1776 = some (1776, .invokevirtual 236, 3, 168, 1, 0) := by decide +kernel
theorem lr_1779 : x_row (x_rws M_law) 1779 = some (1779, .pop, 1, 0, 0, 0) := by decide +kernel
theorem lr_1780 : x_row (x_rws M_law) 1780 = some (1780, .aload_n 2, 1, 0, 0, 0) := by decide +kernel
theorem lr_1781 : x_row (x_rws M_law) 1781 = some (1781, .aload_n 0, 1, 0, 0, 0) := by decide +kernel
theorem lr_1782 : x_row (x_rws M_law) 1782 = some (1782, .iload_n 3, 1, 0, 0, 0) := by decide +kernel
theorem lr_1783 : x_row (x_rws M_law) 1783 = some (1783, .iconst 1, 1, 0, 0, 0) := by decide +kernel
theorem lr_1784 : x_row (x_rws M_law) 1784 = some (1784, .iadd, 1, 0, 0, 0) := by decide +kernel
theorem lr_1785 : x_row (x_rws M_law) 1785 = some (1785, .iaload, 1, 0, 0, 0) := by decide +kernel
theorem lr_1786 : x_row (x_rws M_law) 1786 = some (1786, .invokevirtual 239, 3, 335, 1, 0) := by decide +kernel
theorem lr_1789 : x_row (x_rws M_law) 1789 = some (1789, .pop, 1, 0, 0, 0) := by decide +kernel
theorem lr_1790 : x_row (x_rws M_law) 1790 = some (1790, .goto 578, 3, 0, 0, 0) := by decide +kernel
theorem lr_1793 : x_row (x_rws M_law) 1793 = some (1793, .aload_n 1, 1, 0, 0, 0) := by decide +kernel
theorem lr_1794 : x_row (x_rws M_law) 1794 = some (1794, .aload_n 0, 1, 0, 0, 0) := by decide +kernel
theorem lr_1795 : x_row (x_rws M_law) 1795 = some (1795, .iload_n 3, 1, 0, 0, 0) := by decide +kernel
theorem lr_1796 : x_row (x_rws M_law) 1796 = some (1796, .iconst 1, 1, 0, 0, 0) := by decide +kernel
theorem lr_1797 : x_row (x_rws M_law) 1797 = some (1797, .iadd, 1, 0, 0, 0) := by decide +kernel
theorem lr_1798 : x_row (x_rws M_law) 1798 = some (1798, .iaload, 1, 0, 0, 0) := by decide +kernel
theorem lr_1799 : x_row (x_rws M_law) 1799 = some (1799, .aload_n 0, 1, 0, 0, 0) := by decide +kernel
theorem lr_1800 : x_row (x_rws M_law) 1800 = some (1800, .iload_n 3, 1, 0, 0, 0) := by decide +kernel
theorem lr_1801 : x_row (x_rws M_law) 1801 = some (1801, .iconst 2, 1, 0, 0, 0) := by decide +kernel
theorem lr_1802 : x_row (x_rws M_law) 1802 = some (1802, .iadd, 1, 0, 0, 0) := by decide +kernel
theorem lr_1803 : x_row (x_rws M_law) 1803 = some (1803, .iaload, 1, 0, 0, 0) := by decide +kernel
theorem lr_1804 : x_row (x_rws M_law) 1804 = some (1804, .invokevirtual 240, 3, 169, 2, 0) := by decide +kernel
theorem lr_1807 : x_row (x_rws M_law) 1807 = some (1807, .pop, 1, 0, 0, 0) := by decide +kernel
theorem lr_1808 : x_row (x_rws M_law) 1808 = some (1808, .aload_n 2, 1, 0, 0, 0) := by decide +kernel
theorem lr_1809 : x_row (x_rws M_law) 1809 = some (1809, .aload_n 0, 1, 0, 0, 0) := by decide +kernel
theorem lr_1810 : x_row (x_rws M_law) 1810 = some (1810, .iload_n 3, 1, 0, 0, 0) := by decide +kernel
theorem lr_1811 : x_row (x_rws M_law) 1811 = some (1811, .iconst 1, 1, 0, 0, 0) := by decide +kernel
theorem lr_1812 : x_row (x_rws M_law) 1812 = some (1812, .iadd, 1, 0, 0, 0) := by decide +kernel
theorem lr_1813 : x_row (x_rws M_law) 1813 = some (1813, .iaload, 1, 0, 0, 0) := by decide +kernel
theorem lr_1814 : x_row (x_rws M_law) 1814 = some (1814, .aload_n 0, 1, 0, 0, 0) := by decide +kernel
theorem lr_1815 : x_row (x_rws M_law) 1815 = some (1815, .iload_n 3, 1, 0, 0, 0) := by decide +kernel
theorem lr_1816 : x_row (x_rws M_law) 1816 = some (1816, .iconst 2, 1, 0, 0, 0) := by decide +kernel
theorem lr_1817 : x_row (x_rws M_law) 1817 = some (1817, .iadd, 1, 0, 0, 0) := by decide +kernel
theorem lr_1818 : x_row (x_rws M_law) 1818 = some (1818, .iaload, 1, 0, 0, 0) := by decide +kernel
theorem lr_1819 : x_row (x_rws M_law) 1819 = some (1819, .invokevirtual 243, 3, 336, 2, 0) := by decide +kernel
theorem lr_1822 : x_row (x_rws M_law) 1822 = some (1822, .pop, 1, 0, 0, 0) := by decide +kernel
theorem lr_1823 : x_row (x_rws M_law) 1823 = some (1823, .goto 545, 3, 0, 0, 0) := by decide +kernel
theorem lr_1826 : x_row (x_rws M_law) 1826 = some (1826, .aload_n 1, 1, 0, 0, 0) := by decide +kernel
theorem lr_1827 : x_row (x_rws M_law) 1827 = some (1827, .aload_n 0, 1, 0, 0, 0) := by decide +kernel
theorem lr_1828 : x_row (x_rws M_law) 1828 = some (1828, .iload_n 3, 1, 0, 0, 0) := by decide +kernel
theorem lr_1829 : x_row (x_rws M_law) 1829 = some (1829, .iconst 1, 1, 0, 0, 0) := by decide +kernel
theorem lr_1830 : x_row (x_rws M_law) 1830 = some (1830, .iadd, 1, 0, 0, 0) := by decide +kernel
theorem lr_1831 : x_row (x_rws M_law) 1831 = some (1831, .iaload, 1, 0, 0, 0) := by decide +kernel
theorem lr_1832 : x_row (x_rws M_law) 1832 = some (1832, .aload_n 0, 1, 0, 0, 0) := by decide +kernel
theorem lr_1833 : x_row (x_rws M_law) 1833 = some (1833, .iload_n 3, 1, 0, 0, 0) := by decide +kernel
theorem lr_1834 : x_row (x_rws M_law) 1834 = some (1834, .iconst 2, 1, 0, 0, 0) := by decide +kernel
theorem lr_1835 : x_row (x_rws M_law) 1835 = some (1835, .iadd, 1, 0, 0, 0) := by decide +kernel
theorem lr_1836 : x_row (x_rws M_law) 1836 = some (1836, .iaload, 1, 0, 0, 0) := by decide +kernel
theorem lr_1837 : x_row (x_rws M_law) 1837 = some (1837, .invokevirtual 244, 3, 170, 2, 0) := by decide +kernel
theorem lr_1840 : x_row (x_rws M_law) 1840 = some (1840, .pop, 1, 0, 0, 0) := by decide +kernel
theorem lr_1841 : x_row (x_rws M_law) 1841 = some (1841, .aload_n 2, 1, 0, 0, 0) := by decide +kernel
theorem lr_1842 : x_row (x_rws M_law) 1842 = some (1842, .aload_n 0, 1, 0, 0, 0) := by decide +kernel
theorem lr_1843 : x_row (x_rws M_law) 1843 = some (1843, .iload_n 3, 1, 0, 0, 0) := by decide +kernel
theorem lr_1844 : x_row (x_rws M_law) 1844 = some (1844, .iconst 1, 1, 0, 0, 0) := by decide +kernel
theorem lr_1845 : x_row (x_rws M_law) 1845 = some (1845, .iadd, 1, 0, 0, 0) := by decide +kernel
theorem lr_1846 : x_row (x_rws M_law) 1846 = some (1846, .iaload, 1, 0, 0, 0) := by decide +kernel
theorem lr_1847 : x_row (x_rws M_law) 1847 = some (1847, .aload_n 0, 1, 0, 0, 0) := by decide +kernel
theorem lr_1848 : x_row (x_rws M_law) 1848 = some (1848, .iload_n 3, 1, 0, 0, 0) := by decide +kernel
theorem lr_1849 : x_row (x_rws M_law) 1849 = some (1849, .iconst 2, 1, 0, 0, 0) := by decide +kernel
theorem lr_1850 : x_row (x_rws M_law) 1850 = some (1850, .iadd, 1, 0, 0, 0) := by decide +kernel
theorem lr_1851 : x_row (x_rws M_law) 1851 = some (1851, .iaload, 1, 0, 0, 0) := by decide +kernel
theorem lr_1852 : x_row (x_rws M_law) 1852 = some (1852, .invokevirtual 247, 3, 337, 2, 0) := by decide +kernel
theorem lr_1855 : x_row (x_rws M_law) 1855 = some (1855, .pop, 1, 0, 0, 0) := by decide +kernel
theorem lr_1856 : x_row (x_rws M_law) 1856 = some (1856, .goto 512, 3, 0, 0, 0) := by decide +kernel
theorem lr_1859 : x_row (x_rws M_law) 1859 = some (1859, .aload_n 1, 1, 0, 0, 0) := by decide +kernel
theorem lr_1860 : x_row (x_rws M_law) 1860 = some (1860, .aload_n 0, 1, 0, 0, 0) := by decide +kernel
theorem lr_1861 : x_row (x_rws M_law) 1861 = some (1861, .iload_n 3, 1, 0, 0, 0) := by decide +kernel
theorem lr_1862 : x_row (x_rws M_law) 1862 = some (1862, .iconst 1, 1, 0, 0, 0) := by decide +kernel
theorem lr_1863 : x_row (x_rws M_law) 1863 = some (1863, .iadd, 1, 0, 0, 0) := by decide +kernel
theorem lr_1864 : x_row (x_rws M_law) 1864 = some (1864, .iaload, 1, 0, 0, 0) := by decide +kernel
theorem lr_1865 : x_row (x_rws M_law) 1865 = some (1865, .invokevirtual 248, 3, 171, 1, 0) := by decide +kernel
theorem lr_1868 : x_row (x_rws M_law) 1868 = some (1868, .pop, 1, 0, 0, 0) := by decide +kernel
theorem lr_1869 : x_row (x_rws M_law) 1869 = some (1869, .aload_n 2, 1, 0, 0, 0) := by decide +kernel
theorem lr_1870 : x_row (x_rws M_law) 1870 = some (1870, .aload_n 0, 1, 0, 0, 0) := by decide +kernel
theorem lr_1871 : x_row (x_rws M_law) 1871 = some (1871, .iload_n 3, 1, 0, 0, 0) := by decide +kernel
theorem lr_1872 : x_row (x_rws M_law) 1872 = some (1872, .iconst 1, 1, 0, 0, 0) := by decide +kernel
theorem lr_1873 : x_row (x_rws M_law) 1873 = some (1873, .iadd, 1, 0, 0, 0) := by decide +kernel
theorem lr_1874 : x_row (x_rws M_law) 1874 = some (1874, .iaload, 1, 0, 0, 0) := by decide +kernel
theorem lr_1875 : x_row (x_rws M_law) 1875 = some (1875, .invokevirtual 251, 3, 338, 1, 0) := by decide +kernel
theorem lr_1878 : x_row (x_rws M_law) 1878 = some (1878, .pop, 1, 0, 0, 0) := by decide +kernel
theorem lr_1879 : x_row (x_rws M_law) 1879 = some (1879, .goto 489, 3, 0, 0, 0) := by decide +kernel
theorem lr_1882 : x_row (x_rws M_law) 1882 = some (1882, .aload_n 1, 1, 0, 0, 0) := by decide +kernel
theorem lr_1883 : x_row (x_rws M_law) 1883 = some (1883, .aload_n 0, 1, 0, 0, 0) := by decide +kernel
theorem lr_1884 : x_row (x_rws M_law) 1884 = some (1884, .iload_n 3, 1, 0, 0, 0) := by decide +kernel
theorem lr_1885 : x_row (x_rws M_law) 1885 = some (1885, .iconst 1, 1, 0, 0, 0) := by decide +kernel
theorem lr_1886 : x_row (x_rws M_law) 1886 = some (1886, .iadd, 1, 0, 0, 0) := by decide +kernel
theorem lr_1887 : x_row (x_rws M_law) 1887 = some (1887, .iaload, 1, 0, 0, 0) := by decide +kernel
theorem lr_1888 : x_row (x_rws M_law) 1888 = some (1888, .invokevirtual 252, 3, 139, 1, 0) := by decide +kernel
theorem lr_1891 : x_row (x_rws M_law) 1891 = some (1891, .aload_n 2, 1, 0, 0, 0) := by decide +kernel
theorem lr_1892 : x_row (x_rws M_law) 1892 = some (1892, .aload_n 0, 1, 0, 0, 0) := by decide +kernel
theorem lr_1893 : x_row (x_rws M_law) 1893 = some (1893, .iload_n 3, 1, 0, 0, 0) := by decide +kernel
theorem lr_1894 : x_row (x_rws M_law) 1894 = some (1894, .iconst 1, 1, 0, 0, 0) := by decide +kernel
theorem lr_1895 : x_row (x_rws M_law) 1895 = some (1895, .iadd, 1, 0, 0, 0) := by decide +kernel
theorem lr_1896 : x_row (x_rws M_law) 1896 = some (1896, .iaload, 1, 0, 0, 0) := by decide +kernel
theorem lr_1897 : x_row (x_rws M_law) 1897 = some (1897, .invokevirtual 255, 3, 339, 1, 0) := by decide +kernel
theorem lr_1905 : x_row (x_rws M_law) 1905 = some (1905, .aload_n 1, 1, 0, 0, 0) := by decide +kernel
theorem lr_1906 : x_row (x_rws M_law) 1906 = some (1906, .aload_n 0, 1, 0, 0, 0) := by decide +kernel
theorem lr_1907 : x_row (x_rws M_law) 1907 = some (1907, .iload_n 3, 1, 0, 0, 0) := by decide +kernel
theorem lr_1908 : x_row (x_rws M_law) 1908 = some (1908, .iconst 1, 1, 0, 0, 0) := by decide +kernel
theorem lr_1909 : x_row (x_rws M_law) 1909 = some (1909, .iadd, 1, 0, 0, 0) := by decide +kernel
theorem lr_1910 : x_row (x_rws M_law) 1910 = some (1910, .iaload, 1, 0, 0, 0) := by decide +kernel
theorem lr_1911 : x_row (x_rws M_law) 1911 = some (1911, .aload_n 0, 1, 0, 0, 0) := by decide +kernel
theorem lr_1912 : x_row (x_rws M_law) 1912 = some (1912, .iload_n 3, 1, 0, 0, 0) := by decide +kernel
theorem lr_1913 : x_row (x_rws M_law) 1913 = some (1913, .iconst 2, 1, 0, 0, 0) := by decide +kernel
theorem lr_1914 : x_row (x_rws M_law) 1914 = some (1914, .iadd, 1, 0, 0, 0) := by decide +kernel
theorem lr_1915 : x_row (x_rws M_law) 1915 = some (1915, .iaload, 1, 0, 0, 0) := by decide +kernel
theorem lr_1916 : x_row (x_rws M_law) 1916 = some (1916, .invokevirtual 256, 3, 172, 2, 0) := by decide +kernel
theorem lr_1919 : x_row (x_rws M_law) 1919 = some (1919, .pop, 1, 0, 0, 0) := by decide +kernel
theorem lr_1920 : x_row (x_rws M_law) 1920 = some (1920, .aload_n 2, 1, 0, 0, 0) := by decide +kernel
theorem lr_1921 : x_row (x_rws M_law) 1921 = some (1921, .aload_n 0, 1, 0, 0, 0) := by decide +kernel
theorem lr_1922 : x_row (x_rws M_law) 1922 = some (1922, .iload_n 3, 1, 0, 0, 0) := by decide +kernel
theorem lr_1923 : x_row (x_rws M_law) 1923 = some (1923, .iconst 1, 1, 0, 0, 0) := by decide +kernel
theorem lr_1924 : x_row (x_rws M_law) 1924 = some (1924, .iadd, 1, 0, 0, 0) := by decide +kernel
theorem lr_1925 : x_row (x_rws M_law) 1925 = some (1925, .iaload, 1, 0, 0, 0) := by decide +kernel
theorem lr_1926 : x_row (x_rws M_law) 1926 = some (1926, .aload_n 0, 1, 0, 0, 0) := by decide +kernel
theorem lr_1927 : x_row (x_rws M_law) 1927 = some (1927, .iload_n 3, 1, 0, 0, 0) := by decide +kernel
theorem lr_1928 : x_row (x_rws M_law) 1928 = some (1928, .iconst 2, 1, 0, 0, 0) := by decide +kernel
theorem lr_1929 : x_row (x_rws M_law) 1929 = some (1929, .iadd, 1, 0, 0, 0) := by decide +kernel
theorem lr_1930 : x_row (x_rws M_law) 1930 = some (1930, .iaload, 1, 0, 0, 0) := by decide +kernel
theorem lr_1931 : x_row (x_rws M_law) 1931 = some (1931, .invokevirtual 259, 3, 340, 2, 0) := by decide +kernel
theorem lr_1934 : x_row (x_rws M_law) 1934 = some (1934, .pop, 1, 0, 0, 0) := by decide +kernel
theorem lr_1935 : x_row (x_rws M_law) 1935 = some (1935, .goto 433, 3, 0, 0, 0) := by decide +kernel
theorem lr_1938 : x_row (x_rws M_law) 1938 = some (1938, .aload_n 1, 1, 0, 0, 0) := by decide +kernel
theorem lr_1939 : x_row (x_rws M_law) 1939 = some (1939, .aload_n 0, 1, 0, 0, 0) := by decide +kernel
theorem lr_1940 : x_row (x_rws M_law) 1940 = some (1940, .iload_n 3, 1, 0, 0, 0) := by decide +kernel
theorem lr_1941 : x_row (x_rws M_law) 1941 = some (1941, .iconst 1, 1, 0, 0, 0) := by decide +kernel
theorem lr_1942 : x_row (x_rws M_law) 1942 = some (1942, .iadd, 1, 0, 0, 0) := by decide +kernel
theorem lr_1943 : x_row (x_rws M_law) 1943 = some (1943, .iaload, 1, 0, 0, 0) := by decide +kernel
theorem lr_1944 : x_row (x_rws M_law) 1944 = some (1944, .aload_n 0, 1, 0, 0, 0) := by decide +kernel
theorem lr_1945 : x_row (x_rws M_law) 1945 = some (1945, .iload_n 3, 1, 0, 0, 0) := by decide +kernel
theorem lr_1946 : x_row (x_rws M_law) 1946 = some (1946, .iconst 2, 1, 0, 0, 0) := by decide +kernel
theorem lr_1947 : x_row (x_rws M_law) 1947 = some (1947, .iadd, 1, 0, 0, 0) := by decide +kernel
theorem lr_1948 : x_row (x_rws M_law) 1948 = some (1948, .iaload, 1, 0, 0, 0) := by decide +kernel
theorem lr_1949 : x_row (x_rws M_law) 1949 = some (1949, .aload_n 0, 1, 0, 0, 0) := by decide +kernel
theorem lr_1950 : x_row (x_rws M_law) 1950 = some (1950, .iload_n 3, 1, 0, 0, 0) := by decide +kernel
theorem lr_1951 : x_row (x_rws M_law) 1951 = some (1951, .iconst 3, 1, 0, 0, 0) := by decide +kernel
theorem lr_1952 : x_row (x_rws M_law) 1952 = some (1952, .iadd, 1, 0, 0, 0) := by decide +kernel
theorem lr_1953 : x_row (x_rws M_law) 1953 = some (1953, .iaload, 1, 0, 0, 0) := by decide +kernel
theorem lr_1954 : x_row (x_rws M_law) 1954 = some (1954, .invokevirtual 260, 3, 173, 3, 0) := by decide +kernel
theorem lr_1957 : x_row (x_rws M_law) 1957 = some (1957, .pop, 1, 0, 0, 0) := by decide +kernel
theorem lr_1958 : x_row (x_rws M_law) 1958 = some (1958, .aload_n 2, 1, 0, 0, 0) := by decide +kernel
theorem lr_1959 : x_row (x_rws M_law) 1959 = some (1959, .aload_n 0, 1, 0, 0, 0) := by decide +kernel
theorem lr_1960 : x_row (x_rws M_law) 1960 = some (1960, .iload_n 3, 1, 0, 0, 0) := by decide +kernel
theorem lr_1961 : x_row (x_rws M_law) 1961 = some (1961, .iconst 1, 1, 0, 0, 0) := by decide +kernel
theorem lr_1962 : x_row (x_rws M_law) 1962 = some (1962, .iadd, 1, 0, 0, 0) := by decide +kernel
theorem lr_1963 : x_row (x_rws M_law) 1963 = some (1963, .iaload, 1, 0, 0, 0) := by decide +kernel
theorem lr_1964 : x_row (x_rws M_law) 1964 = some (1964, .aload_n 0, 1, 0, 0, 0) := by decide +kernel
theorem lr_1965 : x_row (x_rws M_law) 1965 = some (1965, .iload_n 3, 1, 0, 0, 0) := by decide +kernel
theorem lr_1966 : x_row (x_rws M_law) 1966 = some (1966, .iconst 2, 1, 0, 0, 0) := by decide +kernel
theorem lr_1967 : x_row (x_rws M_law) 1967 = some (1967, .iadd, 1, 0, 0, 0) := by decide +kernel
theorem lr_1968 : x_row (x_rws M_law) 1968 = some (1968, .iaload, 1, 0, 0, 0) := by decide +kernel
theorem lr_1969 : x_row (x_rws M_law) 1969 = some (1969, .aload_n 0, 1, 0, 0, 0) := by decide +kernel
theorem lr_1970 : x_row (x_rws M_law) 1970 = some (1970, .iload_n 3, 1, 0, 0, 0) := by decide +kernel
theorem lr_1971 : x_row (x_rws M_law) 1971 = some (1971, .iconst 3, 1, 0, 0, 0) := by decide +kernel
theorem lr_1972 : x_row (x_rws M_law) 1972 = some (1972, .iadd, 1, 0, 0, 0) := by decide +kernel
theorem lr_1973 : x_row (x_rws M_law) 1973 = some (1973, .iaload, 1, 0, 0, 0) := by decide +kernel
theorem lr_1974 : x_row (x_rws M_law) 1974 = some (1974, .invokevirtual 263, 3, 341, 3, 0) := by decide +kernel
theorem lr_1977 : x_row (x_rws M_law) 1977 = some (1977, .pop, 1, 0, 0, 0) := by decide +kernel
theorem lr_1978 : x_row (x_rws M_law) 1978 = some (1978, .goto 390, 3, 0, 0, 0) := by decide +kernel
theorem lr_1981 : x_row (x_rws M_law) 1981 = some (1981, .aload_n 1, 1, 0, 0, 0) := by decide +kernel
theorem lr_1982 : x_row (x_rws M_law) 1982 = some (1982, .aload_n 0, 1, 0, 0, 0) := by decide +kernel
theorem lr_1983 : x_row (x_rws M_law) 1983 = some (1983, .iload_n 3, 1, 0, 0, 0) := by decide +kernel
theorem lr_1984 : x_row (x_rws M_law) 1984 = some (1984, .iconst 1, 1, 0, 0, 0) := by decide +kernel
theorem lr_1985 : x_row (x_rws M_law) 1985 = some (1985, .iadd, 1, 0, 0, 0) := by decide +kernel
theorem lr_1986 : x_row (x_rws M_law) 1986 = some (1986, .iaload, 1, 0, 0, 0) := by decide +kernel
theorem lr_1987 : x_row (x_rws M_law) 1987 = some (1987, .aload_n 0, 1, 0, 0, 0) := by decide +kernel
theorem lr_1988 : x_row (x_rws M_law) 1988 = some (1988, .iload_n 3, 1, 0, 0, 0) := by decide +kernel
theorem lr_1989 : x_row (x_rws M_law) 1989 = some (1989, .iconst 2, 1, 0, 0, 0) := by decide +kernel
theorem lr_1990 : x_row (x_rws M_law) 1990 = some (1990, .iadd, 1, 0, 0, 0) := by decide +kernel
theorem lr_1991 : x_row (x_rws M_law) 1991 = some (1991, .iaload, 1, 0, 0, 0) := by decide +kernel
theorem lr_1992 : x_row (x_rws M_law) 1992 = some (1992, .aload_n 0, 1, 0, 0, 0) := by decide +kernel
theorem lr_1993 : x_row (x_rws M_law) 1993 = some (1993, .iload_n 3, 1, 0, 0, 0) := by decide +kernel
theorem lr_1994 : x_row (x_rws M_law) 1994 = some (1994, .iconst 3, 1, 0, 0, 0) := by decide +kernel
theorem lr_1995 : x_row (x_rws M_law) 1995 = some (1995, .iadd, 1, 0, 0, 0) := by decide +kernel
theorem lr_1996 : x_row (x_rws M_law) 1996 = some (1996, .iaload, 1, 0, 0, 0) := by decide +kernel
theorem lr_1997 : x_row (x_rws M_law) 1997 = some (1997, .invokevirtual 264, 3, 174, 3, 0) := by decide +kernel
theorem lr_2000 : x_row (x_rws M_law) 2000 = some (2000, .pop, 1, 0, 0, 0) := by decide +kernel
theorem lr_2001 : x_row (x_rws M_law) 2001 = some (2001, .aload_n 2, 1, 0, 0, 0) := by decide +kernel
theorem lr_2002 : x_row (x_rws M_law) 2002 = some (2002, .aload_n 0, 1, 0, 0, 0) := by decide +kernel
theorem lr_2003 : x_row (x_rws M_law) 2003 = some (2003, .iload_n 3, 1, 0, 0, 0) := by decide +kernel
theorem lr_2004 : x_row (x_rws M_law) 2004 = some (2004, .iconst 1, 1, 0, 0, 0) := by decide +kernel
theorem lr_2005 : x_row (x_rws M_law) 2005 = some (2005, .iadd, 1, 0, 0, 0) := by decide +kernel
theorem lr_2006 : x_row (x_rws M_law) 2006 = some (2006, .iaload, 1, 0, 0, 0) := by decide +kernel
theorem lr_2007 : x_row (x_rws M_law) 2007 = some (2007, .aload_n 0, 1, 0, 0, 0) := by decide +kernel
theorem lr_2008 : x_row (x_rws M_law) 2008 = some (2008, .iload_n 3, 1, 0, 0, 0) := by decide +kernel
theorem lr_2009 : x_row (x_rws M_law) 2009 = some (2009, .iconst 2, 1, 0, 0, 0) := by decide +kernel
theorem lr_2010 : x_row (x_rws M_law) 2010 = some (2010, .iadd, 1, 0, 0, 0) := by decide +kernel
theorem lr_2011 : x_row (x_rws M_law) 2011 = some (2011, .iaload, 1, 0, 0, 0) := by decide +kernel
theorem lr_2012 : x_row (x_rws M_law) 2012 = some (2012, .aload_n 0, 1, 0, 0, 0) := by decide +kernel
theorem lr_2013 : x_row (x_rws M_law) 2013 = some (2013, .iload_n 3, 1, 0, 0, 0) := by decide +kernel
theorem lr_2014 : x_row (x_rws M_law) 2014 = some (2014, .iconst 3, 1, 0, 0, 0) := by decide +kernel
theorem lr_2015 : x_row (x_rws M_law) 2015 = some (2015, .iadd, 1, 0, 0, 0) := by decide +kernel
theorem lr_2016 : x_row (x_rws M_law) 2016 = some (2016, .iaload, 1, 0, 0, 0) := by decide +kernel
theorem lr_2017 : x_row (x_rws M_law) 2017 = some (2017, .invokevirtual 267, 3, 346, 3, 0) := by decide +kernel
theorem lr_2020 : x_row (x_rws M_law) 2020 = some (2020, .pop, 1, 0, 0, 0) := by decide +kernel
theorem lr_2021 : x_row (x_rws M_law) 2021 = some (2021, .goto 347, 3, 0, 0, 0) := by decide +kernel
theorem lr_2024 : x_row (x_rws M_law) 2024 = some (2024, .aload_n 1, 1, 0, 0, 0) := by decide +kernel
theorem lr_2025 : x_row (x_rws M_law) 2025 = some (2025, .aload_n 0, 1, 0, 0, 0) := by decide +kernel
theorem lr_2026 : x_row (x_rws M_law) 2026 = some (2026, .iload_n 3, 1, 0, 0, 0) := by decide +kernel
theorem lr_2027 : x_row (x_rws M_law) 2027 = some (2027, .iconst 1, 1, 0, 0, 0) := by decide +kernel
theorem lr_2028 : x_row (x_rws M_law) 2028 = some (2028, .iadd, 1, 0, 0, 0) := by decide +kernel
theorem lr_2029 : x_row (x_rws M_law) 2029 = some (2029, .iaload, 1, 0, 0, 0) := by decide +kernel
theorem lr_2030 : x_row (x_rws M_law) 2030 = some (2030, .aload_n 0, 1, 0, 0, 0) := by decide +kernel
theorem lr_2031 : x_row (x_rws M_law) 2031 = some (2031, .iload_n 3, 1, 0, 0, 0) := by decide +kernel
theorem lr_2032 : x_row (x_rws M_law) 2032 = some (2032, .iconst 2, 1, 0, 0, 0) := by decide +kernel
theorem lr_2033 : x_row (x_rws M_law) 2033 = some (2033, .iadd, 1, 0, 0, 0) := by decide +kernel
theorem lr_2034 : x_row (x_rws M_law) 2034 = some (2034, .iaload, 1, 0, 0, 0) := by decide +kernel
theorem lr_2035 : x_row (x_rws M_law) 2035 = some (2035, .aload_n 0, 1, 0, 0, 0) := by decide +kernel
theorem lr_2036 : x_row (x_rws M_law) 2036 = some (2036, .iload_n 3, 1, 0, 0, 0) := by decide +kernel
theorem lr_2037 : x_row (x_rws M_law) 2037 = some (2037, .iconst 3, 1, 0, 0, 0) := by decide +kernel
theorem lr_2038 : x_row (x_rws M_law) 2038 = some (2038, .iadd, 1, 0, 0, 0) := by decide +kernel
theorem lr_2039 : x_row (x_rws M_law) 2039 = some (2039, .iaload, 1, 0, 0, 0) := by decide +kernel
theorem lr_2040 : x_row (x_rws M_law) 2040 = some (2040, .invokevirtual 268, 3, 175, 3, 0) := by decide +kernel
theorem lr_2043 : x_row (x_rws M_law) 2043 = some (2043, .pop, 1, 0, 0, 0) := by decide +kernel
theorem lr_2044 : x_row (x_rws M_law) 2044 = some (2044, .aload_n 2, 1, 0, 0, 0) := by decide +kernel
theorem lr_2045 : x_row (x_rws M_law) 2045 = some (2045, .aload_n 0, 1, 0, 0, 0) := by decide +kernel
theorem lr_2046 : x_row (x_rws M_law) 2046 = some (2046, .iload_n 3, 1, 0, 0, 0) := by decide +kernel
theorem lr_2047 : x_row (x_rws M_law) 2047 = some (2047, .iconst 1, 1, 0, 0, 0) := by decide +kernel
theorem lr_2048 : x_row (x_rws M_law) 2048 = some (2048, .iadd, 1, 0, 0, 0) := by decide +kernel
theorem lr_2049 : x_row (x_rws M_law) 2049 = some (2049, .iaload, 1, 0, 0, 0) := by decide +kernel
theorem lr_2050 : x_row (x_rws M_law) 2050 = some (2050, .aload_n 0, 1, 0, 0, 0) := by decide +kernel
theorem lr_2051 : x_row (x_rws M_law) 2051 = some (2051, .iload_n 3, 1, 0, 0, 0) := by decide +kernel
theorem lr_2052 : x_row (x_rws M_law) 2052 = some (2052, .iconst 2, 1, 0, 0, 0) := by decide +kernel
theorem lr_2053 : x_row (x_rws M_law) 2053 = some (2053, .iadd, 1, 0, 0, 0) := by decide +kernel
theorem lr_2054 : x_row (x_rws M_law) 2054 = some (2054, .iaload, 1, 0, 0, 0) := by decide +kernel
theorem lr_2055 : x_row (x_rws M_law) 2055 = some (2055, .aload_n 0, 1, 0, 0, 0) := by decide +kernel
theorem lr_2056 : x_row (x_rws M_law) 2056 = some (2056, .iload_n 3, 1, 0, 0, 0) := by decide +kernel
theorem lr_2057 : x_row (x_rws M_law) 2057 = some (2057, .iconst 3, 1, 0, 0, 0) := by decide +kernel
theorem lr_2058 : x_row (x_rws M_law) 2058 = some (2058, .iadd, 1, 0, 0, 0) := by decide +kernel
theorem lr_2059 : x_row (x_rws M_law) 2059 = some (2059, .iaload, 1, 0, 0, 0) := by decide +kernel
theorem lr_2060 : x_row (x_rws M_law) 2060 = some (2060, .invokevirtual 271, 3, 348, 3, 0) := by decide +kernel
theorem lr_2063 : x_row (x_rws M_law) 2063 = some (2063, .pop, 1, 0, 0, 0) := by decide +kernel
theorem lr_2064 : x_row (x_rws M_law) 2064 = some (2064, .goto 304, 3, 0, 0, 0) := by decide +kernel
theorem lr_2067 : x_row (x_rws M_law) 2067 = some (2067, .aload_n 1, 1, 0, 0, 0) := by decide +kernel
theorem lr_2068 : x_row (x_rws M_law) 2068 = some (2068, .aload_n 0, 1, 0, 0, 0) := by decide +kernel
theorem lr_2069 : x_row (x_rws M_law) 2069 = some (2069, .iload_n 3, 1, 0, 0, 0) := by decide +kernel
theorem lr_2070 : x_row (x_rws M_law) 2070 = some (2070, .iconst 1, 1, 0, 0, 0) := by decide +kernel
theorem lr_2071 : x_row (x_rws M_law) 2071 = some (2071, .iadd, 1, 0, 0, 0) := by decide +kernel
theorem lr_2072 : x_row (x_rws M_law) 2072 = some (2072, .iaload, 1, 0, 0, 0) := by decide +kernel
theorem lr_2073 : x_row (x_rws M_law) 2073 = some (2073, .aload_n 0, 1, 0, 0, 0) := by decide +kernel
theorem lr_2074 : x_row (x_rws M_law) 2074 = some (2074, .iload_n 3, 1, 0, 0, 0) := by decide +kernel
theorem lr_2075 : x_row (x_rws M_law) 2075 = some (2075, .iconst 2, 1, 0, 0, 0) := by decide +kernel
theorem lr_2076 : x_row (x_rws M_law) 2076 = some (2076, .iadd, 1, 0, 0, 0) := by decide +kernel
theorem lr_2077 : x_row (x_rws M_law) 2077 = some (2077, .iaload, 1, 0, 0, 0) := by decide +kernel
theorem lr_2078 : x_row (x_rws M_law) 2078 = some (2078, .aload_n 0, 1, 0, 0, 0) := by decide +kernel
theorem lr_2079 : x_row (x_rws M_law) 2079 = some (2079, .iload_n 3, 1, 0, 0, 0) := by decide +kernel
theorem lr_2080 : x_row (x_rws M_law) 2080 = some (2080, .iconst 3, 1, 0, 0, 0) := by decide +kernel
theorem lr_2081 : x_row (x_rws M_law) 2081 = some (2081, .iadd, 1, 0, 0, 0) := by decide +kernel
theorem lr_2082 : x_row (x_rws M_law) 2082 = some (2082, .iaload, 1, 0, 0, 0) := by decide +kernel
theorem lr_2083 : x_row (x_rws M_law) 2083 = some (2083, .aload_n 0, 1, 0, 0, 0) := by decide +kernel
theorem lr_2084 : x_row (x_rws M_law) 2084 = some (2084, .iload_n 3, 1, 0, 0, 0) := by decide +kernel
theorem lr_2085 : x_row (x_rws M_law) 2085 = some (2085, .iconst 4, 1, 0, 0, 0) := by decide +kernel
theorem lr_2086 : x_row (x_rws M_law) 2086 = some (2086, .iadd, 1, 0, 0, 0) := by decide +kernel
theorem lr_2087 : x_row (x_rws M_law) 2087 = some (2087, .iaload, 1, 0, 0, 0) := by decide +kernel
theorem lr_2088 : x_row (x_rws M_law) 2088 = some (2088, .invokevirtual 272, 3, 176, 4, 0) := by decide +kernel
theorem lr_2091 : x_row (x_rws M_law) 2091 = some (2091, .pop, 1, 0, 0, 0) := by decide +kernel
theorem lr_2092 : x_row (x_rws M_law) 2092 = some (2092, .aload_n 2, 1, 0, 0, 0) := by decide +kernel
theorem lr_2093 : x_row (x_rws M_law) 2093 = some (2093, .aload_n 0, 1, 0, 0, 0) := by decide +kernel
theorem lr_2094 : x_row (x_rws M_law) 2094 = some (2094, .iload_n 3, 1, 0, 0, 0) := by decide +kernel
theorem lr_2095 : x_row (x_rws M_law) 2095 = some (2095, .iconst 1, 1, 0, 0, 0) := by decide +kernel
theorem lr_2096 : x_row (x_rws M_law) 2096 = some (2096, .iadd, 1, 0, 0, 0) := by decide +kernel
theorem lr_2097 : x_row (x_rws M_law) 2097 = some (2097, .iaload, 1, 0, 0, 0) := by decide +kernel
theorem lr_2098 : x_row (x_rws M_law) 2098 = some (2098, .aload_n 0, 1, 0, 0, 0) := by decide +kernel
theorem lr_2099 : x_row (x_rws M_law) 2099 = some (2099, .iload_n 3, 1, 0, 0, 0) := by decide +kernel
theorem lr_2100 : x_row (x_rws M_law) 2100 = some (2100, .iconst 2, 1, 0, 0, 0) := by decide +kernel
theorem lr_2101 : x_row (x_rws M_law) 2101 = some (2101, .iadd, 1, 0, 0, 0) := by decide +kernel
theorem lr_2102 : x_row (x_rws M_law) 2102 = some (2102, .iaload, 1, 0, 0, 0) := by decide +kernel
theorem lr_2103 : x_row (x_rws M_law) 2103 = some (2103, .aload_n 0, 1, 0, 0, 0) := by decide +kernel
theorem lr_2104 : x_row (x_rws M_law) 2104 = some (2104, .iload_n 3, 1, 0, 0, 0) := by decide +kernel
theorem lr_2105 : x_row (x_rws M_law) 2105 = some (2105, .iconst 3, 1, 0, 0, 0) := by decide +kernel
theorem lr_2106 : x_row (x_rws M_law) 2106 = some (2106, .iadd, 1, 0, 0, 0) := by decide +kernel
theorem lr_2107 : x_row (x_rws M_law) 2107 = some (2107, .iaload, 1, 0, 0, 0) := by decide +kernel
theorem lr_2108 : x_row (x_rws M_law) 2108 = some (2108, .aload_n 0, 1, 0, 0, 0) := by decide +kernel
theorem lr_2109 : x_row (x_rws M_law) 2109 = some (2109, .iload_n 3, 1, 0, 0, 0) := by decide +kernel
theorem lr_2110 : x_row (x_rws M_law) 2110 = some (2110, .iconst 4, 1, 0, 0, 0) := by decide +kernel
theorem lr_2111 : x_row (x_rws M_law) 2111 = some (2111, .iadd, 1, 0, 0, 0) := by decide +kernel
theorem lr_2112 : x_row (x_rws M_law) 2112 = some (2112, .iaload, 1, 0, 0, 0) := by decide +kernel
theorem lr_2113 : x_row (x_rws M_law) 2113 = some (2113, .invokevirtual 276, 3, 349, 4, 0) := by decide +kernel
theorem lr_2116 : x_row (x_rws M_law) 2116 = some (2116, .pop, 1, 0, 0, 0) := by decide +kernel
theorem lr_2117 : x_row (x_rws M_law) 2117 = some (2117, .goto 251, 3, 0, 0, 0) := by decide +kernel
theorem lr_2120 : x_row (x_rws M_law) 2120 = some (2120, .aload_n 1, 1, 0, 0, 0) := by decide +kernel
theorem lr_2121 : x_row (x_rws M_law) 2121 = some (2121, .aload_n 0, 1, 0, 0, 0) := by decide +kernel
theorem lr_2122 : x_row (x_rws M_law) 2122 = some (2122, .iload_n 3, 1, 0, 0, 0) := by decide +kernel
theorem lr_2123 : x_row (x_rws M_law) 2123 = some (2123, .iconst 1, 1, 0, 0, 0) := by decide +kernel
theorem lr_2124 : x_row (x_rws M_law) 2124 = some (2124, .iadd, 1, 0, 0, 0) := by decide +kernel
theorem lr_2125 : x_row (x_rws M_law) 2125 = some (2125, .iaload, 1, 0, 0, 0) := by decide +kernel
theorem lr_2126 : x_row (x_rws M_law) 2126 = some (2126, .invokevirtual 277, 3, 119, 1, 0) := by decide +kernel
theorem lr_2129 : x_row (x_rws M_law) 2129 = some (2129, .pop, 1, 0, 0, 0) := by decide +kernel
theorem lr_2130 : x_row (x_rws M_law) 2130 = some (2130, .aload_n 2, 1, 0, 0, 0) := by decide +kernel
theorem lr_2131 : x_row (x_rws M_law) 2131 = some (2131, .aload_n 0, 1, 0, 0, 0) := by decide +kernel
theorem lr_2132 : x_row (x_rws M_law) 2132 = some (2132, .iload_n 3, 1, 0, 0, 0) := by decide +kernel
theorem lr_2133 : x_row (x_rws M_law) 2133 = some (2133, .iconst 1, 1, 0, 0, 0) := by decide +kernel
theorem lr_2134 : x_row (x_rws M_law) 2134 = some (2134, .iadd, 1, 0, 0, 0) := by decide +kernel
theorem lr_2135 : x_row (x_rws M_law) 2135 = some (2135, .iaload, 1, 0, 0, 0) := by decide +kernel
theorem lr_2136 : x_row (x_rws M_law) 2136 = some (2136, .invokevirtual 280, 3, 350, 1, 0) := by decide +kernel
theorem lr_2139 : x_row (x_rws M_law) 2139 = some (2139, .pop, 1, 0, 0, 0) := by decide +kernel
theorem lr_2140 : x_row (x_rws M_law) 2140 = some (2140, .goto 228, 3, 0, 0, 0) := by decide +kernel
theorem lr_2143 : x_row (x_rws M_law) 2143 = some (2143, .aload_n 1, 1, 0, 0, 0) := by decide +kernel
theorem lr_2144 : x_row (x_rws M_law) 2144 = some (2144, .aload_n 0, 1, 0, 0, 0) := by decide +kernel
theorem lr_2145 : x_row (x_rws M_law) 2145 = some (2145, .iload_n 3, 1, 0, 0, 0) := by decide +kernel
theorem lr_2146 : x_row (x_rws M_law) 2146 = some (2146, .iconst 1, 1, 0, 0, 0) := by decide +kernel
theorem lr_2147 : x_row (x_rws M_law) 2147 = some (2147, .iadd, 1, 0, 0, 0) := by decide +kernel
theorem lr_2148 : x_row (x_rws M_law) 2148 = some (2148, .iaload, 1, 0, 0, 0) := by decide +kernel
theorem lr_2149 : x_row (x_rws M_law) 2149 = some (2149, .invokevirtual 281, 3, 177, 1, 0) := by decide +kernel
theorem lr_2152 : x_row (x_rws M_law) 2152 = some (2152, .pop, 1, 0, 0, 0) := by decide +kernel
theorem lr_2153 : x_row (x_rws M_law) 2153 = some (2153, .aload_n 2, 1, 0, 0, 0) := by decide +kernel
theorem lr_2154 : x_row (x_rws M_law) 2154 = some (2154, .aload_n 0, 1, 0, 0, 0) := by decide +kernel
theorem lr_2155 : x_row (x_rws M_law) 2155 = some (2155, .iload_n 3, 1, 0, 0, 0) := by decide +kernel
theorem lr_2156 : x_row (x_rws M_law) 2156 = some (2156, .iconst 1, 1, 0, 0, 0) := by decide +kernel
theorem lr_2157 : x_row (x_rws M_law) 2157 = some (2157, .iadd, 1, 0, 0, 0) := by decide +kernel
theorem lr_2158 : x_row (x_rws M_law) 2158 = some (2158, .iaload, 1, 0, 0, 0) := by decide +kernel
theorem lr_2159 : x_row (x_rws M_law) 2159 = some (2159, .invokevirtual 284, 3, 197, 1, 0) := by decide +kernel
theorem lr_2162 : x_row (x_rws M_law) 2162 = some (2162, .pop, 1, 0, 0, 0) := by decide +kernel
theorem lr_2163 : x_row (x_rws M_law) 2163 = some (2163, .goto 205, 3, 0, 0, 0) := by decide +kernel
theorem lr_2166 : x_row (x_rws M_law) 2166 = some (2166, .aload_n 1, 1, 0, 0, 0) := by decide +kernel
theorem lr_2167 : x_row (x_rws M_law) 2167 = some (2167, .aload_n 0, 1, 0, 0, 0) := by decide +kernel
theorem lr_2168 : x_row (x_rws M_law) 2168 = some (2168, .iload_n 3, 1, 0, 0, 0) := by decide +kernel
theorem lr_2169 : x_row (x_rws M_law) 2169 = some (2169, .iconst 1, 1, 0, 0, 0) := by decide +kernel
theorem lr_2170 : x_row (x_rws M_law) 2170 = some (2170, .iadd, 1, 0, 0, 0) := by decide +kernel
theorem lr_2171 : x_row (x_rws M_law) 2171 = some (2171, .iaload, 1, 0, 0, 0) := by decide +kernel
theorem lr_2172 : x_row (x_rws M_law) 2172 = some (2172, .invokevirtual 285, 3, 178, 1, 0) := by decide +kernel
theorem lr_2175 : x_row (x_rws M_law) 2175 = some (2175, .pop, 1, 0, 0, 0) := by decide +kernel
theorem lr_2176 : x_row (x_rws M_law) 2176 = some (2176, .aload_n 2, 1, 0, 0, 0) := by decide +kernel
theorem lr_2177 : x_row (x_rws M_law) 2177 = some (2177, .aload_n 0, 1, 0, 0, 0) := by decide +kernel
theorem lr_2178 : x_row (x_rws M_law) 2178 = some (2178, .iload_n 3, 1, 0, 0, 0) := by decide +kernel
theorem lr_2179 : x_row (x_rws M_law) 2179 = some (2179, .iconst 1, 1, 0, 0, 0) := by decide +kernel
theorem lr_2180 : x_row (x_rws M_law) 2180 = some (2180, .iadd, 1, 0, 0, 0) := by decide +kernel
theorem lr_2181 : x_row (x_rws M_law) 2181 = some (2181, .iaload, 1, 0, 0, 0) := by decide +kernel
theorem lr_2182 : x_row (x_rws M_law) 2182 = some (2182, .invokevirtual 288, 3, 198, 1, 0) := by decide +kernel
theorem lr_2185 : x_row (x_rws M_law) 2185 = some (2185, .pop, 1, 0, 0, 0) := by decide +kernel
theorem lr_2186 : x_row (x_rws M_law) 2186 = some (2186, .goto 182, 3, 0, 0, 0) := by decide +kernel
theorem lr_2189 : x_row (x_rws M_law) 2189 = some (2189, .aload_n 1, 1, 0, 0, 0) := by decide +kernel
theorem lr_2190 : x_row (x_rws M_law) 2190 = some (2190, .aload_n 0, 1, 0, 0, 0) := by decide +kernel
theorem lr_2191 : x_row (x_rws M_law) 2191 = some (2191, .iload_n 3, 1, 0, 0, 0) := by decide +kernel
theorem lr_2192 : x_row (x_rws M_law) 2192 = some (2192, .iconst 1, 1, 0, 0, 0) := by decide +kernel
theorem lr_2193 : x_row (x_rws M_law) 2193 = some (2193, .iadd, 1, 0, 0, 0) := by decide +kernel
theorem lr_2194 : x_row (x_rws M_law) 2194 = some (2194, .iaload, 1, 0, 0, 0) := by decide +kernel
theorem lr_2195 : x_row (x_rws M_law) 2195 = some (2195, .aload_n 0, 1, 0, 0, 0) := by decide +kernel
theorem lr_2196 : x_row (x_rws M_law) 2196 = some (2196, .iload_n 3, 1, 0, 0, 0) := by decide +kernel
theorem lr_2197 : x_row (x_rws M_law) 2197 = some (2197, .iconst 2, 1, 0, 0, 0) := by decide +kernel
theorem lr_2198 : x_row (x_rws M_law) 2198 = some (2198, .iadd, 1, 0, 0, 0) := by decide +kernel
theorem lr_2199 : x_row (x_rws M_law) 2199 = some (2199, .iaload, 1, 0, 0, 0) := by decide +kernel
theorem lr_2200 : x_row (x_rws M_law) 2200 = some (2200, .aload_n 0, 1, 0, 0, 0) := by decide +kernel
theorem lr_2201 : x_row (x_rws M_law) 2201 = some (2201, .iload_n 3, 1, 0, 0, 0) := by decide +kernel
theorem lr_2202 : x_row (x_rws M_law) 2202 = some (2202, .iconst 3, 1, 0, 0, 0) := by decide +kernel
theorem lr_2203 : x_row (x_rws M_law) 2203 = some (2203, .iadd, 1, 0, 0, 0) := by decide +kernel
theorem lr_2204 : x_row (x_rws M_law) 2204 = some (2204, .iaload, 1, 0, 0, 0) := by decide +kernel
theorem lr_2205 : x_row (x_rws M_law) 2205 = some (2205, .invokevirtual 289, 3, 179, 3, 0) := by decide +kernel
theorem lr_2208 : x_row (x_rws M_law) 2208 = some (2208, .pop, 1, 0, 0, 0) := by decide +kernel
theorem lr_2209 : x_row (x_rws M_law) 2209 = some (2209, .aload_n 2, 1, 0, 0, 0) := by decide +kernel
theorem lr_2210 : x_row (x_rws M_law) 2210 = some (2210, .aload_n 0, 1, 0, 0, 0) := by decide +kernel
theorem lr_2211 : x_row (x_rws M_law) 2211 = some (2211, .iload_n 3, 1, 0, 0, 0) := by decide +kernel
theorem lr_2212 : x_row (x_rws M_law) 2212 = some (2212, .iconst 1, 1, 0, 0, 0) := by decide +kernel
theorem lr_2213 : x_row (x_rws M_law) 2213 = some (2213, .iadd, 1, 0, 0, 0) := by decide +kernel
theorem lr_2214 : x_row (x_rws M_law) 2214 = some (2214, .iaload, 1, 0, 0, 0) := by decide +kernel
theorem lr_2215 : x_row (x_rws M_law) 2215 = some (2215, .aload_n 0, 1, 0, 0, 0) := by decide +kernel
theorem lr_2216 : x_row (x_rws M_law) 2216 = some (2216, .iload_n 3, 1, 0, 0, 0) := by decide +kernel
theorem lr_2217 : x_row (x_rws M_law) 2217 = some (2217, .iconst 2, 1, 0, 0, 0) := by decide +kernel
theorem lr_2218 : x_row (x_rws M_law) 2218 = some (2218, .iadd, 1, 0, 0, 0) := by decide +kernel
theorem lr_2219 : x_row (x_rws M_law) 2219 = some (2219, .iaload, 1, 0, 0, 0) := by decide +kernel
theorem lr_2220 : x_row (x_rws M_law) 2220 = some (2220, .aload_n 0, 1, 0, 0, 0) := by decide +kernel
theorem lr_2221 : x_row (x_rws M_law) 2221 = some (2221, .iload_n 3, 1, 0, 0, 0) := by decide +kernel
theorem lr_2222 : x_row (x_rws M_law) 2222 = some (2222, .iconst 3, 1, 0, 0, 0) := by decide +kernel
theorem lr_2223 : x_row (x_rws M_law) 2223 = some (2223, .iadd, 1, 0, 0, 0) := by decide +kernel
theorem lr_2224 : x_row (x_rws M_law) 2224 = some (2224, .iaload, 1, 0, 0, 0) := by decide +kernel
theorem lr_2225 : x_row (x_rws M_law) 2225 = some (2225, .invokevirtual 292, 3, 353, 3, 0) := by decide +kernel
theorem lr_2228 : x_row (x_rws M_law) 2228 = some (2228, .pop, 1, 0, 0, 0) := by decide +kernel
theorem lr_2229 : x_row (x_rws M_law) 2229 = some (2229, .goto 139, 3, 0, 0, 0) := by decide +kernel
theorem lr_2232 : x_row (x_rws M_law) 2232 = some (2232, .aload_n 1, 1, 0, 0, 0) := by decide +kernel
theorem lr_2233 : x_row (x_rws M_law) 2233 = some (2233, .aload_n 0, 1, 0, 0, 0) := by decide +kernel
theorem lr_2234 : x_row (x_rws M_law) 2234 = some (2234, .iload_n 3, 1, 0, 0, 0) := by decide +kernel
theorem lr_2235 : x_row (x_rws M_law) 2235 = some (2235, .iconst 1, 1, 0, 0, 0) := by decide +kernel
theorem lr_2236 : x_row (x_rws M_law) 2236 = some (2236, .iadd, 1, 0, 0, 0) := by decide +kernel
theorem lr_2237 : x_row (x_rws M_law) 2237 = some (2237, .iaload, 1, 0, 0, 0) := by decide +kernel
theorem lr_2238 : x_row (x_rws M_law) 2238 = some (2238, .aload_n 0, 1, 0, 0, 0) := by decide +kernel
theorem lr_2239 : x_row (x_rws M_law) 2239 = some (2239, .iload_n 3, 1, 0, 0, 0) := by decide +kernel
theorem lr_2240 : x_row (x_rws M_law) 2240 = some (2240, .iconst 2, 1, 0, 0, 0) := by decide +kernel
theorem lr_2241 : x_row (x_rws M_law) 2241 = some (2241, .iadd, 1, 0, 0, 0) := by decide +kernel
theorem lr_2242 : x_row (x_rws M_law) 2242 = some (2242, .iaload, 1, 0, 0, 0) := by decide +kernel
theorem lr_2243 : x_row (x_rws M_law) 2243 = some (2243, .aload_n 0, 1, 0, 0, 0) := by decide +kernel
theorem lr_2244 : x_row (x_rws M_law) 2244 = some (2244, .iload_n 3, 1, 0, 0, 0) := by decide +kernel
theorem lr_2245 : x_row (x_rws M_law) 2245 = some (2245, .iconst 3, 1, 0, 0, 0) := by decide +kernel
theorem lr_2246 : x_row (x_rws M_law) 2246 = some (2246, .iadd, 1, 0, 0, 0) := by decide +kernel
theorem lr_2247 : x_row (x_rws M_law) 2247 = some (2247, .iaload, 1, 0, 0, 0) := by decide +kernel
theorem lr_2248 : x_row (x_rws M_law) 2248 = some (2248, .i2l, 1, 0, 0, 0) := by decide +kernel
theorem lr_2249 : x_row (x_rws M_law) 2249 = some (2249, .bipush 32, 2, 0, 0, 0) := by decide +kernel
theorem lr_2251 : x_row (x_rws M_law) 2251 = some (2251, .lshl, 1, 0, 0, 0) := by decide +kernel
theorem lr_2252 : x_row (x_rws M_law) 2252 = some (2252, .aload_n 0, 1, 0, 0, 0) := by decide +kernel
theorem lr_2253 : x_row (x_rws M_law) 2253 = some (2253, .iload_n 3, 1, 0, 0, 0) := by decide +kernel
theorem lr_2254 : x_row (x_rws M_law) 2254 = some (2254, .iconst 4, 1, 0, 0, 0) := by decide +kernel
theorem lr_2255 : x_row (x_rws M_law) 2255 = some (2255, .iadd, 1, 0, 0, 0) := by decide +kernel
theorem lr_2256 : x_row (x_rws M_law) 2256 = some (2256, .iaload, 1, 0, 0, 0) := by decide +kernel
theorem lr_2257 : x_row (x_rws M_law) 2257 = some (2257, .i2l, 1, 0, 0, 0) := by decide +kernel
theorem lr_2258 : x_row (x_rws M_law) 2258 = some (2258, .ldc2_w 293, 3, 4294967295, 0, 0) := by decide +kernel
theorem lr_2261 : x_row (x_rws M_law) 2261 = some (2261, .land, 1, 0, 0, 0) := by decide +kernel
theorem lr_2262 : x_row (x_rws M_law) 2262 = some (2262, .lor, 1, 0, 0, 0) := by decide +kernel
theorem lr_2263 : x_row (x_rws M_law) 2263 = some (2263, .invokevirtual 295, 3, 180, 3, 0) := by decide +kernel
theorem lr_2266 : x_row (x_rws M_law) 2266 = some (2266, .pop, 1, 0, 0, 0) := by decide +kernel
theorem lr_2267 : x_row (x_rws M_law) 2267 = some (2267, .aload_n 2, 1, 0, 0, 0) := by decide +kernel
theorem lr_2268 : x_row (x_rws M_law) 2268 = some (2268, .aload_n 0, 1, 0, 0, 0) := by decide +kernel
theorem lr_2269 : x_row (x_rws M_law) 2269 = some (2269, .iload_n 3, 1, 0, 0, 0) := by decide +kernel
theorem lr_2270 : x_row (x_rws M_law) 2270 = some (2270, .iconst 1, 1, 0, 0, 0) := by decide +kernel
theorem lr_2271 : x_row (x_rws M_law) 2271 = some (2271, .iadd, 1, 0, 0, 0) := by decide +kernel
theorem lr_2272 : x_row (x_rws M_law) 2272 = some (2272, .iaload, 1, 0, 0, 0) := by decide +kernel
theorem lr_2273 : x_row (x_rws M_law) 2273 = some (2273, .aload_n 0, 1, 0, 0, 0) := by decide +kernel
theorem lr_2274 : x_row (x_rws M_law) 2274 = some (2274, .iload_n 3, 1, 0, 0, 0) := by decide +kernel
theorem lr_2275 : x_row (x_rws M_law) 2275 = some (2275, .iconst 2, 1, 0, 0, 0) := by decide +kernel
theorem lr_2276 : x_row (x_rws M_law) 2276 = some (2276, .iadd, 1, 0, 0, 0) := by decide +kernel
theorem lr_2277 : x_row (x_rws M_law) 2277 = some (2277, .iaload, 1, 0, 0, 0) := by decide +kernel
theorem lr_2278 : x_row (x_rws M_law) 2278 = some (2278, .aload_n 0, 1, 0, 0, 0) := by decide +kernel
theorem lr_2279 : x_row (x_rws M_law) 2279 = some (2279, .iload_n 3, 1, 0, 0, 0) := by decide +kernel
theorem lr_2280 : x_row (x_rws M_law) 2280 = some (2280, .iconst 3, 1, 0, 0, 0) := by decide +kernel
theorem lr_2281 : x_row (x_rws M_law) 2281 = some (2281, .iadd, 1, 0, 0, 0) := by decide +kernel
theorem lr_2282 : x_row (x_rws M_law) 2282 = some (2282, .iaload, 1, 0, 0, 0) := by decide +kernel
theorem lr_2283 : x_row (x_rws M_law) 2283 = some (2283, .i2l, 1, 0, 0, 0) := by decide +kernel
theorem lr_2284 : x_row (x_rws M_law) 2284 = some (2284, .bipush 32, 2, 0, 0, 0) := by decide +kernel
theorem lr_2286 : x_row (x_rws M_law) 2286 = some (2286, .lshl, 1, 0, 0, 0) := by decide +kernel
theorem lr_2287 : x_row (x_rws M_law) 2287 = some (2287, .aload_n 0, 1, 0, 0, 0) := by decide +kernel
theorem lr_2288 : x_row (x_rws M_law) 2288 = some (2288, .iload_n 3, 1, 0, 0, 0) := by decide +kernel
theorem lr_2289 : x_row (x_rws M_law) 2289 = some (2289, .iconst 4, 1, 0, 0, 0) := by decide +kernel
theorem lr_2290 : x_row (x_rws M_law) 2290 = some (2290, .iadd, 1, 0, 0, 0) := by decide +kernel
theorem lr_2291 : x_row (x_rws M_law) 2291 = some (2291, .iaload, 1, 0, 0, 0) := by decide +kernel
theorem lr_2292 : x_row (x_rws M_law) 2292 = some (2292, .i2l, 1, 0, 0, 0) := by decide +kernel
theorem lr_2293 : x_row (x_rws M_law) 2293 = some (2293, .ldc2_w 293, 3, 4294967295, 0, 0) := by decide +kernel
theorem lr_2296 : x_row (x_rws M_law) 2296 = some (2296, .land, 1, 0, 0, 0) := by decide +kernel
theorem lr_2297 : x_row (x_rws M_law) 2297 = some (2297, .lor, 1, 0, 0, 0) := by decide +kernel
theorem lr_2298 : x_row (x_rws M_law) 2298 = some (2298, .invokevirtual 299, 3, 354, 3, 0) := by decide +kernel
theorem lr_2301 : x_row (x_rws M_law) 2301 = some (2301, .pop, 1, 0, 0, 0) := by decide +kernel
theorem lr_2302 : x_row (x_rws M_law) 2302 = some (2302, .goto 66, 3, 0, 0, 0) := by decide +kernel
theorem lr_2305 : x_row (x_rws M_law) 2305 = some (2305, .aload_n 1, 1, 0, 0, 0) := by decide +kernel
theorem lr_2306 : x_row (x_rws M_law) 2306 = some (2306, .aload_n 0, 1, 0, 0, 0) := by decide +kernel
theorem lr_2307 : x_row (x_rws M_law) 2307 = some (2307, .iload_n 3, 1, 0, 0, 0) := by decide +kernel
theorem lr_2308 : x_row (x_rws M_law) 2308 = some (2308, .iconst 1, 1, 0, 0, 0) := by decide +kernel
theorem lr_2309 : x_row (x_rws M_law) 2309 = some (2309, .iadd, 1, 0, 0, 0) := by decide +kernel
theorem lr_2310 : x_row (x_rws M_law) 2310 = some (2310, .iaload, 1, 0, 0, 0) := by decide +kernel
theorem lr_2311 : x_row (x_rws M_law) 2311 = some (2311, .aload_n 0, 1, 0, 0, 0) := by decide +kernel
theorem lr_2312 : x_row (x_rws M_law) 2312 = some (2312, .iload_n 3, 1, 0, 0, 0) := by decide +kernel
theorem lr_2313 : x_row (x_rws M_law) 2313 = some (2313, .iconst 2, 1, 0, 0, 0) := by decide +kernel
theorem lr_2314 : x_row (x_rws M_law) 2314 = some (2314, .iadd, 1, 0, 0, 0) := by decide +kernel
theorem lr_2315 : x_row (x_rws M_law) 2315 = some (2315, .iaload, 1, 0, 0, 0) := by decide +kernel
theorem lr_2316 : x_row (x_rws M_law) 2316 = some (2316, .aload_n 0, 1, 0, 0, 0) := by decide +kernel
theorem lr_2317 : x_row (x_rws M_law) 2317 = some (2317, .iload_n 3, 1, 0, 0, 0) := by decide +kernel
theorem lr_2318 : x_row (x_rws M_law) 2318 = some (2318, .iconst 3, 1, 0, 0, 0) := by decide +kernel
theorem lr_2319 : x_row (x_rws M_law) 2319 = some (2319, .iadd, 1, 0, 0, 0) := by decide +kernel
theorem lr_2320 : x_row (x_rws M_law) 2320 = some (2320, .iaload, 1, 0, 0, 0) := by decide +kernel
theorem lr_2321 : x_row (x_rws M_law) 2321 = some (2321, .aload_n 0, 1, 0, 0, 0) := by decide +kernel
theorem lr_2322 : x_row (x_rws M_law) 2322 = some (2322, .iload_n 3, 1, 0, 0, 0) := by decide +kernel
theorem lr_2323 : x_row (x_rws M_law) 2323 = some (2323, .iconst 4, 1, 0, 0, 0) := by decide +kernel
theorem lr_2324 : x_row (x_rws M_law) 2324 = some (2324, .iadd, 1, 0, 0, 0) := by decide +kernel
theorem lr_2325 : x_row (x_rws M_law) 2325 = some (2325, .iaload, 1, 0, 0, 0) := by decide +kernel
theorem lr_2326 : x_row (x_rws M_law) 2326 = some (2326, .aload_n 0, 1, 0, 0, 0) := by decide +kernel
theorem lr_2327 : x_row (x_rws M_law) 2327 = some (2327, .iload_n 3, 1, 0, 0, 0) := by decide +kernel
theorem lr_2328 : x_row (x_rws M_law) 2328 = some (2328, .iconst 5, 1, 0, 0, 0) := by decide +kernel
theorem lr_2329 : x_row (x_rws M_law) 2329 = some (2329, .iadd, 1, 0, 0, 0) := by decide +kernel
theorem lr_2330 : x_row (x_rws M_law) 2330 = some (2330, .iaload, 1, 0, 0, 0) := by decide +kernel
theorem lr_2331 : x_row (x_rws M_law) 2331 = some (2331, .invokevirtual 300, 3, 181, 5, 0) := by decide +kernel
theorem lr_2334 : x_row (x_rws M_law) 2334 = some (2334, .pop, 1, 0, 0, 0) := by decide +kernel
theorem lr_2335 : x_row (x_rws M_law) 2335 = some (2335, .aload_n 2, 1, 0, 0, 0) := by decide +kernel
theorem lr_2336 : x_row (x_rws M_law) 2336 = some (2336, .aload_n 0, 1, 0, 0, 0) := by decide +kernel
theorem lr_2337 : x_row (x_rws M_law) 2337 = some (2337, .iload_n 3, 1, 0, 0, 0) := by decide +kernel
theorem lr_2338 : x_row (x_rws M_law) 2338 = some (2338, .iconst 1, 1, 0, 0, 0) := by decide +kernel
theorem lr_2339 : x_row (x_rws M_law) 2339 = some (2339, .iadd, 1, 0, 0, 0) := by decide +kernel
theorem lr_2340 : x_row (x_rws M_law) 2340 = some (2340, .iaload, 1, 0, 0, 0) := by decide +kernel
theorem lr_2341 : x_row (x_rws M_law) 2341 = some (2341, .aload_n 0, 1, 0, 0, 0) := by decide +kernel
theorem lr_2342 : x_row (x_rws M_law) 2342 = some (2342, .iload_n 3, 1, 0, 0, 0) := by decide +kernel
theorem lr_2343 : x_row (x_rws M_law) 2343 = some (2343, .iconst 2, 1, 0, 0, 0) := by decide +kernel
theorem lr_2344 : x_row (x_rws M_law) 2344 = some (2344, .iadd, 1, 0, 0, 0) := by decide +kernel
theorem lr_2345 : x_row (x_rws M_law) 2345 = some (2345, .iaload, 1, 0, 0, 0) := by decide +kernel
theorem lr_2346 : x_row (x_rws M_law) 2346 = some (2346, .aload_n 0, 1, 0, 0, 0) := by decide +kernel
theorem lr_2347 : x_row (x_rws M_law) 2347 = some (2347, .iload_n 3, 1, 0, 0, 0) := by decide +kernel
theorem lr_2348 : x_row (x_rws M_law) 2348 = some (2348, .iconst 3, 1, 0, 0, 0) := by decide +kernel
theorem lr_2349 : x_row (x_rws M_law) 2349 = some (2349, .iadd, 1, 0, 0, 0) := by decide +kernel
theorem lr_2350 : x_row (x_rws M_law) 2350 = some (2350, .iaload, 1, 0, 0, 0) := by decide +kernel
theorem lr_2351 : x_row (x_rws M_law) 2351 = some (2351, .aload_n 0, 1, 0, 0, 0) := by decide +kernel
theorem lr_2352 : x_row (x_rws M_law) 2352 = some (2352, .iload_n 3, 1, 0, 0, 0) := by decide +kernel
theorem lr_2353 : x_row (x_rws M_law) 2353 = some (2353, .iconst 4, 1, 0, 0, 0) := by decide +kernel
theorem lr_2354 : x_row (x_rws M_law) 2354 = some (2354, .iadd, 1, 0, 0, 0) := by decide +kernel
theorem lr_2355 : x_row (x_rws M_law) 2355 = some (2355, .iaload, 1, 0, 0, 0) := by decide +kernel
theorem lr_2356 : x_row (x_rws M_law) 2356 = some (2356, .aload_n 0, 1, 0, 0, 0) := by decide +kernel
theorem lr_2357 : x_row (x_rws M_law) 2357 = some (2357, .iload_n 3, 1, 0, 0, 0) := by decide +kernel
theorem lr_2358 : x_row (x_rws M_law) 2358 = some (2358, .iconst 5, 1, 0, 0, 0) := by decide +kernel
theorem lr_2359 : x_row (x_rws M_law) 2359 = some (2359, .iadd, 1, 0, 0, 0) := by decide +kernel
theorem lr_2360 : x_row (x_rws M_law) 2360 = some (2360, .iaload, 1, 0, 0, 0) := by decide +kernel
theorem lr_2361 : x_row (x_rws M_law) 2361 = some (2361, .invokevirtual 303, 3, 355, 5, 0) := by decide +kernel
theorem lr_2364 : x_row (x_rws M_law) 2364 = some (2364, .pop, 1, 0, 0, 0) := by decide +kernel
theorem lr_2365 : x_row (x_rws M_law) 2365 = some (2365, .goto 3, 3, 0, 0, 0) := by decide +kernel
theorem lr_2368 : x_row (x_rws M_law) 2368 = some (2368, .iinc 3 6, 3, 0, 0, 0) := by decide +kernel
theorem lr_2371 : x_row (x_rws M_law) 2371 = some (2371, .goto (-2353), 3, 0, 0, 0) := by decide +kernel
theorem lr_2374 : x_row (x_rws M_law) 2374 = some (2374, .iconst 1, 1, 0, 0, 0) := by decide +kernel
/-! ===== the law, piece by piece ===== -/
set_option maxRecDepth 100000 in
theorem x_hd (h : xH) (L : Nat) (xs : Nat → Int32) (i : Int32) {P : Option Value × xH × Nat × Nat → Prop} (k1 : Int32.ofNat L - 6 < i → x_R x_mt (some (L, xs)) 10 M_law (2374, [(3, .int i), (2, .ref 75), (1, .ref 0), (0, .ref x_scr)], [], h, 98, 10728) P) (k2 : ¬ Int32.ofNat L - 6 < i → x_R x_mt (some (L, xs)) 10 M_law (27, [(3, .int i), (2, .ref 75), (1, .ref 0), (0, .ref x_scr)], [], h, 98, 10728) P) : x_R x_mt (some (L, xs)) 10 M_law (18, [(3, .int i), (2, .ref 75), (1, .ref 0), (0, .ref x_scr)], [], h, 98, 10728) P := by
  refine x_R.steps 5 (c' := (24, [(3, .int i), (2, .ref 75), (1, .ref 0), (0, .ref x_scr)], [.int (Int32.ofNat L - 6), .int i], h, 98, 10728)) rfl ?_
  exact x_R.ite (p := Int32.ofNat L - 6 < i) (c1 := (2374, [(3, .int i), (2, .ref 75), (1, .ref 0), (0, .ref x_scr)], [], h, 98, 10728)) (c2 := (27, [(3, .int i), (2, .ref 75), (1, .ref 0), (0, .ref x_scr)], [], h, 98, 10728)) rfl k1 k2

set_option maxRecDepth 100000 in
theorem x_sw (h : xH) (L : Nat) (xs : Nat → Int32) (i : Int32) (h0 : ¬ (i < 0 ∨ L ≤ (i).toNatClampNeg)) (h1 : ¬ (i + 1 < 0 ∨ L ≤ (i + 1).toNatClampNeg)) (h2 : ¬ (i + 2 < 0 ∨ L ≤ (i + 2).toNatClampNeg)) (h3 : ¬ (i + 3 < 0 ∨ L ≤ (i + 3).toNatClampNeg)) (h4 : ¬ (i + 4 < 0 ∨ L ≤ (i + 4).toNatClampNeg)) (h5 : ¬ (i + 5 < 0 ∨ L ≤ (i + 5).toNatClampNeg)) {P : Option Value × xH × Nat × Nat → Prop} (kk : x_R x_mt (some (L, xs)) 10 M_law (33, [(3, .int i), (2, .ref 75), (1, .ref 0), (0, .ref x_scr)], [.int ((xs (i).toNatClampNeg) &&& 127)], h, 98, 10728) P) : x_R x_mt (some (L, xs)) 10 M_law (27, [(3, .int i), (2, .ref 75), (1, .ref 0), (0, .ref x_scr)], [], h, 98, 10728) P := by
  refine j_Lst (c' := (28, [(3, .int i), (2, .ref 75), (1, .ref 0), (0, .ref x_scr)], [.ref x_scr], h, 98, 10728)) lr_27 rfl ?_
  refine j_Lst (c' := (29, [(3, .int i), (2, .ref 75), (1, .ref 0), (0, .ref x_scr)], [.int i, .ref x_scr], h, 98, 10728)) lr_28 rfl ?_
  refine j_Lsl (c' := (30, [(3, .int i), (2, .ref 75), (1, .ref 0), (0, .ref x_scr)], [.int (xs (i).toNatClampNeg)], h, 98, 10728)) lr_29 rfl h0 ?_
  refine j_Lst (c' := (32, [(3, .int i), (2, .ref 75), (1, .ref 0), (0, .ref x_scr)], [.int 127, .int (xs (i).toNatClampNeg)], h, 98, 10728)) lr_30 rfl ?_
  refine j_Lst (c' := (33, [(3, .int i), (2, .ref 75), (1, .ref 0), (0, .ref x_scr)], [.int ((xs (i).toNatClampNeg) &&& 127)], h, 98, 10728)) lr_32 rfl ?_
  exact kk

set_option maxRecDepth 100000 in
theorem x_c0a (h : xH) (L : Nat) (xs : Nat → Int32) (i : Int32) (h0 : ¬ (i < 0 ∨ L ≤ (i).toNatClampNeg)) (h1 : ¬ (i + 1 < 0 ∨ L ≤ (i + 1).toNatClampNeg)) (h2 : ¬ (i + 2 < 0 ∨ L ≤ (i + 2).toNatClampNeg)) (h3 : ¬ (i + 3 < 0 ∨ L ≤ (i + 3).toNatClampNeg)) (h4 : ¬ (i + 4 < 0 ∨ L ≤ (i + 4).toNatClampNeg)) (h5 : ¬ (i + 5 < 0 ∨ L ≤ (i + 5).toNatClampNeg)) {P : Option Value × xH × Nat × Nat → Prop} (kk : x_R x_mt (some (L, xs)) 10 M_law (354, [(3, .int i), (2, .ref 75), (1, .ref 0), (0, .ref x_scr)], [.int (xs ((i + 5)).toNatClampNeg), .int (xs ((i + 4)).toNatClampNeg), .int (xs ((i + 3)).toNatClampNeg), .int (xs ((i + 2)).toNatClampNeg), .int (xs ((i + 1)).toNatClampNeg), .ref 0], h, 98, 10728) P) : x_R x_mt (some (L, xs)) 10 M_law (328, [(3, .int i), (2, .ref 75), (1, .ref 0), (0, .ref x_scr)], [], h, 98, 10728) P := by
  refine j_Lst (c' := (329, [(3, .int i), (2, .ref 75), (1, .ref 0), (0, .ref x_scr)], [.ref 0], h, 98, 10728)) lr_328 rfl ?_
  refine j_Lst (c' := (330, [(3, .int i), (2, .ref 75), (1, .ref 0), (0, .ref x_scr)], [.ref x_scr, .ref 0], h, 98, 10728)) lr_329 rfl ?_
  refine j_Lst (c' := (331, [(3, .int i), (2, .ref 75), (1, .ref 0), (0, .ref x_scr)], [.int i, .ref x_scr, .ref 0], h, 98, 10728)) lr_330 rfl ?_
  refine j_Lst (c' := (332, [(3, .int i), (2, .ref 75), (1, .ref 0), (0, .ref x_scr)], [.int 1, .int i, .ref x_scr, .ref 0], h, 98, 10728)) lr_331 rfl ?_
  refine j_Lst (c' := (333, [(3, .int i), (2, .ref 75), (1, .ref 0), (0, .ref x_scr)], [.int (i + 1), .ref x_scr, .ref 0], h, 98, 10728)) lr_332 rfl ?_
  refine j_Lsl (c' := (334, [(3, .int i), (2, .ref 75), (1, .ref 0), (0, .ref x_scr)], [.int (xs ((i + 1)).toNatClampNeg), .ref 0], h, 98, 10728)) lr_333 rfl h1 ?_
  refine j_Lst (c' := (335, [(3, .int i), (2, .ref 75), (1, .ref 0), (0, .ref x_scr)], [.ref x_scr, .int (xs ((i + 1)).toNatClampNeg), .ref 0], h, 98, 10728)) lr_334 rfl ?_
  refine j_Lst (c' := (336, [(3, .int i), (2, .ref 75), (1, .ref 0), (0, .ref x_scr)], [.int i, .ref x_scr, .int (xs ((i + 1)).toNatClampNeg), .ref 0], h, 98, 10728)) lr_335 rfl ?_
  refine j_Lst (c' := (337, [(3, .int i), (2, .ref 75), (1, .ref 0), (0, .ref x_scr)], [.int 2, .int i, .ref x_scr, .int (xs ((i + 1)).toNatClampNeg), .ref 0], h, 98, 10728)) lr_336 rfl ?_
  refine j_Lst (c' := (338, [(3, .int i), (2, .ref 75), (1, .ref 0), (0, .ref x_scr)], [.int (i + 2), .ref x_scr, .int (xs ((i + 1)).toNatClampNeg), .ref 0], h, 98, 10728)) lr_337 rfl ?_
  refine j_Lsl (c' := (339, [(3, .int i), (2, .ref 75), (1, .ref 0), (0, .ref x_scr)], [.int (xs ((i + 2)).toNatClampNeg), .int (xs ((i + 1)).toNatClampNeg), .ref 0], h, 98, 10728)) lr_338 rfl h2 ?_
  refine j_Lst (c' := (340, [(3, .int i), (2, .ref 75), (1, .ref 0), (0, .ref x_scr)], [.ref x_scr, .int (xs ((i + 2)).toNatClampNeg), .int (xs ((i + 1)).toNatClampNeg), .ref 0], h, 98, 10728)) lr_339 rfl ?_
  refine j_Lst (c' := (341, [(3, .int i), (2, .ref 75), (1, .ref 0), (0, .ref x_scr)], [.int i, .ref x_scr, .int (xs ((i + 2)).toNatClampNeg), .int (xs ((i + 1)).toNatClampNeg), .ref 0], h, 98, 10728)) lr_340 rfl ?_
  refine j_Lst (c' := (342, [(3, .int i), (2, .ref 75), (1, .ref 0), (0, .ref x_scr)], [.int 3, .int i, .ref x_scr, .int (xs ((i + 2)).toNatClampNeg), .int (xs ((i + 1)).toNatClampNeg), .ref 0], h, 98, 10728)) lr_341 rfl ?_
  refine j_Lst (c' := (343, [(3, .int i), (2, .ref 75), (1, .ref 0), (0, .ref x_scr)], [.int (i + 3), .ref x_scr, .int (xs ((i + 2)).toNatClampNeg), .int (xs ((i + 1)).toNatClampNeg), .ref 0], h, 98, 10728)) lr_342 rfl ?_
  refine j_Lsl (c' := (344, [(3, .int i), (2, .ref 75), (1, .ref 0), (0, .ref x_scr)], [.int (xs ((i + 3)).toNatClampNeg), .int (xs ((i + 2)).toNatClampNeg), .int (xs ((i + 1)).toNatClampNeg), .ref 0], h, 98, 10728)) lr_343 rfl h3 ?_
  refine j_Lst (c' := (345, [(3, .int i), (2, .ref 75), (1, .ref 0), (0, .ref x_scr)], [.ref x_scr, .int (xs ((i + 3)).toNatClampNeg), .int (xs ((i + 2)).toNatClampNeg), .int (xs ((i + 1)).toNatClampNeg), .ref 0], h, 98, 10728)) lr_344 rfl ?_
  refine j_Lst (c' := (346, [(3, .int i), (2, .ref 75), (1, .ref 0), (0, .ref x_scr)], [.int i, .ref x_scr, .int (xs ((i + 3)).toNatClampNeg), .int (xs ((i + 2)).toNatClampNeg), .int (xs ((i + 1)).toNatClampNeg), .ref 0], h, 98, 10728)) lr_345 rfl ?_
  refine j_Lst (c' := (347, [(3, .int i), (2, .ref 75), (1, .ref 0), (0, .ref x_scr)], [.int 4, .int i, .ref x_scr, .int (xs ((i + 3)).toNatClampNeg), .int (xs ((i + 2)).toNatClampNeg), .int (xs ((i + 1)).toNatClampNeg), .ref 0], h, 98, 10728)) lr_346 rfl ?_
  refine j_Lst (c' := (348, [(3, .int i), (2, .ref 75), (1, .ref 0), (0, .ref x_scr)], [.int (i + 4), .ref x_scr, .int (xs ((i + 3)).toNatClampNeg), .int (xs ((i + 2)).toNatClampNeg), .int (xs ((i + 1)).toNatClampNeg), .ref 0], h, 98, 10728)) lr_347 rfl ?_
  refine j_Lsl (c' := (349, [(3, .int i), (2, .ref 75), (1, .ref 0), (0, .ref x_scr)], [.int (xs ((i + 4)).toNatClampNeg), .int (xs ((i + 3)).toNatClampNeg), .int (xs ((i + 2)).toNatClampNeg), .int (xs ((i + 1)).toNatClampNeg), .ref 0], h, 98, 10728)) lr_348 rfl h4 ?_
  refine j_Lst (c' := (350, [(3, .int i), (2, .ref 75), (1, .ref 0), (0, .ref x_scr)], [.ref x_scr, .int (xs ((i + 4)).toNatClampNeg), .int (xs ((i + 3)).toNatClampNeg), .int (xs ((i + 2)).toNatClampNeg), .int (xs ((i + 1)).toNatClampNeg), .ref 0], h, 98, 10728)) lr_349 rfl ?_
  refine j_Lst (c' := (351, [(3, .int i), (2, .ref 75), (1, .ref 0), (0, .ref x_scr)], [.int i, .ref x_scr, .int (xs ((i + 4)).toNatClampNeg), .int (xs ((i + 3)).toNatClampNeg), .int (xs ((i + 2)).toNatClampNeg), .int (xs ((i + 1)).toNatClampNeg), .ref 0], h, 98, 10728)) lr_350 rfl ?_
  refine j_Lst (c' := (352, [(3, .int i), (2, .ref 75), (1, .ref 0), (0, .ref x_scr)], [.int 5, .int i, .ref x_scr, .int (xs ((i + 4)).toNatClampNeg), .int (xs ((i + 3)).toNatClampNeg), .int (xs ((i + 2)).toNatClampNeg), .int (xs ((i + 1)).toNatClampNeg), .ref 0], h, 98, 10728)) lr_351 rfl ?_
  refine j_Lst (c' := (353, [(3, .int i), (2, .ref 75), (1, .ref 0), (0, .ref x_scr)], [.int (i + 5), .ref x_scr, .int (xs ((i + 4)).toNatClampNeg), .int (xs ((i + 3)).toNatClampNeg), .int (xs ((i + 2)).toNatClampNeg), .int (xs ((i + 1)).toNatClampNeg), .ref 0], h, 98, 10728)) lr_352 rfl ?_
  refine j_Lsl (c' := (354, [(3, .int i), (2, .ref 75), (1, .ref 0), (0, .ref x_scr)], [.int (xs ((i + 5)).toNatClampNeg), .int (xs ((i + 4)).toNatClampNeg), .int (xs ((i + 3)).toNatClampNeg), .int (xs ((i + 2)).toNatClampNeg), .int (xs ((i + 1)).toNatClampNeg), .ref 0], h, 98, 10728)) lr_353 rfl h5 ?_
  exact kk

set_option maxRecDepth 100000 in
theorem x_c0b (h : xH) (L : Nat) (xs : Nat → Int32) (i : Int32) (h0 : ¬ (i < 0 ∨ L ≤ (i).toNatClampNeg)) (h1 : ¬ (i + 1 < 0 ∨ L ≤ (i + 1).toNatClampNeg)) (h2 : ¬ (i + 2 < 0 ∨ L ≤ (i + 2).toNatClampNeg)) (h3 : ¬ (i + 3 < 0 ∨ L ≤ (i + 3).toNatClampNeg)) (h4 : ¬ (i + 4 < 0 ∨ L ≤ (i + 4).toNatClampNeg)) (h5 : ¬ (i + 5 < 0 ∨ L ≤ (i + 5).toNatClampNeg)) (v : Int32) {P : Option Value × xH × Nat × Nat → Prop} (kk : x_R x_mt (some (L, xs)) 10 M_law (384, [(3, .int i), (2, .ref 75), (1, .ref 0), (0, .ref x_scr)], [.int (xs ((i + 5)).toNatClampNeg), .int (xs ((i + 4)).toNatClampNeg), .int (xs ((i + 3)).toNatClampNeg), .int (xs ((i + 2)).toNatClampNeg), .int (xs ((i + 1)).toNatClampNeg), .ref 75], h, 98, 10728) P) : x_R x_mt (some (L, xs)) 10 M_law (357, [(3, .int i), (2, .ref 75), (1, .ref 0), (0, .ref x_scr)], [.int v], h, 98, 10728) P := by
  refine j_Lst (c' := (358, [(3, .int i), (2, .ref 75), (1, .ref 0), (0, .ref x_scr)], [], h, 98, 10728)) lr_357 rfl ?_
  refine j_Lst (c' := (359, [(3, .int i), (2, .ref 75), (1, .ref 0), (0, .ref x_scr)], [.ref 75], h, 98, 10728)) lr_358 rfl ?_
  refine j_Lst (c' := (360, [(3, .int i), (2, .ref 75), (1, .ref 0), (0, .ref x_scr)], [.ref x_scr, .ref 75], h, 98, 10728)) lr_359 rfl ?_
  refine j_Lst (c' := (361, [(3, .int i), (2, .ref 75), (1, .ref 0), (0, .ref x_scr)], [.int i, .ref x_scr, .ref 75], h, 98, 10728)) lr_360 rfl ?_
  refine j_Lst (c' := (362, [(3, .int i), (2, .ref 75), (1, .ref 0), (0, .ref x_scr)], [.int 1, .int i, .ref x_scr, .ref 75], h, 98, 10728)) lr_361 rfl ?_
  refine j_Lst (c' := (363, [(3, .int i), (2, .ref 75), (1, .ref 0), (0, .ref x_scr)], [.int (i + 1), .ref x_scr, .ref 75], h, 98, 10728)) lr_362 rfl ?_
  refine j_Lsl (c' := (364, [(3, .int i), (2, .ref 75), (1, .ref 0), (0, .ref x_scr)], [.int (xs ((i + 1)).toNatClampNeg), .ref 75], h, 98, 10728)) lr_363 rfl h1 ?_
  refine j_Lst (c' := (365, [(3, .int i), (2, .ref 75), (1, .ref 0), (0, .ref x_scr)], [.ref x_scr, .int (xs ((i + 1)).toNatClampNeg), .ref 75], h, 98, 10728)) lr_364 rfl ?_
  refine j_Lst (c' := (366, [(3, .int i), (2, .ref 75), (1, .ref 0), (0, .ref x_scr)], [.int i, .ref x_scr, .int (xs ((i + 1)).toNatClampNeg), .ref 75], h, 98, 10728)) lr_365 rfl ?_
  refine j_Lst (c' := (367, [(3, .int i), (2, .ref 75), (1, .ref 0), (0, .ref x_scr)], [.int 2, .int i, .ref x_scr, .int (xs ((i + 1)).toNatClampNeg), .ref 75], h, 98, 10728)) lr_366 rfl ?_
  refine j_Lst (c' := (368, [(3, .int i), (2, .ref 75), (1, .ref 0), (0, .ref x_scr)], [.int (i + 2), .ref x_scr, .int (xs ((i + 1)).toNatClampNeg), .ref 75], h, 98, 10728)) lr_367 rfl ?_
  refine j_Lsl (c' := (369, [(3, .int i), (2, .ref 75), (1, .ref 0), (0, .ref x_scr)], [.int (xs ((i + 2)).toNatClampNeg), .int (xs ((i + 1)).toNatClampNeg), .ref 75], h, 98, 10728)) lr_368 rfl h2 ?_
  refine j_Lst (c' := (370, [(3, .int i), (2, .ref 75), (1, .ref 0), (0, .ref x_scr)], [.ref x_scr, .int (xs ((i + 2)).toNatClampNeg), .int (xs ((i + 1)).toNatClampNeg), .ref 75], h, 98, 10728)) lr_369 rfl ?_
  refine j_Lst (c' := (371, [(3, .int i), (2, .ref 75), (1, .ref 0), (0, .ref x_scr)], [.int i, .ref x_scr, .int (xs ((i + 2)).toNatClampNeg), .int (xs ((i + 1)).toNatClampNeg), .ref 75], h, 98, 10728)) lr_370 rfl ?_
  refine j_Lst (c' := (372, [(3, .int i), (2, .ref 75), (1, .ref 0), (0, .ref x_scr)], [.int 3, .int i, .ref x_scr, .int (xs ((i + 2)).toNatClampNeg), .int (xs ((i + 1)).toNatClampNeg), .ref 75], h, 98, 10728)) lr_371 rfl ?_
  refine j_Lst (c' := (373, [(3, .int i), (2, .ref 75), (1, .ref 0), (0, .ref x_scr)], [.int (i + 3), .ref x_scr, .int (xs ((i + 2)).toNatClampNeg), .int (xs ((i + 1)).toNatClampNeg), .ref 75], h, 98, 10728)) lr_372 rfl ?_
  refine j_Lsl (c' := (374, [(3, .int i), (2, .ref 75), (1, .ref 0), (0, .ref x_scr)], [.int (xs ((i + 3)).toNatClampNeg), .int (xs ((i + 2)).toNatClampNeg), .int (xs ((i + 1)).toNatClampNeg), .ref 75], h, 98, 10728)) lr_373 rfl h3 ?_
  refine j_Lst (c' := (375, [(3, .int i), (2, .ref 75), (1, .ref 0), (0, .ref x_scr)], [.ref x_scr, .int (xs ((i + 3)).toNatClampNeg), .int (xs ((i + 2)).toNatClampNeg), .int (xs ((i + 1)).toNatClampNeg), .ref 75], h, 98, 10728)) lr_374 rfl ?_
  refine j_Lst (c' := (376, [(3, .int i), (2, .ref 75), (1, .ref 0), (0, .ref x_scr)], [.int i, .ref x_scr, .int (xs ((i + 3)).toNatClampNeg), .int (xs ((i + 2)).toNatClampNeg), .int (xs ((i + 1)).toNatClampNeg), .ref 75], h, 98, 10728)) lr_375 rfl ?_
  refine j_Lst (c' := (377, [(3, .int i), (2, .ref 75), (1, .ref 0), (0, .ref x_scr)], [.int 4, .int i, .ref x_scr, .int (xs ((i + 3)).toNatClampNeg), .int (xs ((i + 2)).toNatClampNeg), .int (xs ((i + 1)).toNatClampNeg), .ref 75], h, 98, 10728)) lr_376 rfl ?_
  refine j_Lst (c' := (378, [(3, .int i), (2, .ref 75), (1, .ref 0), (0, .ref x_scr)], [.int (i + 4), .ref x_scr, .int (xs ((i + 3)).toNatClampNeg), .int (xs ((i + 2)).toNatClampNeg), .int (xs ((i + 1)).toNatClampNeg), .ref 75], h, 98, 10728)) lr_377 rfl ?_
  refine j_Lsl (c' := (379, [(3, .int i), (2, .ref 75), (1, .ref 0), (0, .ref x_scr)], [.int (xs ((i + 4)).toNatClampNeg), .int (xs ((i + 3)).toNatClampNeg), .int (xs ((i + 2)).toNatClampNeg), .int (xs ((i + 1)).toNatClampNeg), .ref 75], h, 98, 10728)) lr_378 rfl h4 ?_
  refine j_Lst (c' := (380, [(3, .int i), (2, .ref 75), (1, .ref 0), (0, .ref x_scr)], [.ref x_scr, .int (xs ((i + 4)).toNatClampNeg), .int (xs ((i + 3)).toNatClampNeg), .int (xs ((i + 2)).toNatClampNeg), .int (xs ((i + 1)).toNatClampNeg), .ref 75], h, 98, 10728)) lr_379 rfl ?_
  refine j_Lst (c' := (381, [(3, .int i), (2, .ref 75), (1, .ref 0), (0, .ref x_scr)], [.int i, .ref x_scr, .int (xs ((i + 4)).toNatClampNeg), .int (xs ((i + 3)).toNatClampNeg), .int (xs ((i + 2)).toNatClampNeg), .int (xs ((i + 1)).toNatClampNeg), .ref 75], h, 98, 10728)) lr_380 rfl ?_
  refine j_Lst (c' := (382, [(3, .int i), (2, .ref 75), (1, .ref 0), (0, .ref x_scr)], [.int 5, .int i, .ref x_scr, .int (xs ((i + 4)).toNatClampNeg), .int (xs ((i + 3)).toNatClampNeg), .int (xs ((i + 2)).toNatClampNeg), .int (xs ((i + 1)).toNatClampNeg), .ref 75], h, 98, 10728)) lr_381 rfl ?_
  refine j_Lst (c' := (383, [(3, .int i), (2, .ref 75), (1, .ref 0), (0, .ref x_scr)], [.int (i + 5), .ref x_scr, .int (xs ((i + 4)).toNatClampNeg), .int (xs ((i + 3)).toNatClampNeg), .int (xs ((i + 2)).toNatClampNeg), .int (xs ((i + 1)).toNatClampNeg), .ref 75], h, 98, 10728)) lr_382 rfl ?_
  refine j_Lsl (c' := (384, [(3, .int i), (2, .ref 75), (1, .ref 0), (0, .ref x_scr)], [.int (xs ((i + 5)).toNatClampNeg), .int (xs ((i + 4)).toNatClampNeg), .int (xs ((i + 3)).toNatClampNeg), .int (xs ((i + 2)).toNatClampNeg), .int (xs ((i + 1)).toNatClampNeg), .ref 75], h, 98, 10728)) lr_383 rfl h5 ?_
  exact kk

set_option maxRecDepth 100000 in
theorem x_c0d (h : xH) (L : Nat) (xs : Nat → Int32) (i : Int32) (h0 : ¬ (i < 0 ∨ L ≤ (i).toNatClampNeg)) (h1 : ¬ (i + 1 < 0 ∨ L ≤ (i + 1).toNatClampNeg)) (h2 : ¬ (i + 2 < 0 ∨ L ≤ (i + 2).toNatClampNeg)) (h3 : ¬ (i + 3 < 0 ∨ L ≤ (i + 3).toNatClampNeg)) (h4 : ¬ (i + 4 < 0 ∨ L ≤ (i + 4).toNatClampNeg)) (h5 : ¬ (i + 5 < 0 ∨ L ≤ (i + 5).toNatClampNeg)) (w : Int32) {P : Option Value × xH × Nat × Nat → Prop} (kk : x_R x_mt (some (L, xs)) 10 M_law (18, [(3, .int (i + Int32.ofInt (6))), (2, .ref 75), (1, .ref 0), (0, .ref x_scr)], [], h, 98, 10728) P) : x_R x_mt (some (L, xs)) 10 M_law (387, [(3, .int i), (2, .ref 75), (1, .ref 0), (0, .ref x_scr)], [.int w], h, 98, 10728) P := by
  refine j_Lst (c' := (388, [(3, .int i), (2, .ref 75), (1, .ref 0), (0, .ref x_scr)], [], h, 98, 10728)) lr_387 rfl ?_
  refine j_Lst (c' := (2368, [(3, .int i), (2, .ref 75), (1, .ref 0), (0, .ref x_scr)], [], h, 98, 10728)) lr_388 rfl ?_
  refine j_Lst (c' := (2371, [(3, .int (i + Int32.ofInt (6))), (2, .ref 75), (1, .ref 0), (0, .ref x_scr)], [], h, 98, 10728)) lr_2368 rfl ?_
  refine j_Lst (c' := (18, [(3, .int (i + Int32.ofInt (6))), (2, .ref 75), (1, .ref 0), (0, .ref x_scr)], [], h, 98, 10728)) lr_2371 rfl ?_
  exact kk

set_option maxRecDepth 100000 in
theorem x_c1a (h : xH) (L : Nat) (xs : Nat → Int32) (i : Int32) (h0 : ¬ (i < 0 ∨ L ≤ (i).toNatClampNeg)) (h1 : ¬ (i + 1 < 0 ∨ L ≤ (i + 1).toNatClampNeg)) (h2 : ¬ (i + 2 < 0 ∨ L ≤ (i + 2).toNatClampNeg)) (h3 : ¬ (i + 3 < 0 ∨ L ≤ (i + 3).toNatClampNeg)) (h4 : ¬ (i + 4 < 0 ∨ L ≤ (i + 4).toNatClampNeg)) (h5 : ¬ (i + 5 < 0 ∨ L ≤ (i + 5).toNatClampNeg)) {P : Option Value × xH × Nat × Nat → Prop} (kk : x_R x_mt (some (L, xs)) 10 M_law (397, [(3, .int i), (2, .ref 75), (1, .ref 0), (0, .ref x_scr)], [.int (xs ((i + 1)).toNatClampNeg), .ref 0], h, 98, 10728) P) : x_R x_mt (some (L, xs)) 10 M_law (391, [(3, .int i), (2, .ref 75), (1, .ref 0), (0, .ref x_scr)], [], h, 98, 10728) P := by
  refine j_Lst (c' := (392, [(3, .int i), (2, .ref 75), (1, .ref 0), (0, .ref x_scr)], [.ref 0], h, 98, 10728)) lr_391 rfl ?_
  refine j_Lst (c' := (393, [(3, .int i), (2, .ref 75), (1, .ref 0), (0, .ref x_scr)], [.ref x_scr, .ref 0], h, 98, 10728)) lr_392 rfl ?_
  refine j_Lst (c' := (394, [(3, .int i), (2, .ref 75), (1, .ref 0), (0, .ref x_scr)], [.int i, .ref x_scr, .ref 0], h, 98, 10728)) lr_393 rfl ?_
  refine j_Lst (c' := (395, [(3, .int i), (2, .ref 75), (1, .ref 0), (0, .ref x_scr)], [.int 1, .int i, .ref x_scr, .ref 0], h, 98, 10728)) lr_394 rfl ?_
  refine j_Lst (c' := (396, [(3, .int i), (2, .ref 75), (1, .ref 0), (0, .ref x_scr)], [.int (i + 1), .ref x_scr, .ref 0], h, 98, 10728)) lr_395 rfl ?_
  refine j_Lsl (c' := (397, [(3, .int i), (2, .ref 75), (1, .ref 0), (0, .ref x_scr)], [.int (xs ((i + 1)).toNatClampNeg), .ref 0], h, 98, 10728)) lr_396 rfl h1 ?_
  exact kk

set_option maxRecDepth 100000 in
theorem x_c1b (h : xH) (L : Nat) (xs : Nat → Int32) (i : Int32) (h0 : ¬ (i < 0 ∨ L ≤ (i).toNatClampNeg)) (h1 : ¬ (i + 1 < 0 ∨ L ≤ (i + 1).toNatClampNeg)) (h2 : ¬ (i + 2 < 0 ∨ L ≤ (i + 2).toNatClampNeg)) (h3 : ¬ (i + 3 < 0 ∨ L ≤ (i + 3).toNatClampNeg)) (h4 : ¬ (i + 4 < 0 ∨ L ≤ (i + 4).toNatClampNeg)) (h5 : ¬ (i + 5 < 0 ∨ L ≤ (i + 5).toNatClampNeg)) (v : Int32) {P : Option Value × xH × Nat × Nat → Prop} (kk : x_R x_mt (some (L, xs)) 10 M_law (407, [(3, .int i), (2, .ref 75), (1, .ref 0), (0, .ref x_scr)], [.int (xs ((i + 1)).toNatClampNeg), .ref 75], h, 98, 10728) P) : x_R x_mt (some (L, xs)) 10 M_law (400, [(3, .int i), (2, .ref 75), (1, .ref 0), (0, .ref x_scr)], [.int v], h, 98, 10728) P := by
  refine j_Lst (c' := (401, [(3, .int i), (2, .ref 75), (1, .ref 0), (0, .ref x_scr)], [], h, 98, 10728)) lr_400 rfl ?_
  refine j_Lst (c' := (402, [(3, .int i), (2, .ref 75), (1, .ref 0), (0, .ref x_scr)], [.ref 75], h, 98, 10728)) lr_401 rfl ?_
  refine j_Lst (c' := (403, [(3, .int i), (2, .ref 75), (1, .ref 0), (0, .ref x_scr)], [.ref x_scr, .ref 75], h, 98, 10728)) lr_402 rfl ?_
  refine j_Lst (c' := (404, [(3, .int i), (2, .ref 75), (1, .ref 0), (0, .ref x_scr)], [.int i, .ref x_scr, .ref 75], h, 98, 10728)) lr_403 rfl ?_
  refine j_Lst (c' := (405, [(3, .int i), (2, .ref 75), (1, .ref 0), (0, .ref x_scr)], [.int 1, .int i, .ref x_scr, .ref 75], h, 98, 10728)) lr_404 rfl ?_
  refine j_Lst (c' := (406, [(3, .int i), (2, .ref 75), (1, .ref 0), (0, .ref x_scr)], [.int (i + 1), .ref x_scr, .ref 75], h, 98, 10728)) lr_405 rfl ?_
  refine j_Lsl (c' := (407, [(3, .int i), (2, .ref 75), (1, .ref 0), (0, .ref x_scr)], [.int (xs ((i + 1)).toNatClampNeg), .ref 75], h, 98, 10728)) lr_406 rfl h1 ?_
  exact kk

set_option maxRecDepth 100000 in
theorem x_c1d (h : xH) (L : Nat) (xs : Nat → Int32) (i : Int32) (h0 : ¬ (i < 0 ∨ L ≤ (i).toNatClampNeg)) (h1 : ¬ (i + 1 < 0 ∨ L ≤ (i + 1).toNatClampNeg)) (h2 : ¬ (i + 2 < 0 ∨ L ≤ (i + 2).toNatClampNeg)) (h3 : ¬ (i + 3 < 0 ∨ L ≤ (i + 3).toNatClampNeg)) (h4 : ¬ (i + 4 < 0 ∨ L ≤ (i + 4).toNatClampNeg)) (h5 : ¬ (i + 5 < 0 ∨ L ≤ (i + 5).toNatClampNeg)) (w : Int32) {P : Option Value × xH × Nat × Nat → Prop} (kk : x_R x_mt (some (L, xs)) 10 M_law (18, [(3, .int (i + Int32.ofInt (6))), (2, .ref 75), (1, .ref 0), (0, .ref x_scr)], [], h, 98, 10728) P) : x_R x_mt (some (L, xs)) 10 M_law (410, [(3, .int i), (2, .ref 75), (1, .ref 0), (0, .ref x_scr)], [.int w], h, 98, 10728) P := by
  refine j_Lst (c' := (411, [(3, .int i), (2, .ref 75), (1, .ref 0), (0, .ref x_scr)], [], h, 98, 10728)) lr_410 rfl ?_
  refine j_Lst (c' := (2368, [(3, .int i), (2, .ref 75), (1, .ref 0), (0, .ref x_scr)], [], h, 98, 10728)) lr_411 rfl ?_
  refine j_Lst (c' := (2371, [(3, .int (i + Int32.ofInt (6))), (2, .ref 75), (1, .ref 0), (0, .ref x_scr)], [], h, 98, 10728)) lr_2368 rfl ?_
  refine j_Lst (c' := (18, [(3, .int (i + Int32.ofInt (6))), (2, .ref 75), (1, .ref 0), (0, .ref x_scr)], [], h, 98, 10728)) lr_2371 rfl ?_
  exact kk

set_option maxRecDepth 100000 in
theorem x_c2a (h : xH) (L : Nat) (xs : Nat → Int32) (i : Int32) (h0 : ¬ (i < 0 ∨ L ≤ (i).toNatClampNeg)) (h1 : ¬ (i + 1 < 0 ∨ L ≤ (i + 1).toNatClampNeg)) (h2 : ¬ (i + 2 < 0 ∨ L ≤ (i + 2).toNatClampNeg)) (h3 : ¬ (i + 3 < 0 ∨ L ≤ (i + 3).toNatClampNeg)) (h4 : ¬ (i + 4 < 0 ∨ L ≤ (i + 4).toNatClampNeg)) (h5 : ¬ (i + 5 < 0 ∨ L ≤ (i + 5).toNatClampNeg)) {P : Option Value × xH × Nat × Nat → Prop} (kk : x_R x_mt (some (L, xs)) 10 M_law (415, [(3, .int i), (2, .ref 75), (1, .ref 0), (0, .ref x_scr)], [.ref 0], h, 98, 10728) P) : x_R x_mt (some (L, xs)) 10 M_law (414, [(3, .int i), (2, .ref 75), (1, .ref 0), (0, .ref x_scr)], [], h, 98, 10728) P := by
  refine j_Lst (c' := (415, [(3, .int i), (2, .ref 75), (1, .ref 0), (0, .ref x_scr)], [.ref 0], h, 98, 10728)) lr_414 rfl ?_
  exact kk

set_option maxRecDepth 100000 in
theorem x_c2b (h : xH) (L : Nat) (xs : Nat → Int32) (i : Int32) (h0 : ¬ (i < 0 ∨ L ≤ (i).toNatClampNeg)) (h1 : ¬ (i + 1 < 0 ∨ L ≤ (i + 1).toNatClampNeg)) (h2 : ¬ (i + 2 < 0 ∨ L ≤ (i + 2).toNatClampNeg)) (h3 : ¬ (i + 3 < 0 ∨ L ≤ (i + 3).toNatClampNeg)) (h4 : ¬ (i + 4 < 0 ∨ L ≤ (i + 4).toNatClampNeg)) (h5 : ¬ (i + 5 < 0 ∨ L ≤ (i + 5).toNatClampNeg)) (v : Int32) {P : Option Value × xH × Nat × Nat → Prop} (kk : x_R x_mt (some (L, xs)) 10 M_law (420, [(3, .int i), (2, .ref 75), (1, .ref 0), (0, .ref x_scr)], [.ref 75], h, 98, 10728) P) : x_R x_mt (some (L, xs)) 10 M_law (418, [(3, .int i), (2, .ref 75), (1, .ref 0), (0, .ref x_scr)], [.int v], h, 98, 10728) P := by
  refine j_Lst (c' := (419, [(3, .int i), (2, .ref 75), (1, .ref 0), (0, .ref x_scr)], [], h, 98, 10728)) lr_418 rfl ?_
  refine j_Lst (c' := (420, [(3, .int i), (2, .ref 75), (1, .ref 0), (0, .ref x_scr)], [.ref 75], h, 98, 10728)) lr_419 rfl ?_
  exact kk

set_option maxRecDepth 100000 in
theorem x_c2d (h : xH) (L : Nat) (xs : Nat → Int32) (i : Int32) (h0 : ¬ (i < 0 ∨ L ≤ (i).toNatClampNeg)) (h1 : ¬ (i + 1 < 0 ∨ L ≤ (i + 1).toNatClampNeg)) (h2 : ¬ (i + 2 < 0 ∨ L ≤ (i + 2).toNatClampNeg)) (h3 : ¬ (i + 3 < 0 ∨ L ≤ (i + 3).toNatClampNeg)) (h4 : ¬ (i + 4 < 0 ∨ L ≤ (i + 4).toNatClampNeg)) (h5 : ¬ (i + 5 < 0 ∨ L ≤ (i + 5).toNatClampNeg)) (w : Int32) {P : Option Value × xH × Nat × Nat → Prop} (kk : x_R x_mt (some (L, xs)) 10 M_law (18, [(3, .int (i + Int32.ofInt (6))), (2, .ref 75), (1, .ref 0), (0, .ref x_scr)], [], h, 98, 10728) P) : x_R x_mt (some (L, xs)) 10 M_law (423, [(3, .int i), (2, .ref 75), (1, .ref 0), (0, .ref x_scr)], [.int w], h, 98, 10728) P := by
  refine j_Lst (c' := (424, [(3, .int i), (2, .ref 75), (1, .ref 0), (0, .ref x_scr)], [], h, 98, 10728)) lr_423 rfl ?_
  refine j_Lst (c' := (2368, [(3, .int i), (2, .ref 75), (1, .ref 0), (0, .ref x_scr)], [], h, 98, 10728)) lr_424 rfl ?_
  refine j_Lst (c' := (2371, [(3, .int (i + Int32.ofInt (6))), (2, .ref 75), (1, .ref 0), (0, .ref x_scr)], [], h, 98, 10728)) lr_2368 rfl ?_
  refine j_Lst (c' := (18, [(3, .int (i + Int32.ofInt (6))), (2, .ref 75), (1, .ref 0), (0, .ref x_scr)], [], h, 98, 10728)) lr_2371 rfl ?_
  exact kk

set_option maxRecDepth 100000 in
theorem x_c3a (h : xH) (L : Nat) (xs : Nat → Int32) (i : Int32) (h0 : ¬ (i < 0 ∨ L ≤ (i).toNatClampNeg)) (h1 : ¬ (i + 1 < 0 ∨ L ≤ (i + 1).toNatClampNeg)) (h2 : ¬ (i + 2 < 0 ∨ L ≤ (i + 2).toNatClampNeg)) (h3 : ¬ (i + 3 < 0 ∨ L ≤ (i + 3).toNatClampNeg)) (h4 : ¬ (i + 4 < 0 ∨ L ≤ (i + 4).toNatClampNeg)) (h5 : ¬ (i + 5 < 0 ∨ L ≤ (i + 5).toNatClampNeg)) {P : Option Value × xH × Nat × Nat → Prop} (kk : x_R x_mt (some (L, xs)) 10 M_law (433, [(3, .int i), (2, .ref 75), (1, .ref 0), (0, .ref x_scr)], [.int (xs ((i + 1)).toNatClampNeg), .ref 0], h, 98, 10728) P) : x_R x_mt (some (L, xs)) 10 M_law (427, [(3, .int i), (2, .ref 75), (1, .ref 0), (0, .ref x_scr)], [], h, 98, 10728) P := by
  refine j_Lst (c' := (428, [(3, .int i), (2, .ref 75), (1, .ref 0), (0, .ref x_scr)], [.ref 0], h, 98, 10728)) lr_427 rfl ?_
  refine j_Lst (c' := (429, [(3, .int i), (2, .ref 75), (1, .ref 0), (0, .ref x_scr)], [.ref x_scr, .ref 0], h, 98, 10728)) lr_428 rfl ?_
  refine j_Lst (c' := (430, [(3, .int i), (2, .ref 75), (1, .ref 0), (0, .ref x_scr)], [.int i, .ref x_scr, .ref 0], h, 98, 10728)) lr_429 rfl ?_
  refine j_Lst (c' := (431, [(3, .int i), (2, .ref 75), (1, .ref 0), (0, .ref x_scr)], [.int 1, .int i, .ref x_scr, .ref 0], h, 98, 10728)) lr_430 rfl ?_
  refine j_Lst (c' := (432, [(3, .int i), (2, .ref 75), (1, .ref 0), (0, .ref x_scr)], [.int (i + 1), .ref x_scr, .ref 0], h, 98, 10728)) lr_431 rfl ?_
  refine j_Lsl (c' := (433, [(3, .int i), (2, .ref 75), (1, .ref 0), (0, .ref x_scr)], [.int (xs ((i + 1)).toNatClampNeg), .ref 0], h, 98, 10728)) lr_432 rfl h1 ?_
  exact kk

set_option maxRecDepth 100000 in
theorem x_c3b (h : xH) (L : Nat) (xs : Nat → Int32) (i : Int32) (h0 : ¬ (i < 0 ∨ L ≤ (i).toNatClampNeg)) (h1 : ¬ (i + 1 < 0 ∨ L ≤ (i + 1).toNatClampNeg)) (h2 : ¬ (i + 2 < 0 ∨ L ≤ (i + 2).toNatClampNeg)) (h3 : ¬ (i + 3 < 0 ∨ L ≤ (i + 3).toNatClampNeg)) (h4 : ¬ (i + 4 < 0 ∨ L ≤ (i + 4).toNatClampNeg)) (h5 : ¬ (i + 5 < 0 ∨ L ≤ (i + 5).toNatClampNeg)) (v : Int32) {P : Option Value × xH × Nat × Nat → Prop} (kk : x_R x_mt (some (L, xs)) 10 M_law (443, [(3, .int i), (2, .ref 75), (1, .ref 0), (0, .ref x_scr)], [.int (xs ((i + 1)).toNatClampNeg), .ref 75], h, 98, 10728) P) : x_R x_mt (some (L, xs)) 10 M_law (436, [(3, .int i), (2, .ref 75), (1, .ref 0), (0, .ref x_scr)], [.int v], h, 98, 10728) P := by
  refine j_Lst (c' := (437, [(3, .int i), (2, .ref 75), (1, .ref 0), (0, .ref x_scr)], [], h, 98, 10728)) lr_436 rfl ?_
  refine j_Lst (c' := (438, [(3, .int i), (2, .ref 75), (1, .ref 0), (0, .ref x_scr)], [.ref 75], h, 98, 10728)) lr_437 rfl ?_
  refine j_Lst (c' := (439, [(3, .int i), (2, .ref 75), (1, .ref 0), (0, .ref x_scr)], [.ref x_scr, .ref 75], h, 98, 10728)) lr_438 rfl ?_
  refine j_Lst (c' := (440, [(3, .int i), (2, .ref 75), (1, .ref 0), (0, .ref x_scr)], [.int i, .ref x_scr, .ref 75], h, 98, 10728)) lr_439 rfl ?_
  refine j_Lst (c' := (441, [(3, .int i), (2, .ref 75), (1, .ref 0), (0, .ref x_scr)], [.int 1, .int i, .ref x_scr, .ref 75], h, 98, 10728)) lr_440 rfl ?_
  refine j_Lst (c' := (442, [(3, .int i), (2, .ref 75), (1, .ref 0), (0, .ref x_scr)], [.int (i + 1), .ref x_scr, .ref 75], h, 98, 10728)) lr_441 rfl ?_
  refine j_Lsl (c' := (443, [(3, .int i), (2, .ref 75), (1, .ref 0), (0, .ref x_scr)], [.int (xs ((i + 1)).toNatClampNeg), .ref 75], h, 98, 10728)) lr_442 rfl h1 ?_
  exact kk

set_option maxRecDepth 100000 in
theorem x_c3d (h : xH) (L : Nat) (xs : Nat → Int32) (i : Int32) (h0 : ¬ (i < 0 ∨ L ≤ (i).toNatClampNeg)) (h1 : ¬ (i + 1 < 0 ∨ L ≤ (i + 1).toNatClampNeg)) (h2 : ¬ (i + 2 < 0 ∨ L ≤ (i + 2).toNatClampNeg)) (h3 : ¬ (i + 3 < 0 ∨ L ≤ (i + 3).toNatClampNeg)) (h4 : ¬ (i + 4 < 0 ∨ L ≤ (i + 4).toNatClampNeg)) (h5 : ¬ (i + 5 < 0 ∨ L ≤ (i + 5).toNatClampNeg)) (w : Int32) {P : Option Value × xH × Nat × Nat → Prop} (kk : x_R x_mt (some (L, xs)) 10 M_law (18, [(3, .int (i + Int32.ofInt (6))), (2, .ref 75), (1, .ref 0), (0, .ref x_scr)], [], h, 98, 10728) P) : x_R x_mt (some (L, xs)) 10 M_law (446, [(3, .int i), (2, .ref 75), (1, .ref 0), (0, .ref x_scr)], [.int w], h, 98, 10728) P := by
  refine j_Lst (c' := (447, [(3, .int i), (2, .ref 75), (1, .ref 0), (0, .ref x_scr)], [], h, 98, 10728)) lr_446 rfl ?_
  refine j_Lst (c' := (2368, [(3, .int i), (2, .ref 75), (1, .ref 0), (0, .ref x_scr)], [], h, 98, 10728)) lr_447 rfl ?_
  refine j_Lst (c' := (2371, [(3, .int (i + Int32.ofInt (6))), (2, .ref 75), (1, .ref 0), (0, .ref x_scr)], [], h, 98, 10728)) lr_2368 rfl ?_
  refine j_Lst (c' := (18, [(3, .int (i + Int32.ofInt (6))), (2, .ref 75), (1, .ref 0), (0, .ref x_scr)], [], h, 98, 10728)) lr_2371 rfl ?_
  exact kk

set_option maxRecDepth 100000 in
theorem x_c4a (h : xH) (L : Nat) (xs : Nat → Int32) (i : Int32) (h0 : ¬ (i < 0 ∨ L ≤ (i).toNatClampNeg)) (h1 : ¬ (i + 1 < 0 ∨ L ≤ (i + 1).toNatClampNeg)) (h2 : ¬ (i + 2 < 0 ∨ L ≤ (i + 2).toNatClampNeg)) (h3 : ¬ (i + 3 < 0 ∨ L ≤ (i + 3).toNatClampNeg)) (h4 : ¬ (i + 4 < 0 ∨ L ≤ (i + 4).toNatClampNeg)) (h5 : ¬ (i + 5 < 0 ∨ L ≤ (i + 5).toNatClampNeg)) {P : Option Value × xH × Nat × Nat → Prop} (kk : x_R x_mt (some (L, xs)) 10 M_law (461, [(3, .int i), (2, .ref 75), (1, .ref 0), (0, .ref x_scr)], [.int (xs ((i + 2)).toNatClampNeg), .int (xs ((i + 1)).toNatClampNeg), .ref 0], h, 98, 10728) P) : x_R x_mt (some (L, xs)) 10 M_law (450, [(3, .int i), (2, .ref 75), (1, .ref 0), (0, .ref x_scr)], [], h, 98, 10728) P := by
  refine j_Lst (c' := (451, [(3, .int i), (2, .ref 75), (1, .ref 0), (0, .ref x_scr)], [.ref 0], h, 98, 10728)) lr_450 rfl ?_
  refine j_Lst (c' := (452, [(3, .int i), (2, .ref 75), (1, .ref 0), (0, .ref x_scr)], [.ref x_scr, .ref 0], h, 98, 10728)) lr_451 rfl ?_
  refine j_Lst (c' := (453, [(3, .int i), (2, .ref 75), (1, .ref 0), (0, .ref x_scr)], [.int i, .ref x_scr, .ref 0], h, 98, 10728)) lr_452 rfl ?_
  refine j_Lst (c' := (454, [(3, .int i), (2, .ref 75), (1, .ref 0), (0, .ref x_scr)], [.int 1, .int i, .ref x_scr, .ref 0], h, 98, 10728)) lr_453 rfl ?_
  refine j_Lst (c' := (455, [(3, .int i), (2, .ref 75), (1, .ref 0), (0, .ref x_scr)], [.int (i + 1), .ref x_scr, .ref 0], h, 98, 10728)) lr_454 rfl ?_
  refine j_Lsl (c' := (456, [(3, .int i), (2, .ref 75), (1, .ref 0), (0, .ref x_scr)], [.int (xs ((i + 1)).toNatClampNeg), .ref 0], h, 98, 10728)) lr_455 rfl h1 ?_
  refine j_Lst (c' := (457, [(3, .int i), (2, .ref 75), (1, .ref 0), (0, .ref x_scr)], [.ref x_scr, .int (xs ((i + 1)).toNatClampNeg), .ref 0], h, 98, 10728)) lr_456 rfl ?_
  refine j_Lst (c' := (458, [(3, .int i), (2, .ref 75), (1, .ref 0), (0, .ref x_scr)], [.int i, .ref x_scr, .int (xs ((i + 1)).toNatClampNeg), .ref 0], h, 98, 10728)) lr_457 rfl ?_
  refine j_Lst (c' := (459, [(3, .int i), (2, .ref 75), (1, .ref 0), (0, .ref x_scr)], [.int 2, .int i, .ref x_scr, .int (xs ((i + 1)).toNatClampNeg), .ref 0], h, 98, 10728)) lr_458 rfl ?_
  refine j_Lst (c' := (460, [(3, .int i), (2, .ref 75), (1, .ref 0), (0, .ref x_scr)], [.int (i + 2), .ref x_scr, .int (xs ((i + 1)).toNatClampNeg), .ref 0], h, 98, 10728)) lr_459 rfl ?_
  refine j_Lsl (c' := (461, [(3, .int i), (2, .ref 75), (1, .ref 0), (0, .ref x_scr)], [.int (xs ((i + 2)).toNatClampNeg), .int (xs ((i + 1)).toNatClampNeg), .ref 0], h, 98, 10728)) lr_460 rfl h2 ?_
  exact kk

set_option maxRecDepth 100000 in
theorem x_c4b (h : xH) (L : Nat) (xs : Nat → Int32) (i : Int32) (h0 : ¬ (i < 0 ∨ L ≤ (i).toNatClampNeg)) (h1 : ¬ (i + 1 < 0 ∨ L ≤ (i + 1).toNatClampNeg)) (h2 : ¬ (i + 2 < 0 ∨ L ≤ (i + 2).toNatClampNeg)) (h3 : ¬ (i + 3 < 0 ∨ L ≤ (i + 3).toNatClampNeg)) (h4 : ¬ (i + 4 < 0 ∨ L ≤ (i + 4).toNatClampNeg)) (h5 : ¬ (i + 5 < 0 ∨ L ≤ (i + 5).toNatClampNeg)) (v : Int32) {P : Option Value × xH × Nat × Nat → Prop} (kk : x_R x_mt (some (L, xs)) 10 M_law (476, [(3, .int i), (2, .ref 75), (1, .ref 0), (0, .ref x_scr)], [.int (xs ((i + 2)).toNatClampNeg), .int (xs ((i + 1)).toNatClampNeg), .ref 75], h, 98, 10728) P) : x_R x_mt (some (L, xs)) 10 M_law (464, [(3, .int i), (2, .ref 75), (1, .ref 0), (0, .ref x_scr)], [.int v], h, 98, 10728) P := by
  refine j_Lst (c' := (465, [(3, .int i), (2, .ref 75), (1, .ref 0), (0, .ref x_scr)], [], h, 98, 10728)) lr_464 rfl ?_
  refine j_Lst (c' := (466, [(3, .int i), (2, .ref 75), (1, .ref 0), (0, .ref x_scr)], [.ref 75], h, 98, 10728)) lr_465 rfl ?_
  refine j_Lst (c' := (467, [(3, .int i), (2, .ref 75), (1, .ref 0), (0, .ref x_scr)], [.ref x_scr, .ref 75], h, 98, 10728)) lr_466 rfl ?_
  refine j_Lst (c' := (468, [(3, .int i), (2, .ref 75), (1, .ref 0), (0, .ref x_scr)], [.int i, .ref x_scr, .ref 75], h, 98, 10728)) lr_467 rfl ?_
  refine j_Lst (c' := (469, [(3, .int i), (2, .ref 75), (1, .ref 0), (0, .ref x_scr)], [.int 1, .int i, .ref x_scr, .ref 75], h, 98, 10728)) lr_468 rfl ?_
  refine j_Lst (c' := (470, [(3, .int i), (2, .ref 75), (1, .ref 0), (0, .ref x_scr)], [.int (i + 1), .ref x_scr, .ref 75], h, 98, 10728)) lr_469 rfl ?_
  refine j_Lsl (c' := (471, [(3, .int i), (2, .ref 75), (1, .ref 0), (0, .ref x_scr)], [.int (xs ((i + 1)).toNatClampNeg), .ref 75], h, 98, 10728)) lr_470 rfl h1 ?_
  refine j_Lst (c' := (472, [(3, .int i), (2, .ref 75), (1, .ref 0), (0, .ref x_scr)], [.ref x_scr, .int (xs ((i + 1)).toNatClampNeg), .ref 75], h, 98, 10728)) lr_471 rfl ?_
  refine j_Lst (c' := (473, [(3, .int i), (2, .ref 75), (1, .ref 0), (0, .ref x_scr)], [.int i, .ref x_scr, .int (xs ((i + 1)).toNatClampNeg), .ref 75], h, 98, 10728)) lr_472 rfl ?_
  refine j_Lst (c' := (474, [(3, .int i), (2, .ref 75), (1, .ref 0), (0, .ref x_scr)], [.int 2, .int i, .ref x_scr, .int (xs ((i + 1)).toNatClampNeg), .ref 75], h, 98, 10728)) lr_473 rfl ?_
  refine j_Lst (c' := (475, [(3, .int i), (2, .ref 75), (1, .ref 0), (0, .ref x_scr)], [.int (i + 2), .ref x_scr, .int (xs ((i + 1)).toNatClampNeg), .ref 75], h, 98, 10728)) lr_474 rfl ?_
  refine j_Lsl (c' := (476, [(3, .int i), (2, .ref 75), (1, .ref 0), (0, .ref x_scr)], [.int (xs ((i + 2)).toNatClampNeg), .int (xs ((i + 1)).toNatClampNeg), .ref 75], h, 98, 10728)) lr_475 rfl h2 ?_
  exact kk

set_option maxRecDepth 100000 in
theorem x_c4d (h : xH) (L : Nat) (xs : Nat → Int32) (i : Int32) (h0 : ¬ (i < 0 ∨ L ≤ (i).toNatClampNeg)) (h1 : ¬ (i + 1 < 0 ∨ L ≤ (i + 1).toNatClampNeg)) (h2 : ¬ (i + 2 < 0 ∨ L ≤ (i + 2).toNatClampNeg)) (h3 : ¬ (i + 3 < 0 ∨ L ≤ (i + 3).toNatClampNeg)) (h4 : ¬ (i + 4 < 0 ∨ L ≤ (i + 4).toNatClampNeg)) (h5 : ¬ (i + 5 < 0 ∨ L ≤ (i + 5).toNatClampNeg)) (w : Int32) {P : Option Value × xH × Nat × Nat → Prop} (kk : x_R x_mt (some (L, xs)) 10 M_law (18, [(3, .int (i + Int32.ofInt (6))), (2, .ref 75), (1, .ref 0), (0, .ref x_scr)], [], h, 98, 10728) P) : x_R x_mt (some (L, xs)) 10 M_law (479, [(3, .int i), (2, .ref 75), (1, .ref 0), (0, .ref x_scr)], [.int w], h, 98, 10728) P := by
  refine j_Lst (c' := (480, [(3, .int i), (2, .ref 75), (1, .ref 0), (0, .ref x_scr)], [], h, 98, 10728)) lr_479 rfl ?_
  refine j_Lst (c' := (2368, [(3, .int i), (2, .ref 75), (1, .ref 0), (0, .ref x_scr)], [], h, 98, 10728)) lr_480 rfl ?_
  refine j_Lst (c' := (2371, [(3, .int (i + Int32.ofInt (6))), (2, .ref 75), (1, .ref 0), (0, .ref x_scr)], [], h, 98, 10728)) lr_2368 rfl ?_
  refine j_Lst (c' := (18, [(3, .int (i + Int32.ofInt (6))), (2, .ref 75), (1, .ref 0), (0, .ref x_scr)], [], h, 98, 10728)) lr_2371 rfl ?_
  exact kk

set_option maxRecDepth 100000 in
theorem x_c5a (h : xH) (L : Nat) (xs : Nat → Int32) (i : Int32) (h0 : ¬ (i < 0 ∨ L ≤ (i).toNatClampNeg)) (h1 : ¬ (i + 1 < 0 ∨ L ≤ (i + 1).toNatClampNeg)) (h2 : ¬ (i + 2 < 0 ∨ L ≤ (i + 2).toNatClampNeg)) (h3 : ¬ (i + 3 < 0 ∨ L ≤ (i + 3).toNatClampNeg)) (h4 : ¬ (i + 4 < 0 ∨ L ≤ (i + 4).toNatClampNeg)) (h5 : ¬ (i + 5 < 0 ∨ L ≤ (i + 5).toNatClampNeg)) {P : Option Value × xH × Nat × Nat → Prop} (kk : x_R x_mt (some (L, xs)) 10 M_law (494, [(3, .int i), (2, .ref 75), (1, .ref 0), (0, .ref x_scr)], [.int (xs ((i + 2)).toNatClampNeg), .int (xs ((i + 1)).toNatClampNeg), .ref 0], h, 98, 10728) P) : x_R x_mt (some (L, xs)) 10 M_law (483, [(3, .int i), (2, .ref 75), (1, .ref 0), (0, .ref x_scr)], [], h, 98, 10728) P := by
  refine j_Lst (c' := (484, [(3, .int i), (2, .ref 75), (1, .ref 0), (0, .ref x_scr)], [.ref 0], h, 98, 10728)) lr_483 rfl ?_
  refine j_Lst (c' := (485, [(3, .int i), (2, .ref 75), (1, .ref 0), (0, .ref x_scr)], [.ref x_scr, .ref 0], h, 98, 10728)) lr_484 rfl ?_
  refine j_Lst (c' := (486, [(3, .int i), (2, .ref 75), (1, .ref 0), (0, .ref x_scr)], [.int i, .ref x_scr, .ref 0], h, 98, 10728)) lr_485 rfl ?_
  refine j_Lst (c' := (487, [(3, .int i), (2, .ref 75), (1, .ref 0), (0, .ref x_scr)], [.int 1, .int i, .ref x_scr, .ref 0], h, 98, 10728)) lr_486 rfl ?_
  refine j_Lst (c' := (488, [(3, .int i), (2, .ref 75), (1, .ref 0), (0, .ref x_scr)], [.int (i + 1), .ref x_scr, .ref 0], h, 98, 10728)) lr_487 rfl ?_
  refine j_Lsl (c' := (489, [(3, .int i), (2, .ref 75), (1, .ref 0), (0, .ref x_scr)], [.int (xs ((i + 1)).toNatClampNeg), .ref 0], h, 98, 10728)) lr_488 rfl h1 ?_
  refine j_Lst (c' := (490, [(3, .int i), (2, .ref 75), (1, .ref 0), (0, .ref x_scr)], [.ref x_scr, .int (xs ((i + 1)).toNatClampNeg), .ref 0], h, 98, 10728)) lr_489 rfl ?_
  refine j_Lst (c' := (491, [(3, .int i), (2, .ref 75), (1, .ref 0), (0, .ref x_scr)], [.int i, .ref x_scr, .int (xs ((i + 1)).toNatClampNeg), .ref 0], h, 98, 10728)) lr_490 rfl ?_
  refine j_Lst (c' := (492, [(3, .int i), (2, .ref 75), (1, .ref 0), (0, .ref x_scr)], [.int 2, .int i, .ref x_scr, .int (xs ((i + 1)).toNatClampNeg), .ref 0], h, 98, 10728)) lr_491 rfl ?_
  refine j_Lst (c' := (493, [(3, .int i), (2, .ref 75), (1, .ref 0), (0, .ref x_scr)], [.int (i + 2), .ref x_scr, .int (xs ((i + 1)).toNatClampNeg), .ref 0], h, 98, 10728)) lr_492 rfl ?_
  refine j_Lsl (c' := (494, [(3, .int i), (2, .ref 75), (1, .ref 0), (0, .ref x_scr)], [.int (xs ((i + 2)).toNatClampNeg), .int (xs ((i + 1)).toNatClampNeg), .ref 0], h, 98, 10728)) lr_493 rfl h2 ?_
  exact kk

set_option maxRecDepth 100000 in
theorem x_c5b (h : xH) (L : Nat) (xs : Nat → Int32) (i : Int32) (h0 : ¬ (i < 0 ∨ L ≤ (i).toNatClampNeg)) (h1 : ¬ (i + 1 < 0 ∨ L ≤ (i + 1).toNatClampNeg)) (h2 : ¬ (i + 2 < 0 ∨ L ≤ (i + 2).toNatClampNeg)) (h3 : ¬ (i + 3 < 0 ∨ L ≤ (i + 3).toNatClampNeg)) (h4 : ¬ (i + 4 < 0 ∨ L ≤ (i + 4).toNatClampNeg)) (h5 : ¬ (i + 5 < 0 ∨ L ≤ (i + 5).toNatClampNeg)) (v : Int32) {P : Option Value × xH × Nat × Nat → Prop} (kk : x_R x_mt (some (L, xs)) 10 M_law (509, [(3, .int i), (2, .ref 75), (1, .ref 0), (0, .ref x_scr)], [.int (xs ((i + 2)).toNatClampNeg), .int (xs ((i + 1)).toNatClampNeg), .ref 75], h, 98, 10728) P) : x_R x_mt (some (L, xs)) 10 M_law (497, [(3, .int i), (2, .ref 75), (1, .ref 0), (0, .ref x_scr)], [.int v], h, 98, 10728) P := by
  refine j_Lst (c' := (498, [(3, .int i), (2, .ref 75), (1, .ref 0), (0, .ref x_scr)], [], h, 98, 10728)) lr_497 rfl ?_
  refine j_Lst (c' := (499, [(3, .int i), (2, .ref 75), (1, .ref 0), (0, .ref x_scr)], [.ref 75], h, 98, 10728)) lr_498 rfl ?_
  refine j_Lst (c' := (500, [(3, .int i), (2, .ref 75), (1, .ref 0), (0, .ref x_scr)], [.ref x_scr, .ref 75], h, 98, 10728)) lr_499 rfl ?_
  refine j_Lst (c' := (501, [(3, .int i), (2, .ref 75), (1, .ref 0), (0, .ref x_scr)], [.int i, .ref x_scr, .ref 75], h, 98, 10728)) lr_500 rfl ?_
  refine j_Lst (c' := (502, [(3, .int i), (2, .ref 75), (1, .ref 0), (0, .ref x_scr)], [.int 1, .int i, .ref x_scr, .ref 75], h, 98, 10728)) lr_501 rfl ?_
  refine j_Lst (c' := (503, [(3, .int i), (2, .ref 75), (1, .ref 0), (0, .ref x_scr)], [.int (i + 1), .ref x_scr, .ref 75], h, 98, 10728)) lr_502 rfl ?_
  refine j_Lsl (c' := (504, [(3, .int i), (2, .ref 75), (1, .ref 0), (0, .ref x_scr)], [.int (xs ((i + 1)).toNatClampNeg), .ref 75], h, 98, 10728)) lr_503 rfl h1 ?_
  refine j_Lst (c' := (505, [(3, .int i), (2, .ref 75), (1, .ref 0), (0, .ref x_scr)], [.ref x_scr, .int (xs ((i + 1)).toNatClampNeg), .ref 75], h, 98, 10728)) lr_504 rfl ?_
  refine j_Lst (c' := (506, [(3, .int i), (2, .ref 75), (1, .ref 0), (0, .ref x_scr)], [.int i, .ref x_scr, .int (xs ((i + 1)).toNatClampNeg), .ref 75], h, 98, 10728)) lr_505 rfl ?_
  refine j_Lst (c' := (507, [(3, .int i), (2, .ref 75), (1, .ref 0), (0, .ref x_scr)], [.int 2, .int i, .ref x_scr, .int (xs ((i + 1)).toNatClampNeg), .ref 75], h, 98, 10728)) lr_506 rfl ?_
  refine j_Lst (c' := (508, [(3, .int i), (2, .ref 75), (1, .ref 0), (0, .ref x_scr)], [.int (i + 2), .ref x_scr, .int (xs ((i + 1)).toNatClampNeg), .ref 75], h, 98, 10728)) lr_507 rfl ?_
  refine j_Lsl (c' := (509, [(3, .int i), (2, .ref 75), (1, .ref 0), (0, .ref x_scr)], [.int (xs ((i + 2)).toNatClampNeg), .int (xs ((i + 1)).toNatClampNeg), .ref 75], h, 98, 10728)) lr_508 rfl h2 ?_
  exact kk

set_option maxRecDepth 100000 in
theorem x_c5d (h : xH) (L : Nat) (xs : Nat → Int32) (i : Int32) (h0 : ¬ (i < 0 ∨ L ≤ (i).toNatClampNeg)) (h1 : ¬ (i + 1 < 0 ∨ L ≤ (i + 1).toNatClampNeg)) (h2 : ¬ (i + 2 < 0 ∨ L ≤ (i + 2).toNatClampNeg)) (h3 : ¬ (i + 3 < 0 ∨ L ≤ (i + 3).toNatClampNeg)) (h4 : ¬ (i + 4 < 0 ∨ L ≤ (i + 4).toNatClampNeg)) (h5 : ¬ (i + 5 < 0 ∨ L ≤ (i + 5).toNatClampNeg)) (w : Int32) {P : Option Value × xH × Nat × Nat → Prop} (kk : x_R x_mt (some (L, xs)) 10 M_law (18, [(3, .int (i + Int32.ofInt (6))), (2, .ref 75), (1, .ref 0), (0, .ref x_scr)], [], h, 98, 10728) P) : x_R x_mt (some (L, xs)) 10 M_law (512, [(3, .int i), (2, .ref 75), (1, .ref 0), (0, .ref x_scr)], [.int w], h, 98, 10728) P := by
  refine j_Lst (c' := (513, [(3, .int i), (2, .ref 75), (1, .ref 0), (0, .ref x_scr)], [], h, 98, 10728)) lr_512 rfl ?_
  refine j_Lst (c' := (2368, [(3, .int i), (2, .ref 75), (1, .ref 0), (0, .ref x_scr)], [], h, 98, 10728)) lr_513 rfl ?_
  refine j_Lst (c' := (2371, [(3, .int (i + Int32.ofInt (6))), (2, .ref 75), (1, .ref 0), (0, .ref x_scr)], [], h, 98, 10728)) lr_2368 rfl ?_
  refine j_Lst (c' := (18, [(3, .int (i + Int32.ofInt (6))), (2, .ref 75), (1, .ref 0), (0, .ref x_scr)], [], h, 98, 10728)) lr_2371 rfl ?_
  exact kk

set_option maxRecDepth 100000 in
theorem x_c6a (h : xH) (L : Nat) (xs : Nat → Int32) (i : Int32) (h0 : ¬ (i < 0 ∨ L ≤ (i).toNatClampNeg)) (h1 : ¬ (i + 1 < 0 ∨ L ≤ (i + 1).toNatClampNeg)) (h2 : ¬ (i + 2 < 0 ∨ L ≤ (i + 2).toNatClampNeg)) (h3 : ¬ (i + 3 < 0 ∨ L ≤ (i + 3).toNatClampNeg)) (h4 : ¬ (i + 4 < 0 ∨ L ≤ (i + 4).toNatClampNeg)) (h5 : ¬ (i + 5 < 0 ∨ L ≤ (i + 5).toNatClampNeg)) {P : Option Value × xH × Nat × Nat → Prop} (kk : x_R x_mt (some (L, xs)) 10 M_law (522, [(3, .int i), (2, .ref 75), (1, .ref 0), (0, .ref x_scr)], [.int (xs ((i + 1)).toNatClampNeg), .ref 0], h, 98, 10728) P) : x_R x_mt (some (L, xs)) 10 M_law (516, [(3, .int i), (2, .ref 75), (1, .ref 0), (0, .ref x_scr)], [], h, 98, 10728) P := by
  refine j_Lst (c' := (517, [(3, .int i), (2, .ref 75), (1, .ref 0), (0, .ref x_scr)], [.ref 0], h, 98, 10728)) lr_516 rfl ?_
  refine j_Lst (c' := (518, [(3, .int i), (2, .ref 75), (1, .ref 0), (0, .ref x_scr)], [.ref x_scr, .ref 0], h, 98, 10728)) lr_517 rfl ?_
  refine j_Lst (c' := (519, [(3, .int i), (2, .ref 75), (1, .ref 0), (0, .ref x_scr)], [.int i, .ref x_scr, .ref 0], h, 98, 10728)) lr_518 rfl ?_
  refine j_Lst (c' := (520, [(3, .int i), (2, .ref 75), (1, .ref 0), (0, .ref x_scr)], [.int 1, .int i, .ref x_scr, .ref 0], h, 98, 10728)) lr_519 rfl ?_
  refine j_Lst (c' := (521, [(3, .int i), (2, .ref 75), (1, .ref 0), (0, .ref x_scr)], [.int (i + 1), .ref x_scr, .ref 0], h, 98, 10728)) lr_520 rfl ?_
  refine j_Lsl (c' := (522, [(3, .int i), (2, .ref 75), (1, .ref 0), (0, .ref x_scr)], [.int (xs ((i + 1)).toNatClampNeg), .ref 0], h, 98, 10728)) lr_521 rfl h1 ?_
  exact kk

set_option maxRecDepth 100000 in
theorem x_c6b (h : xH) (L : Nat) (xs : Nat → Int32) (i : Int32) (h0 : ¬ (i < 0 ∨ L ≤ (i).toNatClampNeg)) (h1 : ¬ (i + 1 < 0 ∨ L ≤ (i + 1).toNatClampNeg)) (h2 : ¬ (i + 2 < 0 ∨ L ≤ (i + 2).toNatClampNeg)) (h3 : ¬ (i + 3 < 0 ∨ L ≤ (i + 3).toNatClampNeg)) (h4 : ¬ (i + 4 < 0 ∨ L ≤ (i + 4).toNatClampNeg)) (h5 : ¬ (i + 5 < 0 ∨ L ≤ (i + 5).toNatClampNeg)) (v : Int32) {P : Option Value × xH × Nat × Nat → Prop} (kk : x_R x_mt (some (L, xs)) 10 M_law (532, [(3, .int i), (2, .ref 75), (1, .ref 0), (0, .ref x_scr)], [.int (xs ((i + 1)).toNatClampNeg), .ref 75], h, 98, 10728) P) : x_R x_mt (some (L, xs)) 10 M_law (525, [(3, .int i), (2, .ref 75), (1, .ref 0), (0, .ref x_scr)], [.int v], h, 98, 10728) P := by
  refine j_Lst (c' := (526, [(3, .int i), (2, .ref 75), (1, .ref 0), (0, .ref x_scr)], [], h, 98, 10728)) lr_525 rfl ?_
  refine j_Lst (c' := (527, [(3, .int i), (2, .ref 75), (1, .ref 0), (0, .ref x_scr)], [.ref 75], h, 98, 10728)) lr_526 rfl ?_
  refine j_Lst (c' := (528, [(3, .int i), (2, .ref 75), (1, .ref 0), (0, .ref x_scr)], [.ref x_scr, .ref 75], h, 98, 10728)) lr_527 rfl ?_
  refine j_Lst (c' := (529, [(3, .int i), (2, .ref 75), (1, .ref 0), (0, .ref x_scr)], [.int i, .ref x_scr, .ref 75], h, 98, 10728)) lr_528 rfl ?_
  refine j_Lst (c' := (530, [(3, .int i), (2, .ref 75), (1, .ref 0), (0, .ref x_scr)], [.int 1, .int i, .ref x_scr, .ref 75], h, 98, 10728)) lr_529 rfl ?_
  refine j_Lst (c' := (531, [(3, .int i), (2, .ref 75), (1, .ref 0), (0, .ref x_scr)], [.int (i + 1), .ref x_scr, .ref 75], h, 98, 10728)) lr_530 rfl ?_
  refine j_Lsl (c' := (532, [(3, .int i), (2, .ref 75), (1, .ref 0), (0, .ref x_scr)], [.int (xs ((i + 1)).toNatClampNeg), .ref 75], h, 98, 10728)) lr_531 rfl h1 ?_
  exact kk

set_option maxRecDepth 100000 in
theorem x_c6d (h : xH) (L : Nat) (xs : Nat → Int32) (i : Int32) (h0 : ¬ (i < 0 ∨ L ≤ (i).toNatClampNeg)) (h1 : ¬ (i + 1 < 0 ∨ L ≤ (i + 1).toNatClampNeg)) (h2 : ¬ (i + 2 < 0 ∨ L ≤ (i + 2).toNatClampNeg)) (h3 : ¬ (i + 3 < 0 ∨ L ≤ (i + 3).toNatClampNeg)) (h4 : ¬ (i + 4 < 0 ∨ L ≤ (i + 4).toNatClampNeg)) (h5 : ¬ (i + 5 < 0 ∨ L ≤ (i + 5).toNatClampNeg)) (w : Int32) {P : Option Value × xH × Nat × Nat → Prop} (kk : x_R x_mt (some (L, xs)) 10 M_law (18, [(3, .int (i + Int32.ofInt (6))), (2, .ref 75), (1, .ref 0), (0, .ref x_scr)], [], h, 98, 10728) P) : x_R x_mt (some (L, xs)) 10 M_law (535, [(3, .int i), (2, .ref 75), (1, .ref 0), (0, .ref x_scr)], [.int w], h, 98, 10728) P := by
  refine j_Lst (c' := (536, [(3, .int i), (2, .ref 75), (1, .ref 0), (0, .ref x_scr)], [], h, 98, 10728)) lr_535 rfl ?_
  refine j_Lst (c' := (2368, [(3, .int i), (2, .ref 75), (1, .ref 0), (0, .ref x_scr)], [], h, 98, 10728)) lr_536 rfl ?_
  refine j_Lst (c' := (2371, [(3, .int (i + Int32.ofInt (6))), (2, .ref 75), (1, .ref 0), (0, .ref x_scr)], [], h, 98, 10728)) lr_2368 rfl ?_
  refine j_Lst (c' := (18, [(3, .int (i + Int32.ofInt (6))), (2, .ref 75), (1, .ref 0), (0, .ref x_scr)], [], h, 98, 10728)) lr_2371 rfl ?_
  exact kk

set_option maxRecDepth 100000 in
theorem x_c7a (h : xH) (L : Nat) (xs : Nat → Int32) (i : Int32) (h0 : ¬ (i < 0 ∨ L ≤ (i).toNatClampNeg)) (h1 : ¬ (i + 1 < 0 ∨ L ≤ (i + 1).toNatClampNeg)) (h2 : ¬ (i + 2 < 0 ∨ L ≤ (i + 2).toNatClampNeg)) (h3 : ¬ (i + 3 < 0 ∨ L ≤ (i + 3).toNatClampNeg)) (h4 : ¬ (i + 4 < 0 ∨ L ≤ (i + 4).toNatClampNeg)) (h5 : ¬ (i + 5 < 0 ∨ L ≤ (i + 5).toNatClampNeg)) {P : Option Value × xH × Nat × Nat → Prop} (kk : x_R x_mt (some (L, xs)) 10 M_law (540, [(3, .int i), (2, .ref 75), (1, .ref 0), (0, .ref x_scr)], [.ref 0], h, 98, 10728) P) : x_R x_mt (some (L, xs)) 10 M_law (539, [(3, .int i), (2, .ref 75), (1, .ref 0), (0, .ref x_scr)], [], h, 98, 10728) P := by
  refine j_Lst (c' := (540, [(3, .int i), (2, .ref 75), (1, .ref 0), (0, .ref x_scr)], [.ref 0], h, 98, 10728)) lr_539 rfl ?_
  exact kk

set_option maxRecDepth 100000 in
theorem x_c7b (h : xH) (L : Nat) (xs : Nat → Int32) (i : Int32) (h0 : ¬ (i < 0 ∨ L ≤ (i).toNatClampNeg)) (h1 : ¬ (i + 1 < 0 ∨ L ≤ (i + 1).toNatClampNeg)) (h2 : ¬ (i + 2 < 0 ∨ L ≤ (i + 2).toNatClampNeg)) (h3 : ¬ (i + 3 < 0 ∨ L ≤ (i + 3).toNatClampNeg)) (h4 : ¬ (i + 4 < 0 ∨ L ≤ (i + 4).toNatClampNeg)) (h5 : ¬ (i + 5 < 0 ∨ L ≤ (i + 5).toNatClampNeg)) (v : Int32) {P : Option Value × xH × Nat × Nat → Prop} (kk : x_R x_mt (some (L, xs)) 10 M_law (545, [(3, .int i), (2, .ref 75), (1, .ref 0), (0, .ref x_scr)], [.ref 75], h, 98, 10728) P) : x_R x_mt (some (L, xs)) 10 M_law (543, [(3, .int i), (2, .ref 75), (1, .ref 0), (0, .ref x_scr)], [.int v], h, 98, 10728) P := by
  refine j_Lst (c' := (544, [(3, .int i), (2, .ref 75), (1, .ref 0), (0, .ref x_scr)], [], h, 98, 10728)) lr_543 rfl ?_
  refine j_Lst (c' := (545, [(3, .int i), (2, .ref 75), (1, .ref 0), (0, .ref x_scr)], [.ref 75], h, 98, 10728)) lr_544 rfl ?_
  exact kk

set_option maxRecDepth 100000 in
theorem x_c7d (h : xH) (L : Nat) (xs : Nat → Int32) (i : Int32) (h0 : ¬ (i < 0 ∨ L ≤ (i).toNatClampNeg)) (h1 : ¬ (i + 1 < 0 ∨ L ≤ (i + 1).toNatClampNeg)) (h2 : ¬ (i + 2 < 0 ∨ L ≤ (i + 2).toNatClampNeg)) (h3 : ¬ (i + 3 < 0 ∨ L ≤ (i + 3).toNatClampNeg)) (h4 : ¬ (i + 4 < 0 ∨ L ≤ (i + 4).toNatClampNeg)) (h5 : ¬ (i + 5 < 0 ∨ L ≤ (i + 5).toNatClampNeg)) (w : Int32) {P : Option Value × xH × Nat × Nat → Prop} (kk : x_R x_mt (some (L, xs)) 10 M_law (18, [(3, .int (i + Int32.ofInt (6))), (2, .ref 75), (1, .ref 0), (0, .ref x_scr)], [], h, 98, 10728) P) : x_R x_mt (some (L, xs)) 10 M_law (548, [(3, .int i), (2, .ref 75), (1, .ref 0), (0, .ref x_scr)], [.int w], h, 98, 10728) P := by
  refine j_Lst (c' := (549, [(3, .int i), (2, .ref 75), (1, .ref 0), (0, .ref x_scr)], [], h, 98, 10728)) lr_548 rfl ?_
  refine j_Lst (c' := (2368, [(3, .int i), (2, .ref 75), (1, .ref 0), (0, .ref x_scr)], [], h, 98, 10728)) lr_549 rfl ?_
  refine j_Lst (c' := (2371, [(3, .int (i + Int32.ofInt (6))), (2, .ref 75), (1, .ref 0), (0, .ref x_scr)], [], h, 98, 10728)) lr_2368 rfl ?_
  refine j_Lst (c' := (18, [(3, .int (i + Int32.ofInt (6))), (2, .ref 75), (1, .ref 0), (0, .ref x_scr)], [], h, 98, 10728)) lr_2371 rfl ?_
  exact kk

set_option maxRecDepth 100000 in
theorem x_c8a (h : xH) (L : Nat) (xs : Nat → Int32) (i : Int32) (h0 : ¬ (i < 0 ∨ L ≤ (i).toNatClampNeg)) (h1 : ¬ (i + 1 < 0 ∨ L ≤ (i + 1).toNatClampNeg)) (h2 : ¬ (i + 2 < 0 ∨ L ≤ (i + 2).toNatClampNeg)) (h3 : ¬ (i + 3 < 0 ∨ L ≤ (i + 3).toNatClampNeg)) (h4 : ¬ (i + 4 < 0 ∨ L ≤ (i + 4).toNatClampNeg)) (h5 : ¬ (i + 5 < 0 ∨ L ≤ (i + 5).toNatClampNeg)) {P : Option Value × xH × Nat × Nat → Prop} (kk : x_R x_mt (some (L, xs)) 10 M_law (563, [(3, .int i), (2, .ref 75), (1, .ref 0), (0, .ref x_scr)], [.int (xs ((i + 2)).toNatClampNeg), .int (xs ((i + 1)).toNatClampNeg), .ref 0], h, 98, 10728) P) : x_R x_mt (some (L, xs)) 10 M_law (552, [(3, .int i), (2, .ref 75), (1, .ref 0), (0, .ref x_scr)], [], h, 98, 10728) P := by
  refine j_Lst (c' := (553, [(3, .int i), (2, .ref 75), (1, .ref 0), (0, .ref x_scr)], [.ref 0], h, 98, 10728)) lr_552 rfl ?_
  refine j_Lst (c' := (554, [(3, .int i), (2, .ref 75), (1, .ref 0), (0, .ref x_scr)], [.ref x_scr, .ref 0], h, 98, 10728)) lr_553 rfl ?_
  refine j_Lst (c' := (555, [(3, .int i), (2, .ref 75), (1, .ref 0), (0, .ref x_scr)], [.int i, .ref x_scr, .ref 0], h, 98, 10728)) lr_554 rfl ?_
  refine j_Lst (c' := (556, [(3, .int i), (2, .ref 75), (1, .ref 0), (0, .ref x_scr)], [.int 1, .int i, .ref x_scr, .ref 0], h, 98, 10728)) lr_555 rfl ?_
  refine j_Lst (c' := (557, [(3, .int i), (2, .ref 75), (1, .ref 0), (0, .ref x_scr)], [.int (i + 1), .ref x_scr, .ref 0], h, 98, 10728)) lr_556 rfl ?_
  refine j_Lsl (c' := (558, [(3, .int i), (2, .ref 75), (1, .ref 0), (0, .ref x_scr)], [.int (xs ((i + 1)).toNatClampNeg), .ref 0], h, 98, 10728)) lr_557 rfl h1 ?_
  refine j_Lst (c' := (559, [(3, .int i), (2, .ref 75), (1, .ref 0), (0, .ref x_scr)], [.ref x_scr, .int (xs ((i + 1)).toNatClampNeg), .ref 0], h, 98, 10728)) lr_558 rfl ?_
  refine j_Lst (c' := (560, [(3, .int i), (2, .ref 75), (1, .ref 0), (0, .ref x_scr)], [.int i, .ref x_scr, .int (xs ((i + 1)).toNatClampNeg), .ref 0], h, 98, 10728)) lr_559 rfl ?_
  refine j_Lst (c' := (561, [(3, .int i), (2, .ref 75), (1, .ref 0), (0, .ref x_scr)], [.int 2, .int i, .ref x_scr, .int (xs ((i + 1)).toNatClampNeg), .ref 0], h, 98, 10728)) lr_560 rfl ?_
  refine j_Lst (c' := (562, [(3, .int i), (2, .ref 75), (1, .ref 0), (0, .ref x_scr)], [.int (i + 2), .ref x_scr, .int (xs ((i + 1)).toNatClampNeg), .ref 0], h, 98, 10728)) lr_561 rfl ?_
  refine j_Lsl (c' := (563, [(3, .int i), (2, .ref 75), (1, .ref 0), (0, .ref x_scr)], [.int (xs ((i + 2)).toNatClampNeg), .int (xs ((i + 1)).toNatClampNeg), .ref 0], h, 98, 10728)) lr_562 rfl h2 ?_
  exact kk

set_option maxRecDepth 100000 in
theorem x_c8b (h : xH) (L : Nat) (xs : Nat → Int32) (i : Int32) (h0 : ¬ (i < 0 ∨ L ≤ (i).toNatClampNeg)) (h1 : ¬ (i + 1 < 0 ∨ L ≤ (i + 1).toNatClampNeg)) (h2 : ¬ (i + 2 < 0 ∨ L ≤ (i + 2).toNatClampNeg)) (h3 : ¬ (i + 3 < 0 ∨ L ≤ (i + 3).toNatClampNeg)) (h4 : ¬ (i + 4 < 0 ∨ L ≤ (i + 4).toNatClampNeg)) (h5 : ¬ (i + 5 < 0 ∨ L ≤ (i + 5).toNatClampNeg)) (v : Int32) {P : Option Value × xH × Nat × Nat → Prop} (kk : x_R x_mt (some (L, xs)) 10 M_law (578, [(3, .int i), (2, .ref 75), (1, .ref 0), (0, .ref x_scr)], [.int (xs ((i + 2)).toNatClampNeg), .int (xs ((i + 1)).toNatClampNeg), .ref 75], h, 98, 10728) P) : x_R x_mt (some (L, xs)) 10 M_law (566, [(3, .int i), (2, .ref 75), (1, .ref 0), (0, .ref x_scr)], [.int v], h, 98, 10728) P := by
  refine j_Lst (c' := (567, [(3, .int i), (2, .ref 75), (1, .ref 0), (0, .ref x_scr)], [], h, 98, 10728)) lr_566 rfl ?_
  refine j_Lst (c' := (568, [(3, .int i), (2, .ref 75), (1, .ref 0), (0, .ref x_scr)], [.ref 75], h, 98, 10728)) lr_567 rfl ?_
  refine j_Lst (c' := (569, [(3, .int i), (2, .ref 75), (1, .ref 0), (0, .ref x_scr)], [.ref x_scr, .ref 75], h, 98, 10728)) lr_568 rfl ?_
  refine j_Lst (c' := (570, [(3, .int i), (2, .ref 75), (1, .ref 0), (0, .ref x_scr)], [.int i, .ref x_scr, .ref 75], h, 98, 10728)) lr_569 rfl ?_
  refine j_Lst (c' := (571, [(3, .int i), (2, .ref 75), (1, .ref 0), (0, .ref x_scr)], [.int 1, .int i, .ref x_scr, .ref 75], h, 98, 10728)) lr_570 rfl ?_
  refine j_Lst (c' := (572, [(3, .int i), (2, .ref 75), (1, .ref 0), (0, .ref x_scr)], [.int (i + 1), .ref x_scr, .ref 75], h, 98, 10728)) lr_571 rfl ?_
  refine j_Lsl (c' := (573, [(3, .int i), (2, .ref 75), (1, .ref 0), (0, .ref x_scr)], [.int (xs ((i + 1)).toNatClampNeg), .ref 75], h, 98, 10728)) lr_572 rfl h1 ?_
  refine j_Lst (c' := (574, [(3, .int i), (2, .ref 75), (1, .ref 0), (0, .ref x_scr)], [.ref x_scr, .int (xs ((i + 1)).toNatClampNeg), .ref 75], h, 98, 10728)) lr_573 rfl ?_
  refine j_Lst (c' := (575, [(3, .int i), (2, .ref 75), (1, .ref 0), (0, .ref x_scr)], [.int i, .ref x_scr, .int (xs ((i + 1)).toNatClampNeg), .ref 75], h, 98, 10728)) lr_574 rfl ?_
  refine j_Lst (c' := (576, [(3, .int i), (2, .ref 75), (1, .ref 0), (0, .ref x_scr)], [.int 2, .int i, .ref x_scr, .int (xs ((i + 1)).toNatClampNeg), .ref 75], h, 98, 10728)) lr_575 rfl ?_
  refine j_Lst (c' := (577, [(3, .int i), (2, .ref 75), (1, .ref 0), (0, .ref x_scr)], [.int (i + 2), .ref x_scr, .int (xs ((i + 1)).toNatClampNeg), .ref 75], h, 98, 10728)) lr_576 rfl ?_
  refine j_Lsl (c' := (578, [(3, .int i), (2, .ref 75), (1, .ref 0), (0, .ref x_scr)], [.int (xs ((i + 2)).toNatClampNeg), .int (xs ((i + 1)).toNatClampNeg), .ref 75], h, 98, 10728)) lr_577 rfl h2 ?_
  exact kk

set_option maxRecDepth 100000 in
theorem x_c8d (h : xH) (L : Nat) (xs : Nat → Int32) (i : Int32) (h0 : ¬ (i < 0 ∨ L ≤ (i).toNatClampNeg)) (h1 : ¬ (i + 1 < 0 ∨ L ≤ (i + 1).toNatClampNeg)) (h2 : ¬ (i + 2 < 0 ∨ L ≤ (i + 2).toNatClampNeg)) (h3 : ¬ (i + 3 < 0 ∨ L ≤ (i + 3).toNatClampNeg)) (h4 : ¬ (i + 4 < 0 ∨ L ≤ (i + 4).toNatClampNeg)) (h5 : ¬ (i + 5 < 0 ∨ L ≤ (i + 5).toNatClampNeg)) (w : Int32) {P : Option Value × xH × Nat × Nat → Prop} (kk : x_R x_mt (some (L, xs)) 10 M_law (18, [(3, .int (i + Int32.ofInt (6))), (2, .ref 75), (1, .ref 0), (0, .ref x_scr)], [], h, 98, 10728) P) : x_R x_mt (some (L, xs)) 10 M_law (581, [(3, .int i), (2, .ref 75), (1, .ref 0), (0, .ref x_scr)], [.int w], h, 98, 10728) P := by
  refine j_Lst (c' := (582, [(3, .int i), (2, .ref 75), (1, .ref 0), (0, .ref x_scr)], [], h, 98, 10728)) lr_581 rfl ?_
  refine j_Lst (c' := (2368, [(3, .int i), (2, .ref 75), (1, .ref 0), (0, .ref x_scr)], [], h, 98, 10728)) lr_582 rfl ?_
  refine j_Lst (c' := (2371, [(3, .int (i + Int32.ofInt (6))), (2, .ref 75), (1, .ref 0), (0, .ref x_scr)], [], h, 98, 10728)) lr_2368 rfl ?_
  refine j_Lst (c' := (18, [(3, .int (i + Int32.ofInt (6))), (2, .ref 75), (1, .ref 0), (0, .ref x_scr)], [], h, 98, 10728)) lr_2371 rfl ?_
  exact kk

set_option maxRecDepth 100000 in
theorem x_c9a (h : xH) (L : Nat) (xs : Nat → Int32) (i : Int32) (h0 : ¬ (i < 0 ∨ L ≤ (i).toNatClampNeg)) (h1 : ¬ (i + 1 < 0 ∨ L ≤ (i + 1).toNatClampNeg)) (h2 : ¬ (i + 2 < 0 ∨ L ≤ (i + 2).toNatClampNeg)) (h3 : ¬ (i + 3 < 0 ∨ L ≤ (i + 3).toNatClampNeg)) (h4 : ¬ (i + 4 < 0 ∨ L ≤ (i + 4).toNatClampNeg)) (h5 : ¬ (i + 5 < 0 ∨ L ≤ (i + 5).toNatClampNeg)) {P : Option Value × xH × Nat × Nat → Prop} (kk : x_R x_mt (some (L, xs)) 10 M_law (591, [(3, .int i), (2, .ref 75), (1, .ref 0), (0, .ref x_scr)], [.int (xs ((i + 1)).toNatClampNeg), .ref 0], h, 98, 10728) P) : x_R x_mt (some (L, xs)) 10 M_law (585, [(3, .int i), (2, .ref 75), (1, .ref 0), (0, .ref x_scr)], [], h, 98, 10728) P := by
  refine j_Lst (c' := (586, [(3, .int i), (2, .ref 75), (1, .ref 0), (0, .ref x_scr)], [.ref 0], h, 98, 10728)) lr_585 rfl ?_
  refine j_Lst (c' := (587, [(3, .int i), (2, .ref 75), (1, .ref 0), (0, .ref x_scr)], [.ref x_scr, .ref 0], h, 98, 10728)) lr_586 rfl ?_
  refine j_Lst (c' := (588, [(3, .int i), (2, .ref 75), (1, .ref 0), (0, .ref x_scr)], [.int i, .ref x_scr, .ref 0], h, 98, 10728)) lr_587 rfl ?_
  refine j_Lst (c' := (589, [(3, .int i), (2, .ref 75), (1, .ref 0), (0, .ref x_scr)], [.int 1, .int i, .ref x_scr, .ref 0], h, 98, 10728)) lr_588 rfl ?_
  refine j_Lst (c' := (590, [(3, .int i), (2, .ref 75), (1, .ref 0), (0, .ref x_scr)], [.int (i + 1), .ref x_scr, .ref 0], h, 98, 10728)) lr_589 rfl ?_
  refine j_Lsl (c' := (591, [(3, .int i), (2, .ref 75), (1, .ref 0), (0, .ref x_scr)], [.int (xs ((i + 1)).toNatClampNeg), .ref 0], h, 98, 10728)) lr_590 rfl h1 ?_
  exact kk

set_option maxRecDepth 100000 in
theorem x_c9b (h : xH) (L : Nat) (xs : Nat → Int32) (i : Int32) (h0 : ¬ (i < 0 ∨ L ≤ (i).toNatClampNeg)) (h1 : ¬ (i + 1 < 0 ∨ L ≤ (i + 1).toNatClampNeg)) (h2 : ¬ (i + 2 < 0 ∨ L ≤ (i + 2).toNatClampNeg)) (h3 : ¬ (i + 3 < 0 ∨ L ≤ (i + 3).toNatClampNeg)) (h4 : ¬ (i + 4 < 0 ∨ L ≤ (i + 4).toNatClampNeg)) (h5 : ¬ (i + 5 < 0 ∨ L ≤ (i + 5).toNatClampNeg)) (v : Int32) {P : Option Value × xH × Nat × Nat → Prop} (kk : x_R x_mt (some (L, xs)) 10 M_law (601, [(3, .int i), (2, .ref 75), (1, .ref 0), (0, .ref x_scr)], [.int (xs ((i + 1)).toNatClampNeg), .ref 75], h, 98, 10728) P) : x_R x_mt (some (L, xs)) 10 M_law (594, [(3, .int i), (2, .ref 75), (1, .ref 0), (0, .ref x_scr)], [.int v], h, 98, 10728) P := by
  refine j_Lst (c' := (595, [(3, .int i), (2, .ref 75), (1, .ref 0), (0, .ref x_scr)], [], h, 98, 10728)) lr_594 rfl ?_
  refine j_Lst (c' := (596, [(3, .int i), (2, .ref 75), (1, .ref 0), (0, .ref x_scr)], [.ref 75], h, 98, 10728)) lr_595 rfl ?_
  refine j_Lst (c' := (597, [(3, .int i), (2, .ref 75), (1, .ref 0), (0, .ref x_scr)], [.ref x_scr, .ref 75], h, 98, 10728)) lr_596 rfl ?_
  refine j_Lst (c' := (598, [(3, .int i), (2, .ref 75), (1, .ref 0), (0, .ref x_scr)], [.int i, .ref x_scr, .ref 75], h, 98, 10728)) lr_597 rfl ?_
  refine j_Lst (c' := (599, [(3, .int i), (2, .ref 75), (1, .ref 0), (0, .ref x_scr)], [.int 1, .int i, .ref x_scr, .ref 75], h, 98, 10728)) lr_598 rfl ?_
  refine j_Lst (c' := (600, [(3, .int i), (2, .ref 75), (1, .ref 0), (0, .ref x_scr)], [.int (i + 1), .ref x_scr, .ref 75], h, 98, 10728)) lr_599 rfl ?_
  refine j_Lsl (c' := (601, [(3, .int i), (2, .ref 75), (1, .ref 0), (0, .ref x_scr)], [.int (xs ((i + 1)).toNatClampNeg), .ref 75], h, 98, 10728)) lr_600 rfl h1 ?_
  exact kk

set_option maxRecDepth 100000 in
theorem x_c9d (h : xH) (L : Nat) (xs : Nat → Int32) (i : Int32) (h0 : ¬ (i < 0 ∨ L ≤ (i).toNatClampNeg)) (h1 : ¬ (i + 1 < 0 ∨ L ≤ (i + 1).toNatClampNeg)) (h2 : ¬ (i + 2 < 0 ∨ L ≤ (i + 2).toNatClampNeg)) (h3 : ¬ (i + 3 < 0 ∨ L ≤ (i + 3).toNatClampNeg)) (h4 : ¬ (i + 4 < 0 ∨ L ≤ (i + 4).toNatClampNeg)) (h5 : ¬ (i + 5 < 0 ∨ L ≤ (i + 5).toNatClampNeg)) (w : Int32) {P : Option Value × xH × Nat × Nat → Prop} (kk : x_R x_mt (some (L, xs)) 10 M_law (18, [(3, .int (i + Int32.ofInt (6))), (2, .ref 75), (1, .ref 0), (0, .ref x_scr)], [], h, 98, 10728) P) : x_R x_mt (some (L, xs)) 10 M_law (604, [(3, .int i), (2, .ref 75), (1, .ref 0), (0, .ref x_scr)], [.int w], h, 98, 10728) P := by
  refine j_Lst (c' := (605, [(3, .int i), (2, .ref 75), (1, .ref 0), (0, .ref x_scr)], [], h, 98, 10728)) lr_604 rfl ?_
  refine j_Lst (c' := (2368, [(3, .int i), (2, .ref 75), (1, .ref 0), (0, .ref x_scr)], [], h, 98, 10728)) lr_605 rfl ?_
  refine j_Lst (c' := (2371, [(3, .int (i + Int32.ofInt (6))), (2, .ref 75), (1, .ref 0), (0, .ref x_scr)], [], h, 98, 10728)) lr_2368 rfl ?_
  refine j_Lst (c' := (18, [(3, .int (i + Int32.ofInt (6))), (2, .ref 75), (1, .ref 0), (0, .ref x_scr)], [], h, 98, 10728)) lr_2371 rfl ?_
  exact kk

set_option maxRecDepth 100000 in
theorem x_c10a (h : xH) (L : Nat) (xs : Nat → Int32) (i : Int32) (h0 : ¬ (i < 0 ∨ L ≤ (i).toNatClampNeg)) (h1 : ¬ (i + 1 < 0 ∨ L ≤ (i + 1).toNatClampNeg)) (h2 : ¬ (i + 2 < 0 ∨ L ≤ (i + 2).toNatClampNeg)) (h3 : ¬ (i + 3 < 0 ∨ L ≤ (i + 3).toNatClampNeg)) (h4 : ¬ (i + 4 < 0 ∨ L ≤ (i + 4).toNatClampNeg)) (h5 : ¬ (i + 5 < 0 ∨ L ≤ (i + 5).toNatClampNeg)) {P : Option Value × xH × Nat × Nat → Prop} (kk : x_R x_mt (some (L, xs)) 10 M_law (609, [(3, .int i), (2, .ref 75), (1, .ref 0), (0, .ref x_scr)], [.ref 0], h, 98, 10728) P) : x_R x_mt (some (L, xs)) 10 M_law (608, [(3, .int i), (2, .ref 75), (1, .ref 0), (0, .ref x_scr)], [], h, 98, 10728) P := by
  refine j_Lst (c' := (609, [(3, .int i), (2, .ref 75), (1, .ref 0), (0, .ref x_scr)], [.ref 0], h, 98, 10728)) lr_608 rfl ?_
  exact kk

set_option maxRecDepth 100000 in
theorem x_c10b (h : xH) (L : Nat) (xs : Nat → Int32) (i : Int32) (h0 : ¬ (i < 0 ∨ L ≤ (i).toNatClampNeg)) (h1 : ¬ (i + 1 < 0 ∨ L ≤ (i + 1).toNatClampNeg)) (h2 : ¬ (i + 2 < 0 ∨ L ≤ (i + 2).toNatClampNeg)) (h3 : ¬ (i + 3 < 0 ∨ L ≤ (i + 3).toNatClampNeg)) (h4 : ¬ (i + 4 < 0 ∨ L ≤ (i + 4).toNatClampNeg)) (h5 : ¬ (i + 5 < 0 ∨ L ≤ (i + 5).toNatClampNeg)) (v : Int32) {P : Option Value × xH × Nat × Nat → Prop} (kk : x_R x_mt (some (L, xs)) 10 M_law (614, [(3, .int i), (2, .ref 75), (1, .ref 0), (0, .ref x_scr)], [.ref 75], h, 98, 10728) P) : x_R x_mt (some (L, xs)) 10 M_law (612, [(3, .int i), (2, .ref 75), (1, .ref 0), (0, .ref x_scr)], [.int v], h, 98, 10728) P := by
  refine j_Lst (c' := (613, [(3, .int i), (2, .ref 75), (1, .ref 0), (0, .ref x_scr)], [], h, 98, 10728)) lr_612 rfl ?_
  refine j_Lst (c' := (614, [(3, .int i), (2, .ref 75), (1, .ref 0), (0, .ref x_scr)], [.ref 75], h, 98, 10728)) lr_613 rfl ?_
  exact kk

set_option maxRecDepth 100000 in
theorem x_c10d (h : xH) (L : Nat) (xs : Nat → Int32) (i : Int32) (h0 : ¬ (i < 0 ∨ L ≤ (i).toNatClampNeg)) (h1 : ¬ (i + 1 < 0 ∨ L ≤ (i + 1).toNatClampNeg)) (h2 : ¬ (i + 2 < 0 ∨ L ≤ (i + 2).toNatClampNeg)) (h3 : ¬ (i + 3 < 0 ∨ L ≤ (i + 3).toNatClampNeg)) (h4 : ¬ (i + 4 < 0 ∨ L ≤ (i + 4).toNatClampNeg)) (h5 : ¬ (i + 5 < 0 ∨ L ≤ (i + 5).toNatClampNeg)) (w : Int32) {P : Option Value × xH × Nat × Nat → Prop} (kk : x_R x_mt (some (L, xs)) 10 M_law (18, [(3, .int (i + Int32.ofInt (6))), (2, .ref 75), (1, .ref 0), (0, .ref x_scr)], [], h, 98, 10728) P) : x_R x_mt (some (L, xs)) 10 M_law (617, [(3, .int i), (2, .ref 75), (1, .ref 0), (0, .ref x_scr)], [.int w], h, 98, 10728) P := by
  refine j_Lst (c' := (618, [(3, .int i), (2, .ref 75), (1, .ref 0), (0, .ref x_scr)], [], h, 98, 10728)) lr_617 rfl ?_
  refine j_Lst (c' := (2368, [(3, .int i), (2, .ref 75), (1, .ref 0), (0, .ref x_scr)], [], h, 98, 10728)) lr_618 rfl ?_
  refine j_Lst (c' := (2371, [(3, .int (i + Int32.ofInt (6))), (2, .ref 75), (1, .ref 0), (0, .ref x_scr)], [], h, 98, 10728)) lr_2368 rfl ?_
  refine j_Lst (c' := (18, [(3, .int (i + Int32.ofInt (6))), (2, .ref 75), (1, .ref 0), (0, .ref x_scr)], [], h, 98, 10728)) lr_2371 rfl ?_
  exact kk

set_option maxRecDepth 100000 in
theorem x_c11a (h : xH) (L : Nat) (xs : Nat → Int32) (i : Int32) (h0 : ¬ (i < 0 ∨ L ≤ (i).toNatClampNeg)) (h1 : ¬ (i + 1 < 0 ∨ L ≤ (i + 1).toNatClampNeg)) (h2 : ¬ (i + 2 < 0 ∨ L ≤ (i + 2).toNatClampNeg)) (h3 : ¬ (i + 3 < 0 ∨ L ≤ (i + 3).toNatClampNeg)) (h4 : ¬ (i + 4 < 0 ∨ L ≤ (i + 4).toNatClampNeg)) (h5 : ¬ (i + 5 < 0 ∨ L ≤ (i + 5).toNatClampNeg)) {P : Option Value × xH × Nat × Nat → Prop} (kk : x_R x_mt (some (L, xs)) 10 M_law (632, [(3, .int i), (2, .ref 75), (1, .ref 0), (0, .ref x_scr)], [.int (xs ((i + 2)).toNatClampNeg), .int (xs ((i + 1)).toNatClampNeg), .ref 0], h, 98, 10728) P) : x_R x_mt (some (L, xs)) 10 M_law (621, [(3, .int i), (2, .ref 75), (1, .ref 0), (0, .ref x_scr)], [], h, 98, 10728) P := by
  refine j_Lst (c' := (622, [(3, .int i), (2, .ref 75), (1, .ref 0), (0, .ref x_scr)], [.ref 0], h, 98, 10728)) lr_621 rfl ?_
  refine j_Lst (c' := (623, [(3, .int i), (2, .ref 75), (1, .ref 0), (0, .ref x_scr)], [.ref x_scr, .ref 0], h, 98, 10728)) lr_622 rfl ?_
  refine j_Lst (c' := (624, [(3, .int i), (2, .ref 75), (1, .ref 0), (0, .ref x_scr)], [.int i, .ref x_scr, .ref 0], h, 98, 10728)) lr_623 rfl ?_
  refine j_Lst (c' := (625, [(3, .int i), (2, .ref 75), (1, .ref 0), (0, .ref x_scr)], [.int 1, .int i, .ref x_scr, .ref 0], h, 98, 10728)) lr_624 rfl ?_
  refine j_Lst (c' := (626, [(3, .int i), (2, .ref 75), (1, .ref 0), (0, .ref x_scr)], [.int (i + 1), .ref x_scr, .ref 0], h, 98, 10728)) lr_625 rfl ?_
  refine j_Lsl (c' := (627, [(3, .int i), (2, .ref 75), (1, .ref 0), (0, .ref x_scr)], [.int (xs ((i + 1)).toNatClampNeg), .ref 0], h, 98, 10728)) lr_626 rfl h1 ?_
  refine j_Lst (c' := (628, [(3, .int i), (2, .ref 75), (1, .ref 0), (0, .ref x_scr)], [.ref x_scr, .int (xs ((i + 1)).toNatClampNeg), .ref 0], h, 98, 10728)) lr_627 rfl ?_
  refine j_Lst (c' := (629, [(3, .int i), (2, .ref 75), (1, .ref 0), (0, .ref x_scr)], [.int i, .ref x_scr, .int (xs ((i + 1)).toNatClampNeg), .ref 0], h, 98, 10728)) lr_628 rfl ?_
  refine j_Lst (c' := (630, [(3, .int i), (2, .ref 75), (1, .ref 0), (0, .ref x_scr)], [.int 2, .int i, .ref x_scr, .int (xs ((i + 1)).toNatClampNeg), .ref 0], h, 98, 10728)) lr_629 rfl ?_
  refine j_Lst (c' := (631, [(3, .int i), (2, .ref 75), (1, .ref 0), (0, .ref x_scr)], [.int (i + 2), .ref x_scr, .int (xs ((i + 1)).toNatClampNeg), .ref 0], h, 98, 10728)) lr_630 rfl ?_
  refine j_Lsl (c' := (632, [(3, .int i), (2, .ref 75), (1, .ref 0), (0, .ref x_scr)], [.int (xs ((i + 2)).toNatClampNeg), .int (xs ((i + 1)).toNatClampNeg), .ref 0], h, 98, 10728)) lr_631 rfl h2 ?_
  exact kk

set_option maxRecDepth 100000 in
theorem x_c11b (h : xH) (L : Nat) (xs : Nat → Int32) (i : Int32) (h0 : ¬ (i < 0 ∨ L ≤ (i).toNatClampNeg)) (h1 : ¬ (i + 1 < 0 ∨ L ≤ (i + 1).toNatClampNeg)) (h2 : ¬ (i + 2 < 0 ∨ L ≤ (i + 2).toNatClampNeg)) (h3 : ¬ (i + 3 < 0 ∨ L ≤ (i + 3).toNatClampNeg)) (h4 : ¬ (i + 4 < 0 ∨ L ≤ (i + 4).toNatClampNeg)) (h5 : ¬ (i + 5 < 0 ∨ L ≤ (i + 5).toNatClampNeg)) (v : Int32) {P : Option Value × xH × Nat × Nat → Prop} (kk : x_R x_mt (some (L, xs)) 10 M_law (647, [(3, .int i), (2, .ref 75), (1, .ref 0), (0, .ref x_scr)], [.int (xs ((i + 2)).toNatClampNeg), .int (xs ((i + 1)).toNatClampNeg), .ref 75], h, 98, 10728) P) : x_R x_mt (some (L, xs)) 10 M_law (635, [(3, .int i), (2, .ref 75), (1, .ref 0), (0, .ref x_scr)], [.int v], h, 98, 10728) P := by
  refine j_Lst (c' := (636, [(3, .int i), (2, .ref 75), (1, .ref 0), (0, .ref x_scr)], [], h, 98, 10728)) lr_635 rfl ?_
  refine j_Lst (c' := (637, [(3, .int i), (2, .ref 75), (1, .ref 0), (0, .ref x_scr)], [.ref 75], h, 98, 10728)) lr_636 rfl ?_
  refine j_Lst (c' := (638, [(3, .int i), (2, .ref 75), (1, .ref 0), (0, .ref x_scr)], [.ref x_scr, .ref 75], h, 98, 10728)) lr_637 rfl ?_
  refine j_Lst (c' := (639, [(3, .int i), (2, .ref 75), (1, .ref 0), (0, .ref x_scr)], [.int i, .ref x_scr, .ref 75], h, 98, 10728)) lr_638 rfl ?_
  refine j_Lst (c' := (640, [(3, .int i), (2, .ref 75), (1, .ref 0), (0, .ref x_scr)], [.int 1, .int i, .ref x_scr, .ref 75], h, 98, 10728)) lr_639 rfl ?_
  refine j_Lst (c' := (641, [(3, .int i), (2, .ref 75), (1, .ref 0), (0, .ref x_scr)], [.int (i + 1), .ref x_scr, .ref 75], h, 98, 10728)) lr_640 rfl ?_
  refine j_Lsl (c' := (642, [(3, .int i), (2, .ref 75), (1, .ref 0), (0, .ref x_scr)], [.int (xs ((i + 1)).toNatClampNeg), .ref 75], h, 98, 10728)) lr_641 rfl h1 ?_
  refine j_Lst (c' := (643, [(3, .int i), (2, .ref 75), (1, .ref 0), (0, .ref x_scr)], [.ref x_scr, .int (xs ((i + 1)).toNatClampNeg), .ref 75], h, 98, 10728)) lr_642 rfl ?_
  refine j_Lst (c' := (644, [(3, .int i), (2, .ref 75), (1, .ref 0), (0, .ref x_scr)], [.int i, .ref x_scr, .int (xs ((i + 1)).toNatClampNeg), .ref 75], h, 98, 10728)) lr_643 rfl ?_
  refine j_Lst (c' := (645, [(3, .int i), (2, .ref 75), (1, .ref 0), (0, .ref x_scr)], [.int 2, .int i, .ref x_scr, .int (xs ((i + 1)).toNatClampNeg), .ref 75], h, 98, 10728)) lr_644 rfl ?_
  refine j_Lst (c' := (646, [(3, .int i), (2, .ref 75), (1, .ref 0), (0, .ref x_scr)], [.int (i + 2), .ref x_scr, .int (xs ((i + 1)).toNatClampNeg), .ref 75], h, 98, 10728)) lr_645 rfl ?_
  refine j_Lsl (c' := (647, [(3, .int i), (2, .ref 75), (1, .ref 0), (0, .ref x_scr)], [.int (xs ((i + 2)).toNatClampNeg), .int (xs ((i + 1)).toNatClampNeg), .ref 75], h, 98, 10728)) lr_646 rfl h2 ?_
  exact kk

set_option maxRecDepth 100000 in
theorem x_c11d (h : xH) (L : Nat) (xs : Nat → Int32) (i : Int32) (h0 : ¬ (i < 0 ∨ L ≤ (i).toNatClampNeg)) (h1 : ¬ (i + 1 < 0 ∨ L ≤ (i + 1).toNatClampNeg)) (h2 : ¬ (i + 2 < 0 ∨ L ≤ (i + 2).toNatClampNeg)) (h3 : ¬ (i + 3 < 0 ∨ L ≤ (i + 3).toNatClampNeg)) (h4 : ¬ (i + 4 < 0 ∨ L ≤ (i + 4).toNatClampNeg)) (h5 : ¬ (i + 5 < 0 ∨ L ≤ (i + 5).toNatClampNeg)) (w : Int32) {P : Option Value × xH × Nat × Nat → Prop} (kk : x_R x_mt (some (L, xs)) 10 M_law (18, [(3, .int (i + Int32.ofInt (6))), (2, .ref 75), (1, .ref 0), (0, .ref x_scr)], [], h, 98, 10728) P) : x_R x_mt (some (L, xs)) 10 M_law (650, [(3, .int i), (2, .ref 75), (1, .ref 0), (0, .ref x_scr)], [.int w], h, 98, 10728) P := by
  refine j_Lst (c' := (651, [(3, .int i), (2, .ref 75), (1, .ref 0), (0, .ref x_scr)], [], h, 98, 10728)) lr_650 rfl ?_
  refine j_Lst (c' := (2368, [(3, .int i), (2, .ref 75), (1, .ref 0), (0, .ref x_scr)], [], h, 98, 10728)) lr_651 rfl ?_
  refine j_Lst (c' := (2371, [(3, .int (i + Int32.ofInt (6))), (2, .ref 75), (1, .ref 0), (0, .ref x_scr)], [], h, 98, 10728)) lr_2368 rfl ?_
  refine j_Lst (c' := (18, [(3, .int (i + Int32.ofInt (6))), (2, .ref 75), (1, .ref 0), (0, .ref x_scr)], [], h, 98, 10728)) lr_2371 rfl ?_
  exact kk

set_option maxRecDepth 100000 in
theorem x_c12a (h : xH) (L : Nat) (xs : Nat → Int32) (i : Int32) (h0 : ¬ (i < 0 ∨ L ≤ (i).toNatClampNeg)) (h1 : ¬ (i + 1 < 0 ∨ L ≤ (i + 1).toNatClampNeg)) (h2 : ¬ (i + 2 < 0 ∨ L ≤ (i + 2).toNatClampNeg)) (h3 : ¬ (i + 3 < 0 ∨ L ≤ (i + 3).toNatClampNeg)) (h4 : ¬ (i + 4 < 0 ∨ L ≤ (i + 4).toNatClampNeg)) (h5 : ¬ (i + 5 < 0 ∨ L ≤ (i + 5).toNatClampNeg)) {P : Option Value × xH × Nat × Nat → Prop} (kk : x_R x_mt (some (L, xs)) 10 M_law (665, [(3, .int i), (2, .ref 75), (1, .ref 0), (0, .ref x_scr)], [.int (xs ((i + 2)).toNatClampNeg), .int (xs ((i + 1)).toNatClampNeg), .ref 0], h, 98, 10728) P) : x_R x_mt (some (L, xs)) 10 M_law (654, [(3, .int i), (2, .ref 75), (1, .ref 0), (0, .ref x_scr)], [], h, 98, 10728) P := by
  refine j_Lst (c' := (655, [(3, .int i), (2, .ref 75), (1, .ref 0), (0, .ref x_scr)], [.ref 0], h, 98, 10728)) lr_654 rfl ?_
  refine j_Lst (c' := (656, [(3, .int i), (2, .ref 75), (1, .ref 0), (0, .ref x_scr)], [.ref x_scr, .ref 0], h, 98, 10728)) lr_655 rfl ?_
  refine j_Lst (c' := (657, [(3, .int i), (2, .ref 75), (1, .ref 0), (0, .ref x_scr)], [.int i, .ref x_scr, .ref 0], h, 98, 10728)) lr_656 rfl ?_
  refine j_Lst (c' := (658, [(3, .int i), (2, .ref 75), (1, .ref 0), (0, .ref x_scr)], [.int 1, .int i, .ref x_scr, .ref 0], h, 98, 10728)) lr_657 rfl ?_
  refine j_Lst (c' := (659, [(3, .int i), (2, .ref 75), (1, .ref 0), (0, .ref x_scr)], [.int (i + 1), .ref x_scr, .ref 0], h, 98, 10728)) lr_658 rfl ?_
  refine j_Lsl (c' := (660, [(3, .int i), (2, .ref 75), (1, .ref 0), (0, .ref x_scr)], [.int (xs ((i + 1)).toNatClampNeg), .ref 0], h, 98, 10728)) lr_659 rfl h1 ?_
  refine j_Lst (c' := (661, [(3, .int i), (2, .ref 75), (1, .ref 0), (0, .ref x_scr)], [.ref x_scr, .int (xs ((i + 1)).toNatClampNeg), .ref 0], h, 98, 10728)) lr_660 rfl ?_
  refine j_Lst (c' := (662, [(3, .int i), (2, .ref 75), (1, .ref 0), (0, .ref x_scr)], [.int i, .ref x_scr, .int (xs ((i + 1)).toNatClampNeg), .ref 0], h, 98, 10728)) lr_661 rfl ?_
  refine j_Lst (c' := (663, [(3, .int i), (2, .ref 75), (1, .ref 0), (0, .ref x_scr)], [.int 2, .int i, .ref x_scr, .int (xs ((i + 1)).toNatClampNeg), .ref 0], h, 98, 10728)) lr_662 rfl ?_
  refine j_Lst (c' := (664, [(3, .int i), (2, .ref 75), (1, .ref 0), (0, .ref x_scr)], [.int (i + 2), .ref x_scr, .int (xs ((i + 1)).toNatClampNeg), .ref 0], h, 98, 10728)) lr_663 rfl ?_
  refine j_Lsl (c' := (665, [(3, .int i), (2, .ref 75), (1, .ref 0), (0, .ref x_scr)], [.int (xs ((i + 2)).toNatClampNeg), .int (xs ((i + 1)).toNatClampNeg), .ref 0], h, 98, 10728)) lr_664 rfl h2 ?_
  exact kk

set_option maxRecDepth 100000 in
theorem x_c12b (h : xH) (L : Nat) (xs : Nat → Int32) (i : Int32) (h0 : ¬ (i < 0 ∨ L ≤ (i).toNatClampNeg)) (h1 : ¬ (i + 1 < 0 ∨ L ≤ (i + 1).toNatClampNeg)) (h2 : ¬ (i + 2 < 0 ∨ L ≤ (i + 2).toNatClampNeg)) (h3 : ¬ (i + 3 < 0 ∨ L ≤ (i + 3).toNatClampNeg)) (h4 : ¬ (i + 4 < 0 ∨ L ≤ (i + 4).toNatClampNeg)) (h5 : ¬ (i + 5 < 0 ∨ L ≤ (i + 5).toNatClampNeg)) (v : Int32) {P : Option Value × xH × Nat × Nat → Prop} (kk : x_R x_mt (some (L, xs)) 10 M_law (680, [(3, .int i), (2, .ref 75), (1, .ref 0), (0, .ref x_scr)], [.int (xs ((i + 2)).toNatClampNeg), .int (xs ((i + 1)).toNatClampNeg), .ref 75], h, 98, 10728) P) : x_R x_mt (some (L, xs)) 10 M_law (668, [(3, .int i), (2, .ref 75), (1, .ref 0), (0, .ref x_scr)], [.int v], h, 98, 10728) P := by
  refine j_Lst (c' := (669, [(3, .int i), (2, .ref 75), (1, .ref 0), (0, .ref x_scr)], [], h, 98, 10728)) lr_668 rfl ?_
  refine j_Lst (c' := (670, [(3, .int i), (2, .ref 75), (1, .ref 0), (0, .ref x_scr)], [.ref 75], h, 98, 10728)) lr_669 rfl ?_
  refine j_Lst (c' := (671, [(3, .int i), (2, .ref 75), (1, .ref 0), (0, .ref x_scr)], [.ref x_scr, .ref 75], h, 98, 10728)) lr_670 rfl ?_
  refine j_Lst (c' := (672, [(3, .int i), (2, .ref 75), (1, .ref 0), (0, .ref x_scr)], [.int i, .ref x_scr, .ref 75], h, 98, 10728)) lr_671 rfl ?_
  refine j_Lst (c' := (673, [(3, .int i), (2, .ref 75), (1, .ref 0), (0, .ref x_scr)], [.int 1, .int i, .ref x_scr, .ref 75], h, 98, 10728)) lr_672 rfl ?_
  refine j_Lst (c' := (674, [(3, .int i), (2, .ref 75), (1, .ref 0), (0, .ref x_scr)], [.int (i + 1), .ref x_scr, .ref 75], h, 98, 10728)) lr_673 rfl ?_
  refine j_Lsl (c' := (675, [(3, .int i), (2, .ref 75), (1, .ref 0), (0, .ref x_scr)], [.int (xs ((i + 1)).toNatClampNeg), .ref 75], h, 98, 10728)) lr_674 rfl h1 ?_
  refine j_Lst (c' := (676, [(3, .int i), (2, .ref 75), (1, .ref 0), (0, .ref x_scr)], [.ref x_scr, .int (xs ((i + 1)).toNatClampNeg), .ref 75], h, 98, 10728)) lr_675 rfl ?_
  refine j_Lst (c' := (677, [(3, .int i), (2, .ref 75), (1, .ref 0), (0, .ref x_scr)], [.int i, .ref x_scr, .int (xs ((i + 1)).toNatClampNeg), .ref 75], h, 98, 10728)) lr_676 rfl ?_
  refine j_Lst (c' := (678, [(3, .int i), (2, .ref 75), (1, .ref 0), (0, .ref x_scr)], [.int 2, .int i, .ref x_scr, .int (xs ((i + 1)).toNatClampNeg), .ref 75], h, 98, 10728)) lr_677 rfl ?_
  refine j_Lst (c' := (679, [(3, .int i), (2, .ref 75), (1, .ref 0), (0, .ref x_scr)], [.int (i + 2), .ref x_scr, .int (xs ((i + 1)).toNatClampNeg), .ref 75], h, 98, 10728)) lr_678 rfl ?_
  refine j_Lsl (c' := (680, [(3, .int i), (2, .ref 75), (1, .ref 0), (0, .ref x_scr)], [.int (xs ((i + 2)).toNatClampNeg), .int (xs ((i + 1)).toNatClampNeg), .ref 75], h, 98, 10728)) lr_679 rfl h2 ?_
  exact kk

set_option maxRecDepth 100000 in
theorem x_c12d (h : xH) (L : Nat) (xs : Nat → Int32) (i : Int32) (h0 : ¬ (i < 0 ∨ L ≤ (i).toNatClampNeg)) (h1 : ¬ (i + 1 < 0 ∨ L ≤ (i + 1).toNatClampNeg)) (h2 : ¬ (i + 2 < 0 ∨ L ≤ (i + 2).toNatClampNeg)) (h3 : ¬ (i + 3 < 0 ∨ L ≤ (i + 3).toNatClampNeg)) (h4 : ¬ (i + 4 < 0 ∨ L ≤ (i + 4).toNatClampNeg)) (h5 : ¬ (i + 5 < 0 ∨ L ≤ (i + 5).toNatClampNeg)) (w : Int32) {P : Option Value × xH × Nat × Nat → Prop} (kk : x_R x_mt (some (L, xs)) 10 M_law (18, [(3, .int (i + Int32.ofInt (6))), (2, .ref 75), (1, .ref 0), (0, .ref x_scr)], [], h, 98, 10728) P) : x_R x_mt (some (L, xs)) 10 M_law (683, [(3, .int i), (2, .ref 75), (1, .ref 0), (0, .ref x_scr)], [.int w], h, 98, 10728) P := by
  refine j_Lst (c' := (684, [(3, .int i), (2, .ref 75), (1, .ref 0), (0, .ref x_scr)], [], h, 98, 10728)) lr_683 rfl ?_
  refine j_Lst (c' := (2368, [(3, .int i), (2, .ref 75), (1, .ref 0), (0, .ref x_scr)], [], h, 98, 10728)) lr_684 rfl ?_
  refine j_Lst (c' := (2371, [(3, .int (i + Int32.ofInt (6))), (2, .ref 75), (1, .ref 0), (0, .ref x_scr)], [], h, 98, 10728)) lr_2368 rfl ?_
  refine j_Lst (c' := (18, [(3, .int (i + Int32.ofInt (6))), (2, .ref 75), (1, .ref 0), (0, .ref x_scr)], [], h, 98, 10728)) lr_2371 rfl ?_
  exact kk

set_option maxRecDepth 100000 in
theorem x_c13a (h : xH) (L : Nat) (xs : Nat → Int32) (i : Int32) (h0 : ¬ (i < 0 ∨ L ≤ (i).toNatClampNeg)) (h1 : ¬ (i + 1 < 0 ∨ L ≤ (i + 1).toNatClampNeg)) (h2 : ¬ (i + 2 < 0 ∨ L ≤ (i + 2).toNatClampNeg)) (h3 : ¬ (i + 3 < 0 ∨ L ≤ (i + 3).toNatClampNeg)) (h4 : ¬ (i + 4 < 0 ∨ L ≤ (i + 4).toNatClampNeg)) (h5 : ¬ (i + 5 < 0 ∨ L ≤ (i + 5).toNatClampNeg)) {P : Option Value × xH × Nat × Nat → Prop} (kk : x_R x_mt (some (L, xs)) 10 M_law (698, [(3, .int i), (2, .ref 75), (1, .ref 0), (0, .ref x_scr)], [.int (xs ((i + 2)).toNatClampNeg), .int (xs ((i + 1)).toNatClampNeg), .ref 0], h, 98, 10728) P) : x_R x_mt (some (L, xs)) 10 M_law (687, [(3, .int i), (2, .ref 75), (1, .ref 0), (0, .ref x_scr)], [], h, 98, 10728) P := by
  refine j_Lst (c' := (688, [(3, .int i), (2, .ref 75), (1, .ref 0), (0, .ref x_scr)], [.ref 0], h, 98, 10728)) lr_687 rfl ?_
  refine j_Lst (c' := (689, [(3, .int i), (2, .ref 75), (1, .ref 0), (0, .ref x_scr)], [.ref x_scr, .ref 0], h, 98, 10728)) lr_688 rfl ?_
  refine j_Lst (c' := (690, [(3, .int i), (2, .ref 75), (1, .ref 0), (0, .ref x_scr)], [.int i, .ref x_scr, .ref 0], h, 98, 10728)) lr_689 rfl ?_
  refine j_Lst (c' := (691, [(3, .int i), (2, .ref 75), (1, .ref 0), (0, .ref x_scr)], [.int 1, .int i, .ref x_scr, .ref 0], h, 98, 10728)) lr_690 rfl ?_
  refine j_Lst (c' := (692, [(3, .int i), (2, .ref 75), (1, .ref 0), (0, .ref x_scr)], [.int (i + 1), .ref x_scr, .ref 0], h, 98, 10728)) lr_691 rfl ?_
  refine j_Lsl (c' := (693, [(3, .int i), (2, .ref 75), (1, .ref 0), (0, .ref x_scr)], [.int (xs ((i + 1)).toNatClampNeg), .ref 0], h, 98, 10728)) lr_692 rfl h1 ?_
  refine j_Lst (c' := (694, [(3, .int i), (2, .ref 75), (1, .ref 0), (0, .ref x_scr)], [.ref x_scr, .int (xs ((i + 1)).toNatClampNeg), .ref 0], h, 98, 10728)) lr_693 rfl ?_
  refine j_Lst (c' := (695, [(3, .int i), (2, .ref 75), (1, .ref 0), (0, .ref x_scr)], [.int i, .ref x_scr, .int (xs ((i + 1)).toNatClampNeg), .ref 0], h, 98, 10728)) lr_694 rfl ?_
  refine j_Lst (c' := (696, [(3, .int i), (2, .ref 75), (1, .ref 0), (0, .ref x_scr)], [.int 2, .int i, .ref x_scr, .int (xs ((i + 1)).toNatClampNeg), .ref 0], h, 98, 10728)) lr_695 rfl ?_
  refine j_Lst (c' := (697, [(3, .int i), (2, .ref 75), (1, .ref 0), (0, .ref x_scr)], [.int (i + 2), .ref x_scr, .int (xs ((i + 1)).toNatClampNeg), .ref 0], h, 98, 10728)) lr_696 rfl ?_
  refine j_Lsl (c' := (698, [(3, .int i), (2, .ref 75), (1, .ref 0), (0, .ref x_scr)], [.int (xs ((i + 2)).toNatClampNeg), .int (xs ((i + 1)).toNatClampNeg), .ref 0], h, 98, 10728)) lr_697 rfl h2 ?_
  exact kk

set_option maxRecDepth 100000 in
theorem x_c13b (h : xH) (L : Nat) (xs : Nat → Int32) (i : Int32) (h0 : ¬ (i < 0 ∨ L ≤ (i).toNatClampNeg)) (h1 : ¬ (i + 1 < 0 ∨ L ≤ (i + 1).toNatClampNeg)) (h2 : ¬ (i + 2 < 0 ∨ L ≤ (i + 2).toNatClampNeg)) (h3 : ¬ (i + 3 < 0 ∨ L ≤ (i + 3).toNatClampNeg)) (h4 : ¬ (i + 4 < 0 ∨ L ≤ (i + 4).toNatClampNeg)) (h5 : ¬ (i + 5 < 0 ∨ L ≤ (i + 5).toNatClampNeg)) (v : Int32) {P : Option Value × xH × Nat × Nat → Prop} (kk : x_R x_mt (some (L, xs)) 10 M_law (713, [(3, .int i), (2, .ref 75), (1, .ref 0), (0, .ref x_scr)], [.int (xs ((i + 2)).toNatClampNeg), .int (xs ((i + 1)).toNatClampNeg), .ref 75], h, 98, 10728) P) : x_R x_mt (some (L, xs)) 10 M_law (701, [(3, .int i), (2, .ref 75), (1, .ref 0), (0, .ref x_scr)], [.int v], h, 98, 10728) P := by
  refine j_Lst (c' := (702, [(3, .int i), (2, .ref 75), (1, .ref 0), (0, .ref x_scr)], [], h, 98, 10728)) lr_701 rfl ?_
  refine j_Lst (c' := (703, [(3, .int i), (2, .ref 75), (1, .ref 0), (0, .ref x_scr)], [.ref 75], h, 98, 10728)) lr_702 rfl ?_
  refine j_Lst (c' := (704, [(3, .int i), (2, .ref 75), (1, .ref 0), (0, .ref x_scr)], [.ref x_scr, .ref 75], h, 98, 10728)) lr_703 rfl ?_
  refine j_Lst (c' := (705, [(3, .int i), (2, .ref 75), (1, .ref 0), (0, .ref x_scr)], [.int i, .ref x_scr, .ref 75], h, 98, 10728)) lr_704 rfl ?_
  refine j_Lst (c' := (706, [(3, .int i), (2, .ref 75), (1, .ref 0), (0, .ref x_scr)], [.int 1, .int i, .ref x_scr, .ref 75], h, 98, 10728)) lr_705 rfl ?_
  refine j_Lst (c' := (707, [(3, .int i), (2, .ref 75), (1, .ref 0), (0, .ref x_scr)], [.int (i + 1), .ref x_scr, .ref 75], h, 98, 10728)) lr_706 rfl ?_
  refine j_Lsl (c' := (708, [(3, .int i), (2, .ref 75), (1, .ref 0), (0, .ref x_scr)], [.int (xs ((i + 1)).toNatClampNeg), .ref 75], h, 98, 10728)) lr_707 rfl h1 ?_
  refine j_Lst (c' := (709, [(3, .int i), (2, .ref 75), (1, .ref 0), (0, .ref x_scr)], [.ref x_scr, .int (xs ((i + 1)).toNatClampNeg), .ref 75], h, 98, 10728)) lr_708 rfl ?_
  refine j_Lst (c' := (710, [(3, .int i), (2, .ref 75), (1, .ref 0), (0, .ref x_scr)], [.int i, .ref x_scr, .int (xs ((i + 1)).toNatClampNeg), .ref 75], h, 98, 10728)) lr_709 rfl ?_
  refine j_Lst (c' := (711, [(3, .int i), (2, .ref 75), (1, .ref 0), (0, .ref x_scr)], [.int 2, .int i, .ref x_scr, .int (xs ((i + 1)).toNatClampNeg), .ref 75], h, 98, 10728)) lr_710 rfl ?_
  refine j_Lst (c' := (712, [(3, .int i), (2, .ref 75), (1, .ref 0), (0, .ref x_scr)], [.int (i + 2), .ref x_scr, .int (xs ((i + 1)).toNatClampNeg), .ref 75], h, 98, 10728)) lr_711 rfl ?_
  refine j_Lsl (c' := (713, [(3, .int i), (2, .ref 75), (1, .ref 0), (0, .ref x_scr)], [.int (xs ((i + 2)).toNatClampNeg), .int (xs ((i + 1)).toNatClampNeg), .ref 75], h, 98, 10728)) lr_712 rfl h2 ?_
  exact kk

set_option maxRecDepth 100000 in
theorem x_c13d (h : xH) (L : Nat) (xs : Nat → Int32) (i : Int32) (h0 : ¬ (i < 0 ∨ L ≤ (i).toNatClampNeg)) (h1 : ¬ (i + 1 < 0 ∨ L ≤ (i + 1).toNatClampNeg)) (h2 : ¬ (i + 2 < 0 ∨ L ≤ (i + 2).toNatClampNeg)) (h3 : ¬ (i + 3 < 0 ∨ L ≤ (i + 3).toNatClampNeg)) (h4 : ¬ (i + 4 < 0 ∨ L ≤ (i + 4).toNatClampNeg)) (h5 : ¬ (i + 5 < 0 ∨ L ≤ (i + 5).toNatClampNeg)) (w : Int32) {P : Option Value × xH × Nat × Nat → Prop} (kk : x_R x_mt (some (L, xs)) 10 M_law (18, [(3, .int (i + Int32.ofInt (6))), (2, .ref 75), (1, .ref 0), (0, .ref x_scr)], [], h, 98, 10728) P) : x_R x_mt (some (L, xs)) 10 M_law (716, [(3, .int i), (2, .ref 75), (1, .ref 0), (0, .ref x_scr)], [.int w], h, 98, 10728) P := by
  refine j_Lst (c' := (717, [(3, .int i), (2, .ref 75), (1, .ref 0), (0, .ref x_scr)], [], h, 98, 10728)) lr_716 rfl ?_
  refine j_Lst (c' := (2368, [(3, .int i), (2, .ref 75), (1, .ref 0), (0, .ref x_scr)], [], h, 98, 10728)) lr_717 rfl ?_
  refine j_Lst (c' := (2371, [(3, .int (i + Int32.ofInt (6))), (2, .ref 75), (1, .ref 0), (0, .ref x_scr)], [], h, 98, 10728)) lr_2368 rfl ?_
  refine j_Lst (c' := (18, [(3, .int (i + Int32.ofInt (6))), (2, .ref 75), (1, .ref 0), (0, .ref x_scr)], [], h, 98, 10728)) lr_2371 rfl ?_
  exact kk

set_option maxRecDepth 100000 in
theorem x_c14a (h : xH) (L : Nat) (xs : Nat → Int32) (i : Int32) (h0 : ¬ (i < 0 ∨ L ≤ (i).toNatClampNeg)) (h1 : ¬ (i + 1 < 0 ∨ L ≤ (i + 1).toNatClampNeg)) (h2 : ¬ (i + 2 < 0 ∨ L ≤ (i + 2).toNatClampNeg)) (h3 : ¬ (i + 3 < 0 ∨ L ≤ (i + 3).toNatClampNeg)) (h4 : ¬ (i + 4 < 0 ∨ L ≤ (i + 4).toNatClampNeg)) (h5 : ¬ (i + 5 < 0 ∨ L ≤ (i + 5).toNatClampNeg)) {P : Option Value × xH × Nat × Nat → Prop} (kk : x_R x_mt (some (L, xs)) 10 M_law (726, [(3, .int i), (2, .ref 75), (1, .ref 0), (0, .ref x_scr)], [.int (xs ((i + 1)).toNatClampNeg), .ref 0], h, 98, 10728) P) : x_R x_mt (some (L, xs)) 10 M_law (720, [(3, .int i), (2, .ref 75), (1, .ref 0), (0, .ref x_scr)], [], h, 98, 10728) P := by
  refine j_Lst (c' := (721, [(3, .int i), (2, .ref 75), (1, .ref 0), (0, .ref x_scr)], [.ref 0], h, 98, 10728)) lr_720 rfl ?_
  refine j_Lst (c' := (722, [(3, .int i), (2, .ref 75), (1, .ref 0), (0, .ref x_scr)], [.ref x_scr, .ref 0], h, 98, 10728)) lr_721 rfl ?_
  refine j_Lst (c' := (723, [(3, .int i), (2, .ref 75), (1, .ref 0), (0, .ref x_scr)], [.int i, .ref x_scr, .ref 0], h, 98, 10728)) lr_722 rfl ?_
  refine j_Lst (c' := (724, [(3, .int i), (2, .ref 75), (1, .ref 0), (0, .ref x_scr)], [.int 1, .int i, .ref x_scr, .ref 0], h, 98, 10728)) lr_723 rfl ?_
  refine j_Lst (c' := (725, [(3, .int i), (2, .ref 75), (1, .ref 0), (0, .ref x_scr)], [.int (i + 1), .ref x_scr, .ref 0], h, 98, 10728)) lr_724 rfl ?_
  refine j_Lsl (c' := (726, [(3, .int i), (2, .ref 75), (1, .ref 0), (0, .ref x_scr)], [.int (xs ((i + 1)).toNatClampNeg), .ref 0], h, 98, 10728)) lr_725 rfl h1 ?_
  exact kk

set_option maxRecDepth 100000 in
theorem x_c14b (h : xH) (L : Nat) (xs : Nat → Int32) (i : Int32) (h0 : ¬ (i < 0 ∨ L ≤ (i).toNatClampNeg)) (h1 : ¬ (i + 1 < 0 ∨ L ≤ (i + 1).toNatClampNeg)) (h2 : ¬ (i + 2 < 0 ∨ L ≤ (i + 2).toNatClampNeg)) (h3 : ¬ (i + 3 < 0 ∨ L ≤ (i + 3).toNatClampNeg)) (h4 : ¬ (i + 4 < 0 ∨ L ≤ (i + 4).toNatClampNeg)) (h5 : ¬ (i + 5 < 0 ∨ L ≤ (i + 5).toNatClampNeg)) (v : Int32) {P : Option Value × xH × Nat × Nat → Prop} (kk : x_R x_mt (some (L, xs)) 10 M_law (736, [(3, .int i), (2, .ref 75), (1, .ref 0), (0, .ref x_scr)], [.int (xs ((i + 1)).toNatClampNeg), .ref 75], h, 98, 10728) P) : x_R x_mt (some (L, xs)) 10 M_law (729, [(3, .int i), (2, .ref 75), (1, .ref 0), (0, .ref x_scr)], [.int v], h, 98, 10728) P := by
  refine j_Lst (c' := (730, [(3, .int i), (2, .ref 75), (1, .ref 0), (0, .ref x_scr)], [], h, 98, 10728)) lr_729 rfl ?_
  refine j_Lst (c' := (731, [(3, .int i), (2, .ref 75), (1, .ref 0), (0, .ref x_scr)], [.ref 75], h, 98, 10728)) lr_730 rfl ?_
  refine j_Lst (c' := (732, [(3, .int i), (2, .ref 75), (1, .ref 0), (0, .ref x_scr)], [.ref x_scr, .ref 75], h, 98, 10728)) lr_731 rfl ?_
  refine j_Lst (c' := (733, [(3, .int i), (2, .ref 75), (1, .ref 0), (0, .ref x_scr)], [.int i, .ref x_scr, .ref 75], h, 98, 10728)) lr_732 rfl ?_
  refine j_Lst (c' := (734, [(3, .int i), (2, .ref 75), (1, .ref 0), (0, .ref x_scr)], [.int 1, .int i, .ref x_scr, .ref 75], h, 98, 10728)) lr_733 rfl ?_
  refine j_Lst (c' := (735, [(3, .int i), (2, .ref 75), (1, .ref 0), (0, .ref x_scr)], [.int (i + 1), .ref x_scr, .ref 75], h, 98, 10728)) lr_734 rfl ?_
  refine j_Lsl (c' := (736, [(3, .int i), (2, .ref 75), (1, .ref 0), (0, .ref x_scr)], [.int (xs ((i + 1)).toNatClampNeg), .ref 75], h, 98, 10728)) lr_735 rfl h1 ?_
  exact kk

set_option maxRecDepth 100000 in
theorem x_c14d (h : xH) (L : Nat) (xs : Nat → Int32) (i : Int32) (h0 : ¬ (i < 0 ∨ L ≤ (i).toNatClampNeg)) (h1 : ¬ (i + 1 < 0 ∨ L ≤ (i + 1).toNatClampNeg)) (h2 : ¬ (i + 2 < 0 ∨ L ≤ (i + 2).toNatClampNeg)) (h3 : ¬ (i + 3 < 0 ∨ L ≤ (i + 3).toNatClampNeg)) (h4 : ¬ (i + 4 < 0 ∨ L ≤ (i + 4).toNatClampNeg)) (h5 : ¬ (i + 5 < 0 ∨ L ≤ (i + 5).toNatClampNeg)) (w : Int32) {P : Option Value × xH × Nat × Nat → Prop} (kk : x_R x_mt (some (L, xs)) 10 M_law (18, [(3, .int (i + Int32.ofInt (6))), (2, .ref 75), (1, .ref 0), (0, .ref x_scr)], [], h, 98, 10728) P) : x_R x_mt (some (L, xs)) 10 M_law (739, [(3, .int i), (2, .ref 75), (1, .ref 0), (0, .ref x_scr)], [.int w], h, 98, 10728) P := by
  refine j_Lst (c' := (740, [(3, .int i), (2, .ref 75), (1, .ref 0), (0, .ref x_scr)], [], h, 98, 10728)) lr_739 rfl ?_
  refine j_Lst (c' := (2368, [(3, .int i), (2, .ref 75), (1, .ref 0), (0, .ref x_scr)], [], h, 98, 10728)) lr_740 rfl ?_
  refine j_Lst (c' := (2371, [(3, .int (i + Int32.ofInt (6))), (2, .ref 75), (1, .ref 0), (0, .ref x_scr)], [], h, 98, 10728)) lr_2368 rfl ?_
  refine j_Lst (c' := (18, [(3, .int (i + Int32.ofInt (6))), (2, .ref 75), (1, .ref 0), (0, .ref x_scr)], [], h, 98, 10728)) lr_2371 rfl ?_
  exact kk

set_option maxRecDepth 100000 in
theorem x_c15a (h : xH) (L : Nat) (xs : Nat → Int32) (i : Int32) (h0 : ¬ (i < 0 ∨ L ≤ (i).toNatClampNeg)) (h1 : ¬ (i + 1 < 0 ∨ L ≤ (i + 1).toNatClampNeg)) (h2 : ¬ (i + 2 < 0 ∨ L ≤ (i + 2).toNatClampNeg)) (h3 : ¬ (i + 3 < 0 ∨ L ≤ (i + 3).toNatClampNeg)) (h4 : ¬ (i + 4 < 0 ∨ L ≤ (i + 4).toNatClampNeg)) (h5 : ¬ (i + 5 < 0 ∨ L ≤ (i + 5).toNatClampNeg)) {P : Option Value × xH × Nat × Nat → Prop} (kk : x_R x_mt (some (L, xs)) 10 M_law (754, [(3, .int i), (2, .ref 75), (1, .ref 0), (0, .ref x_scr)], [.int (xs ((i + 2)).toNatClampNeg), .int (xs ((i + 1)).toNatClampNeg), .ref 0], h, 98, 10728) P) : x_R x_mt (some (L, xs)) 10 M_law (743, [(3, .int i), (2, .ref 75), (1, .ref 0), (0, .ref x_scr)], [], h, 98, 10728) P := by
  refine j_Lst (c' := (744, [(3, .int i), (2, .ref 75), (1, .ref 0), (0, .ref x_scr)], [.ref 0], h, 98, 10728)) lr_743 rfl ?_
  refine j_Lst (c' := (745, [(3, .int i), (2, .ref 75), (1, .ref 0), (0, .ref x_scr)], [.ref x_scr, .ref 0], h, 98, 10728)) lr_744 rfl ?_
  refine j_Lst (c' := (746, [(3, .int i), (2, .ref 75), (1, .ref 0), (0, .ref x_scr)], [.int i, .ref x_scr, .ref 0], h, 98, 10728)) lr_745 rfl ?_
  refine j_Lst (c' := (747, [(3, .int i), (2, .ref 75), (1, .ref 0), (0, .ref x_scr)], [.int 1, .int i, .ref x_scr, .ref 0], h, 98, 10728)) lr_746 rfl ?_
  refine j_Lst (c' := (748, [(3, .int i), (2, .ref 75), (1, .ref 0), (0, .ref x_scr)], [.int (i + 1), .ref x_scr, .ref 0], h, 98, 10728)) lr_747 rfl ?_
  refine j_Lsl (c' := (749, [(3, .int i), (2, .ref 75), (1, .ref 0), (0, .ref x_scr)], [.int (xs ((i + 1)).toNatClampNeg), .ref 0], h, 98, 10728)) lr_748 rfl h1 ?_
  refine j_Lst (c' := (750, [(3, .int i), (2, .ref 75), (1, .ref 0), (0, .ref x_scr)], [.ref x_scr, .int (xs ((i + 1)).toNatClampNeg), .ref 0], h, 98, 10728)) lr_749 rfl ?_
  refine j_Lst (c' := (751, [(3, .int i), (2, .ref 75), (1, .ref 0), (0, .ref x_scr)], [.int i, .ref x_scr, .int (xs ((i + 1)).toNatClampNeg), .ref 0], h, 98, 10728)) lr_750 rfl ?_
  refine j_Lst (c' := (752, [(3, .int i), (2, .ref 75), (1, .ref 0), (0, .ref x_scr)], [.int 2, .int i, .ref x_scr, .int (xs ((i + 1)).toNatClampNeg), .ref 0], h, 98, 10728)) lr_751 rfl ?_
  refine j_Lst (c' := (753, [(3, .int i), (2, .ref 75), (1, .ref 0), (0, .ref x_scr)], [.int (i + 2), .ref x_scr, .int (xs ((i + 1)).toNatClampNeg), .ref 0], h, 98, 10728)) lr_752 rfl ?_
  refine j_Lsl (c' := (754, [(3, .int i), (2, .ref 75), (1, .ref 0), (0, .ref x_scr)], [.int (xs ((i + 2)).toNatClampNeg), .int (xs ((i + 1)).toNatClampNeg), .ref 0], h, 98, 10728)) lr_753 rfl h2 ?_
  exact kk

set_option maxRecDepth 100000 in
theorem x_c15b (h : xH) (L : Nat) (xs : Nat → Int32) (i : Int32) (h0 : ¬ (i < 0 ∨ L ≤ (i).toNatClampNeg)) (h1 : ¬ (i + 1 < 0 ∨ L ≤ (i + 1).toNatClampNeg)) (h2 : ¬ (i + 2 < 0 ∨ L ≤ (i + 2).toNatClampNeg)) (h3 : ¬ (i + 3 < 0 ∨ L ≤ (i + 3).toNatClampNeg)) (h4 : ¬ (i + 4 < 0 ∨ L ≤ (i + 4).toNatClampNeg)) (h5 : ¬ (i + 5 < 0 ∨ L ≤ (i + 5).toNatClampNeg)) (v : Int32) {P : Option Value × xH × Nat × Nat → Prop} (kk : x_R x_mt (some (L, xs)) 10 M_law (769, [(3, .int i), (2, .ref 75), (1, .ref 0), (0, .ref x_scr)], [.int (xs ((i + 2)).toNatClampNeg), .int (xs ((i + 1)).toNatClampNeg), .ref 75], h, 98, 10728) P) : x_R x_mt (some (L, xs)) 10 M_law (757, [(3, .int i), (2, .ref 75), (1, .ref 0), (0, .ref x_scr)], [.int v], h, 98, 10728) P := by
  refine j_Lst (c' := (758, [(3, .int i), (2, .ref 75), (1, .ref 0), (0, .ref x_scr)], [], h, 98, 10728)) lr_757 rfl ?_
  refine j_Lst (c' := (759, [(3, .int i), (2, .ref 75), (1, .ref 0), (0, .ref x_scr)], [.ref 75], h, 98, 10728)) lr_758 rfl ?_
  refine j_Lst (c' := (760, [(3, .int i), (2, .ref 75), (1, .ref 0), (0, .ref x_scr)], [.ref x_scr, .ref 75], h, 98, 10728)) lr_759 rfl ?_
  refine j_Lst (c' := (761, [(3, .int i), (2, .ref 75), (1, .ref 0), (0, .ref x_scr)], [.int i, .ref x_scr, .ref 75], h, 98, 10728)) lr_760 rfl ?_
  refine j_Lst (c' := (762, [(3, .int i), (2, .ref 75), (1, .ref 0), (0, .ref x_scr)], [.int 1, .int i, .ref x_scr, .ref 75], h, 98, 10728)) lr_761 rfl ?_
  refine j_Lst (c' := (763, [(3, .int i), (2, .ref 75), (1, .ref 0), (0, .ref x_scr)], [.int (i + 1), .ref x_scr, .ref 75], h, 98, 10728)) lr_762 rfl ?_
  refine j_Lsl (c' := (764, [(3, .int i), (2, .ref 75), (1, .ref 0), (0, .ref x_scr)], [.int (xs ((i + 1)).toNatClampNeg), .ref 75], h, 98, 10728)) lr_763 rfl h1 ?_
  refine j_Lst (c' := (765, [(3, .int i), (2, .ref 75), (1, .ref 0), (0, .ref x_scr)], [.ref x_scr, .int (xs ((i + 1)).toNatClampNeg), .ref 75], h, 98, 10728)) lr_764 rfl ?_
  refine j_Lst (c' := (766, [(3, .int i), (2, .ref 75), (1, .ref 0), (0, .ref x_scr)], [.int i, .ref x_scr, .int (xs ((i + 1)).toNatClampNeg), .ref 75], h, 98, 10728)) lr_765 rfl ?_
  refine j_Lst (c' := (767, [(3, .int i), (2, .ref 75), (1, .ref 0), (0, .ref x_scr)], [.int 2, .int i, .ref x_scr, .int (xs ((i + 1)).toNatClampNeg), .ref 75], h, 98, 10728)) lr_766 rfl ?_
  refine j_Lst (c' := (768, [(3, .int i), (2, .ref 75), (1, .ref 0), (0, .ref x_scr)], [.int (i + 2), .ref x_scr, .int (xs ((i + 1)).toNatClampNeg), .ref 75], h, 98, 10728)) lr_767 rfl ?_
  refine j_Lsl (c' := (769, [(3, .int i), (2, .ref 75), (1, .ref 0), (0, .ref x_scr)], [.int (xs ((i + 2)).toNatClampNeg), .int (xs ((i + 1)).toNatClampNeg), .ref 75], h, 98, 10728)) lr_768 rfl h2 ?_
  exact kk

set_option maxRecDepth 100000 in
theorem x_c15d (h : xH) (L : Nat) (xs : Nat → Int32) (i : Int32) (h0 : ¬ (i < 0 ∨ L ≤ (i).toNatClampNeg)) (h1 : ¬ (i + 1 < 0 ∨ L ≤ (i + 1).toNatClampNeg)) (h2 : ¬ (i + 2 < 0 ∨ L ≤ (i + 2).toNatClampNeg)) (h3 : ¬ (i + 3 < 0 ∨ L ≤ (i + 3).toNatClampNeg)) (h4 : ¬ (i + 4 < 0 ∨ L ≤ (i + 4).toNatClampNeg)) (h5 : ¬ (i + 5 < 0 ∨ L ≤ (i + 5).toNatClampNeg)) (w : Int32) {P : Option Value × xH × Nat × Nat → Prop} (kk : x_R x_mt (some (L, xs)) 10 M_law (18, [(3, .int (i + Int32.ofInt (6))), (2, .ref 75), (1, .ref 0), (0, .ref x_scr)], [], h, 98, 10728) P) : x_R x_mt (some (L, xs)) 10 M_law (772, [(3, .int i), (2, .ref 75), (1, .ref 0), (0, .ref x_scr)], [.int w], h, 98, 10728) P := by
  refine j_Lst (c' := (773, [(3, .int i), (2, .ref 75), (1, .ref 0), (0, .ref x_scr)], [], h, 98, 10728)) lr_772 rfl ?_
  refine j_Lst (c' := (2368, [(3, .int i), (2, .ref 75), (1, .ref 0), (0, .ref x_scr)], [], h, 98, 10728)) lr_773 rfl ?_
  refine j_Lst (c' := (2371, [(3, .int (i + Int32.ofInt (6))), (2, .ref 75), (1, .ref 0), (0, .ref x_scr)], [], h, 98, 10728)) lr_2368 rfl ?_
  refine j_Lst (c' := (18, [(3, .int (i + Int32.ofInt (6))), (2, .ref 75), (1, .ref 0), (0, .ref x_scr)], [], h, 98, 10728)) lr_2371 rfl ?_
  exact kk

set_option maxRecDepth 100000 in
theorem x_c16a (h : xH) (L : Nat) (xs : Nat → Int32) (i : Int32) (h0 : ¬ (i < 0 ∨ L ≤ (i).toNatClampNeg)) (h1 : ¬ (i + 1 < 0 ∨ L ≤ (i + 1).toNatClampNeg)) (h2 : ¬ (i + 2 < 0 ∨ L ≤ (i + 2).toNatClampNeg)) (h3 : ¬ (i + 3 < 0 ∨ L ≤ (i + 3).toNatClampNeg)) (h4 : ¬ (i + 4 < 0 ∨ L ≤ (i + 4).toNatClampNeg)) (h5 : ¬ (i + 5 < 0 ∨ L ≤ (i + 5).toNatClampNeg)) {P : Option Value × xH × Nat × Nat → Prop} (kk : x_R x_mt (some (L, xs)) 10 M_law (787, [(3, .int i), (2, .ref 75), (1, .ref 0), (0, .ref x_scr)], [.int (xs ((i + 2)).toNatClampNeg), .int (xs ((i + 1)).toNatClampNeg), .ref 0], h, 98, 10728) P) : x_R x_mt (some (L, xs)) 10 M_law (776, [(3, .int i), (2, .ref 75), (1, .ref 0), (0, .ref x_scr)], [], h, 98, 10728) P := by
  refine j_Lst (c' := (777, [(3, .int i), (2, .ref 75), (1, .ref 0), (0, .ref x_scr)], [.ref 0], h, 98, 10728)) lr_776 rfl ?_
  refine j_Lst (c' := (778, [(3, .int i), (2, .ref 75), (1, .ref 0), (0, .ref x_scr)], [.ref x_scr, .ref 0], h, 98, 10728)) lr_777 rfl ?_
  refine j_Lst (c' := (779, [(3, .int i), (2, .ref 75), (1, .ref 0), (0, .ref x_scr)], [.int i, .ref x_scr, .ref 0], h, 98, 10728)) lr_778 rfl ?_
  refine j_Lst (c' := (780, [(3, .int i), (2, .ref 75), (1, .ref 0), (0, .ref x_scr)], [.int 1, .int i, .ref x_scr, .ref 0], h, 98, 10728)) lr_779 rfl ?_
  refine j_Lst (c' := (781, [(3, .int i), (2, .ref 75), (1, .ref 0), (0, .ref x_scr)], [.int (i + 1), .ref x_scr, .ref 0], h, 98, 10728)) lr_780 rfl ?_
  refine j_Lsl (c' := (782, [(3, .int i), (2, .ref 75), (1, .ref 0), (0, .ref x_scr)], [.int (xs ((i + 1)).toNatClampNeg), .ref 0], h, 98, 10728)) lr_781 rfl h1 ?_
  refine j_Lst (c' := (783, [(3, .int i), (2, .ref 75), (1, .ref 0), (0, .ref x_scr)], [.ref x_scr, .int (xs ((i + 1)).toNatClampNeg), .ref 0], h, 98, 10728)) lr_782 rfl ?_
  refine j_Lst (c' := (784, [(3, .int i), (2, .ref 75), (1, .ref 0), (0, .ref x_scr)], [.int i, .ref x_scr, .int (xs ((i + 1)).toNatClampNeg), .ref 0], h, 98, 10728)) lr_783 rfl ?_
  refine j_Lst (c' := (785, [(3, .int i), (2, .ref 75), (1, .ref 0), (0, .ref x_scr)], [.int 2, .int i, .ref x_scr, .int (xs ((i + 1)).toNatClampNeg), .ref 0], h, 98, 10728)) lr_784 rfl ?_
  refine j_Lst (c' := (786, [(3, .int i), (2, .ref 75), (1, .ref 0), (0, .ref x_scr)], [.int (i + 2), .ref x_scr, .int (xs ((i + 1)).toNatClampNeg), .ref 0], h, 98, 10728)) lr_785 rfl ?_
  refine j_Lsl (c' := (787, [(3, .int i), (2, .ref 75), (1, .ref 0), (0, .ref x_scr)], [.int (xs ((i + 2)).toNatClampNeg), .int (xs ((i + 1)).toNatClampNeg), .ref 0], h, 98, 10728)) lr_786 rfl h2 ?_
  exact kk

set_option maxRecDepth 100000 in
theorem x_c16b (h : xH) (L : Nat) (xs : Nat → Int32) (i : Int32) (h0 : ¬ (i < 0 ∨ L ≤ (i).toNatClampNeg)) (h1 : ¬ (i + 1 < 0 ∨ L ≤ (i + 1).toNatClampNeg)) (h2 : ¬ (i + 2 < 0 ∨ L ≤ (i + 2).toNatClampNeg)) (h3 : ¬ (i + 3 < 0 ∨ L ≤ (i + 3).toNatClampNeg)) (h4 : ¬ (i + 4 < 0 ∨ L ≤ (i + 4).toNatClampNeg)) (h5 : ¬ (i + 5 < 0 ∨ L ≤ (i + 5).toNatClampNeg)) (v : Int32) {P : Option Value × xH × Nat × Nat → Prop} (kk : x_R x_mt (some (L, xs)) 10 M_law (802, [(3, .int i), (2, .ref 75), (1, .ref 0), (0, .ref x_scr)], [.int (xs ((i + 2)).toNatClampNeg), .int (xs ((i + 1)).toNatClampNeg), .ref 75], h, 98, 10728) P) : x_R x_mt (some (L, xs)) 10 M_law (790, [(3, .int i), (2, .ref 75), (1, .ref 0), (0, .ref x_scr)], [.int v], h, 98, 10728) P := by
  refine j_Lst (c' := (791, [(3, .int i), (2, .ref 75), (1, .ref 0), (0, .ref x_scr)], [], h, 98, 10728)) lr_790 rfl ?_
  refine j_Lst (c' := (792, [(3, .int i), (2, .ref 75), (1, .ref 0), (0, .ref x_scr)], [.ref 75], h, 98, 10728)) lr_791 rfl ?_
  refine j_Lst (c' := (793, [(3, .int i), (2, .ref 75), (1, .ref 0), (0, .ref x_scr)], [.ref x_scr, .ref 75], h, 98, 10728)) lr_792 rfl ?_
  refine j_Lst (c' := (794, [(3, .int i), (2, .ref 75), (1, .ref 0), (0, .ref x_scr)], [.int i, .ref x_scr, .ref 75], h, 98, 10728)) lr_793 rfl ?_
  refine j_Lst (c' := (795, [(3, .int i), (2, .ref 75), (1, .ref 0), (0, .ref x_scr)], [.int 1, .int i, .ref x_scr, .ref 75], h, 98, 10728)) lr_794 rfl ?_
  refine j_Lst (c' := (796, [(3, .int i), (2, .ref 75), (1, .ref 0), (0, .ref x_scr)], [.int (i + 1), .ref x_scr, .ref 75], h, 98, 10728)) lr_795 rfl ?_
  refine j_Lsl (c' := (797, [(3, .int i), (2, .ref 75), (1, .ref 0), (0, .ref x_scr)], [.int (xs ((i + 1)).toNatClampNeg), .ref 75], h, 98, 10728)) lr_796 rfl h1 ?_
  refine j_Lst (c' := (798, [(3, .int i), (2, .ref 75), (1, .ref 0), (0, .ref x_scr)], [.ref x_scr, .int (xs ((i + 1)).toNatClampNeg), .ref 75], h, 98, 10728)) lr_797 rfl ?_
  refine j_Lst (c' := (799, [(3, .int i), (2, .ref 75), (1, .ref 0), (0, .ref x_scr)], [.int i, .ref x_scr, .int (xs ((i + 1)).toNatClampNeg), .ref 75], h, 98, 10728)) lr_798 rfl ?_
  refine j_Lst (c' := (800, [(3, .int i), (2, .ref 75), (1, .ref 0), (0, .ref x_scr)], [.int 2, .int i, .ref x_scr, .int (xs ((i + 1)).toNatClampNeg), .ref 75], h, 98, 10728)) lr_799 rfl ?_
  refine j_Lst (c' := (801, [(3, .int i), (2, .ref 75), (1, .ref 0), (0, .ref x_scr)], [.int (i + 2), .ref x_scr, .int (xs ((i + 1)).toNatClampNeg), .ref 75], h, 98, 10728)) lr_800 rfl ?_
  refine j_Lsl (c' := (802, [(3, .int i), (2, .ref 75), (1, .ref 0), (0, .ref x_scr)], [.int (xs ((i + 2)).toNatClampNeg), .int (xs ((i + 1)).toNatClampNeg), .ref 75], h, 98, 10728)) lr_801 rfl h2 ?_
  exact kk

set_option maxRecDepth 100000 in
theorem x_c16d (h : xH) (L : Nat) (xs : Nat → Int32) (i : Int32) (h0 : ¬ (i < 0 ∨ L ≤ (i).toNatClampNeg)) (h1 : ¬ (i + 1 < 0 ∨ L ≤ (i + 1).toNatClampNeg)) (h2 : ¬ (i + 2 < 0 ∨ L ≤ (i + 2).toNatClampNeg)) (h3 : ¬ (i + 3 < 0 ∨ L ≤ (i + 3).toNatClampNeg)) (h4 : ¬ (i + 4 < 0 ∨ L ≤ (i + 4).toNatClampNeg)) (h5 : ¬ (i + 5 < 0 ∨ L ≤ (i + 5).toNatClampNeg)) (w : Int32) {P : Option Value × xH × Nat × Nat → Prop} (kk : x_R x_mt (some (L, xs)) 10 M_law (18, [(3, .int (i + Int32.ofInt (6))), (2, .ref 75), (1, .ref 0), (0, .ref x_scr)], [], h, 98, 10728) P) : x_R x_mt (some (L, xs)) 10 M_law (805, [(3, .int i), (2, .ref 75), (1, .ref 0), (0, .ref x_scr)], [.int w], h, 98, 10728) P := by
  refine j_Lst (c' := (806, [(3, .int i), (2, .ref 75), (1, .ref 0), (0, .ref x_scr)], [], h, 98, 10728)) lr_805 rfl ?_
  refine j_Lst (c' := (2368, [(3, .int i), (2, .ref 75), (1, .ref 0), (0, .ref x_scr)], [], h, 98, 10728)) lr_806 rfl ?_
  refine j_Lst (c' := (2371, [(3, .int (i + Int32.ofInt (6))), (2, .ref 75), (1, .ref 0), (0, .ref x_scr)], [], h, 98, 10728)) lr_2368 rfl ?_
  refine j_Lst (c' := (18, [(3, .int (i + Int32.ofInt (6))), (2, .ref 75), (1, .ref 0), (0, .ref x_scr)], [], h, 98, 10728)) lr_2371 rfl ?_
  exact kk

set_option maxRecDepth 100000 in
theorem x_c17a (h : xH) (L : Nat) (xs : Nat → Int32) (i : Int32) (h0 : ¬ (i < 0 ∨ L ≤ (i).toNatClampNeg)) (h1 : ¬ (i + 1 < 0 ∨ L ≤ (i + 1).toNatClampNeg)) (h2 : ¬ (i + 2 < 0 ∨ L ≤ (i + 2).toNatClampNeg)) (h3 : ¬ (i + 3 < 0 ∨ L ≤ (i + 3).toNatClampNeg)) (h4 : ¬ (i + 4 < 0 ∨ L ≤ (i + 4).toNatClampNeg)) (h5 : ¬ (i + 5 < 0 ∨ L ≤ (i + 5).toNatClampNeg)) {P : Option Value × xH × Nat × Nat → Prop} (kk : x_R x_mt (some (L, xs)) 10 M_law (820, [(3, .int i), (2, .ref 75), (1, .ref 0), (0, .ref x_scr)], [.int (xs ((i + 2)).toNatClampNeg), .int (xs ((i + 1)).toNatClampNeg), .ref 0], h, 98, 10728) P) : x_R x_mt (some (L, xs)) 10 M_law (809, [(3, .int i), (2, .ref 75), (1, .ref 0), (0, .ref x_scr)], [], h, 98, 10728) P := by
  refine j_Lst (c' := (810, [(3, .int i), (2, .ref 75), (1, .ref 0), (0, .ref x_scr)], [.ref 0], h, 98, 10728)) lr_809 rfl ?_
  refine j_Lst (c' := (811, [(3, .int i), (2, .ref 75), (1, .ref 0), (0, .ref x_scr)], [.ref x_scr, .ref 0], h, 98, 10728)) lr_810 rfl ?_
  refine j_Lst (c' := (812, [(3, .int i), (2, .ref 75), (1, .ref 0), (0, .ref x_scr)], [.int i, .ref x_scr, .ref 0], h, 98, 10728)) lr_811 rfl ?_
  refine j_Lst (c' := (813, [(3, .int i), (2, .ref 75), (1, .ref 0), (0, .ref x_scr)], [.int 1, .int i, .ref x_scr, .ref 0], h, 98, 10728)) lr_812 rfl ?_
  refine j_Lst (c' := (814, [(3, .int i), (2, .ref 75), (1, .ref 0), (0, .ref x_scr)], [.int (i + 1), .ref x_scr, .ref 0], h, 98, 10728)) lr_813 rfl ?_
  refine j_Lsl (c' := (815, [(3, .int i), (2, .ref 75), (1, .ref 0), (0, .ref x_scr)], [.int (xs ((i + 1)).toNatClampNeg), .ref 0], h, 98, 10728)) lr_814 rfl h1 ?_
  refine j_Lst (c' := (816, [(3, .int i), (2, .ref 75), (1, .ref 0), (0, .ref x_scr)], [.ref x_scr, .int (xs ((i + 1)).toNatClampNeg), .ref 0], h, 98, 10728)) lr_815 rfl ?_
  refine j_Lst (c' := (817, [(3, .int i), (2, .ref 75), (1, .ref 0), (0, .ref x_scr)], [.int i, .ref x_scr, .int (xs ((i + 1)).toNatClampNeg), .ref 0], h, 98, 10728)) lr_816 rfl ?_
  refine j_Lst (c' := (818, [(3, .int i), (2, .ref 75), (1, .ref 0), (0, .ref x_scr)], [.int 2, .int i, .ref x_scr, .int (xs ((i + 1)).toNatClampNeg), .ref 0], h, 98, 10728)) lr_817 rfl ?_
  refine j_Lst (c' := (819, [(3, .int i), (2, .ref 75), (1, .ref 0), (0, .ref x_scr)], [.int (i + 2), .ref x_scr, .int (xs ((i + 1)).toNatClampNeg), .ref 0], h, 98, 10728)) lr_818 rfl ?_
  refine j_Lsl (c' := (820, [(3, .int i), (2, .ref 75), (1, .ref 0), (0, .ref x_scr)], [.int (xs ((i + 2)).toNatClampNeg), .int (xs ((i + 1)).toNatClampNeg), .ref 0], h, 98, 10728)) lr_819 rfl h2 ?_
  exact kk

set_option maxRecDepth 100000 in
theorem x_c17b (h : xH) (L : Nat) (xs : Nat → Int32) (i : Int32) (h0 : ¬ (i < 0 ∨ L ≤ (i).toNatClampNeg)) (h1 : ¬ (i + 1 < 0 ∨ L ≤ (i + 1).toNatClampNeg)) (h2 : ¬ (i + 2 < 0 ∨ L ≤ (i + 2).toNatClampNeg)) (h3 : ¬ (i + 3 < 0 ∨ L ≤ (i + 3).toNatClampNeg)) (h4 : ¬ (i + 4 < 0 ∨ L ≤ (i + 4).toNatClampNeg)) (h5 : ¬ (i + 5 < 0 ∨ L ≤ (i + 5).toNatClampNeg)) (v : Int32) {P : Option Value × xH × Nat × Nat → Prop} (kk : x_R x_mt (some (L, xs)) 10 M_law (835, [(3, .int i), (2, .ref 75), (1, .ref 0), (0, .ref x_scr)], [.int (xs ((i + 2)).toNatClampNeg), .int (xs ((i + 1)).toNatClampNeg), .ref 75], h, 98, 10728) P) : x_R x_mt (some (L, xs)) 10 M_law (823, [(3, .int i), (2, .ref 75), (1, .ref 0), (0, .ref x_scr)], [.int v], h, 98, 10728) P := by
  refine j_Lst (c' := (824, [(3, .int i), (2, .ref 75), (1, .ref 0), (0, .ref x_scr)], [], h, 98, 10728)) lr_823 rfl ?_
  refine j_Lst (c' := (825, [(3, .int i), (2, .ref 75), (1, .ref 0), (0, .ref x_scr)], [.ref 75], h, 98, 10728)) lr_824 rfl ?_
  refine j_Lst (c' := (826, [(3, .int i), (2, .ref 75), (1, .ref 0), (0, .ref x_scr)], [.ref x_scr, .ref 75], h, 98, 10728)) lr_825 rfl ?_
  refine j_Lst (c' := (827, [(3, .int i), (2, .ref 75), (1, .ref 0), (0, .ref x_scr)], [.int i, .ref x_scr, .ref 75], h, 98, 10728)) lr_826 rfl ?_
  refine j_Lst (c' := (828, [(3, .int i), (2, .ref 75), (1, .ref 0), (0, .ref x_scr)], [.int 1, .int i, .ref x_scr, .ref 75], h, 98, 10728)) lr_827 rfl ?_
  refine j_Lst (c' := (829, [(3, .int i), (2, .ref 75), (1, .ref 0), (0, .ref x_scr)], [.int (i + 1), .ref x_scr, .ref 75], h, 98, 10728)) lr_828 rfl ?_
  refine j_Lsl (c' := (830, [(3, .int i), (2, .ref 75), (1, .ref 0), (0, .ref x_scr)], [.int (xs ((i + 1)).toNatClampNeg), .ref 75], h, 98, 10728)) lr_829 rfl h1 ?_
  refine j_Lst (c' := (831, [(3, .int i), (2, .ref 75), (1, .ref 0), (0, .ref x_scr)], [.ref x_scr, .int (xs ((i + 1)).toNatClampNeg), .ref 75], h, 98, 10728)) lr_830 rfl ?_
  refine j_Lst (c' := (832, [(3, .int i), (2, .ref 75), (1, .ref 0), (0, .ref x_scr)], [.int i, .ref x_scr, .int (xs ((i + 1)).toNatClampNeg), .ref 75], h, 98, 10728)) lr_831 rfl ?_
  refine j_Lst (c' := (833, [(3, .int i), (2, .ref 75), (1, .ref 0), (0, .ref x_scr)], [.int 2, .int i, .ref x_scr, .int (xs ((i + 1)).toNatClampNeg), .ref 75], h, 98, 10728)) lr_832 rfl ?_
  refine j_Lst (c' := (834, [(3, .int i), (2, .ref 75), (1, .ref 0), (0, .ref x_scr)], [.int (i + 2), .ref x_scr, .int (xs ((i + 1)).toNatClampNeg), .ref 75], h, 98, 10728)) lr_833 rfl ?_
  refine j_Lsl (c' := (835, [(3, .int i), (2, .ref 75), (1, .ref 0), (0, .ref x_scr)], [.int (xs ((i + 2)).toNatClampNeg), .int (xs ((i + 1)).toNatClampNeg), .ref 75], h, 98, 10728)) lr_834 rfl h2 ?_
  exact kk

set_option maxRecDepth 100000 in
theorem x_c17d (h : xH) (L : Nat) (xs : Nat → Int32) (i : Int32) (h0 : ¬ (i < 0 ∨ L ≤ (i).toNatClampNeg)) (h1 : ¬ (i + 1 < 0 ∨ L ≤ (i + 1).toNatClampNeg)) (h2 : ¬ (i + 2 < 0 ∨ L ≤ (i + 2).toNatClampNeg)) (h3 : ¬ (i + 3 < 0 ∨ L ≤ (i + 3).toNatClampNeg)) (h4 : ¬ (i + 4 < 0 ∨ L ≤ (i + 4).toNatClampNeg)) (h5 : ¬ (i + 5 < 0 ∨ L ≤ (i + 5).toNatClampNeg)) (w : Int32) {P : Option Value × xH × Nat × Nat → Prop} (kk : x_R x_mt (some (L, xs)) 10 M_law (18, [(3, .int (i + Int32.ofInt (6))), (2, .ref 75), (1, .ref 0), (0, .ref x_scr)], [], h, 98, 10728) P) : x_R x_mt (some (L, xs)) 10 M_law (838, [(3, .int i), (2, .ref 75), (1, .ref 0), (0, .ref x_scr)], [.int w], h, 98, 10728) P := by
  refine j_Lst (c' := (839, [(3, .int i), (2, .ref 75), (1, .ref 0), (0, .ref x_scr)], [], h, 98, 10728)) lr_838 rfl ?_
  refine j_Lst (c' := (2368, [(3, .int i), (2, .ref 75), (1, .ref 0), (0, .ref x_scr)], [], h, 98, 10728)) lr_839 rfl ?_
  refine j_Lst (c' := (2371, [(3, .int (i + Int32.ofInt (6))), (2, .ref 75), (1, .ref 0), (0, .ref x_scr)], [], h, 98, 10728)) lr_2368 rfl ?_
  refine j_Lst (c' := (18, [(3, .int (i + Int32.ofInt (6))), (2, .ref 75), (1, .ref 0), (0, .ref x_scr)], [], h, 98, 10728)) lr_2371 rfl ?_
  exact kk

set_option maxRecDepth 100000 in
theorem x_c18a (h : xH) (L : Nat) (xs : Nat → Int32) (i : Int32) (h0 : ¬ (i < 0 ∨ L ≤ (i).toNatClampNeg)) (h1 : ¬ (i + 1 < 0 ∨ L ≤ (i + 1).toNatClampNeg)) (h2 : ¬ (i + 2 < 0 ∨ L ≤ (i + 2).toNatClampNeg)) (h3 : ¬ (i + 3 < 0 ∨ L ≤ (i + 3).toNatClampNeg)) (h4 : ¬ (i + 4 < 0 ∨ L ≤ (i + 4).toNatClampNeg)) (h5 : ¬ (i + 5 < 0 ∨ L ≤ (i + 5).toNatClampNeg)) {P : Option Value × xH × Nat × Nat → Prop} (kk : x_R x_mt (some (L, xs)) 10 M_law (848, [(3, .int i), (2, .ref 75), (1, .ref 0), (0, .ref x_scr)], [.int (xs ((i + 1)).toNatClampNeg), .ref 0], h, 98, 10728) P) : x_R x_mt (some (L, xs)) 10 M_law (842, [(3, .int i), (2, .ref 75), (1, .ref 0), (0, .ref x_scr)], [], h, 98, 10728) P := by
  refine j_Lst (c' := (843, [(3, .int i), (2, .ref 75), (1, .ref 0), (0, .ref x_scr)], [.ref 0], h, 98, 10728)) lr_842 rfl ?_
  refine j_Lst (c' := (844, [(3, .int i), (2, .ref 75), (1, .ref 0), (0, .ref x_scr)], [.ref x_scr, .ref 0], h, 98, 10728)) lr_843 rfl ?_
  refine j_Lst (c' := (845, [(3, .int i), (2, .ref 75), (1, .ref 0), (0, .ref x_scr)], [.int i, .ref x_scr, .ref 0], h, 98, 10728)) lr_844 rfl ?_
  refine j_Lst (c' := (846, [(3, .int i), (2, .ref 75), (1, .ref 0), (0, .ref x_scr)], [.int 1, .int i, .ref x_scr, .ref 0], h, 98, 10728)) lr_845 rfl ?_
  refine j_Lst (c' := (847, [(3, .int i), (2, .ref 75), (1, .ref 0), (0, .ref x_scr)], [.int (i + 1), .ref x_scr, .ref 0], h, 98, 10728)) lr_846 rfl ?_
  refine j_Lsl (c' := (848, [(3, .int i), (2, .ref 75), (1, .ref 0), (0, .ref x_scr)], [.int (xs ((i + 1)).toNatClampNeg), .ref 0], h, 98, 10728)) lr_847 rfl h1 ?_
  exact kk

set_option maxRecDepth 100000 in
theorem x_c18b (h : xH) (L : Nat) (xs : Nat → Int32) (i : Int32) (h0 : ¬ (i < 0 ∨ L ≤ (i).toNatClampNeg)) (h1 : ¬ (i + 1 < 0 ∨ L ≤ (i + 1).toNatClampNeg)) (h2 : ¬ (i + 2 < 0 ∨ L ≤ (i + 2).toNatClampNeg)) (h3 : ¬ (i + 3 < 0 ∨ L ≤ (i + 3).toNatClampNeg)) (h4 : ¬ (i + 4 < 0 ∨ L ≤ (i + 4).toNatClampNeg)) (h5 : ¬ (i + 5 < 0 ∨ L ≤ (i + 5).toNatClampNeg)) (v : Int32) {P : Option Value × xH × Nat × Nat → Prop} (kk : x_R x_mt (some (L, xs)) 10 M_law (858, [(3, .int i), (2, .ref 75), (1, .ref 0), (0, .ref x_scr)], [.int (xs ((i + 1)).toNatClampNeg), .ref 75], h, 98, 10728) P) : x_R x_mt (some (L, xs)) 10 M_law (851, [(3, .int i), (2, .ref 75), (1, .ref 0), (0, .ref x_scr)], [.int v], h, 98, 10728) P := by
  refine j_Lst (c' := (852, [(3, .int i), (2, .ref 75), (1, .ref 0), (0, .ref x_scr)], [], h, 98, 10728)) lr_851 rfl ?_
  refine j_Lst (c' := (853, [(3, .int i), (2, .ref 75), (1, .ref 0), (0, .ref x_scr)], [.ref 75], h, 98, 10728)) lr_852 rfl ?_
  refine j_Lst (c' := (854, [(3, .int i), (2, .ref 75), (1, .ref 0), (0, .ref x_scr)], [.ref x_scr, .ref 75], h, 98, 10728)) lr_853 rfl ?_
  refine j_Lst (c' := (855, [(3, .int i), (2, .ref 75), (1, .ref 0), (0, .ref x_scr)], [.int i, .ref x_scr, .ref 75], h, 98, 10728)) lr_854 rfl ?_
  refine j_Lst (c' := (856, [(3, .int i), (2, .ref 75), (1, .ref 0), (0, .ref x_scr)], [.int 1, .int i, .ref x_scr, .ref 75], h, 98, 10728)) lr_855 rfl ?_
  refine j_Lst (c' := (857, [(3, .int i), (2, .ref 75), (1, .ref 0), (0, .ref x_scr)], [.int (i + 1), .ref x_scr, .ref 75], h, 98, 10728)) lr_856 rfl ?_
  refine j_Lsl (c' := (858, [(3, .int i), (2, .ref 75), (1, .ref 0), (0, .ref x_scr)], [.int (xs ((i + 1)).toNatClampNeg), .ref 75], h, 98, 10728)) lr_857 rfl h1 ?_
  exact kk

set_option maxRecDepth 100000 in
theorem x_c18d (h : xH) (L : Nat) (xs : Nat → Int32) (i : Int32) (h0 : ¬ (i < 0 ∨ L ≤ (i).toNatClampNeg)) (h1 : ¬ (i + 1 < 0 ∨ L ≤ (i + 1).toNatClampNeg)) (h2 : ¬ (i + 2 < 0 ∨ L ≤ (i + 2).toNatClampNeg)) (h3 : ¬ (i + 3 < 0 ∨ L ≤ (i + 3).toNatClampNeg)) (h4 : ¬ (i + 4 < 0 ∨ L ≤ (i + 4).toNatClampNeg)) (h5 : ¬ (i + 5 < 0 ∨ L ≤ (i + 5).toNatClampNeg)) (w : Int32) {P : Option Value × xH × Nat × Nat → Prop} (kk : x_R x_mt (some (L, xs)) 10 M_law (18, [(3, .int (i + Int32.ofInt (6))), (2, .ref 75), (1, .ref 0), (0, .ref x_scr)], [], h, 98, 10728) P) : x_R x_mt (some (L, xs)) 10 M_law (861, [(3, .int i), (2, .ref 75), (1, .ref 0), (0, .ref x_scr)], [.int w], h, 98, 10728) P := by
  refine j_Lst (c' := (862, [(3, .int i), (2, .ref 75), (1, .ref 0), (0, .ref x_scr)], [], h, 98, 10728)) lr_861 rfl ?_
  refine j_Lst (c' := (2368, [(3, .int i), (2, .ref 75), (1, .ref 0), (0, .ref x_scr)], [], h, 98, 10728)) lr_862 rfl ?_
  refine j_Lst (c' := (2371, [(3, .int (i + Int32.ofInt (6))), (2, .ref 75), (1, .ref 0), (0, .ref x_scr)], [], h, 98, 10728)) lr_2368 rfl ?_
  refine j_Lst (c' := (18, [(3, .int (i + Int32.ofInt (6))), (2, .ref 75), (1, .ref 0), (0, .ref x_scr)], [], h, 98, 10728)) lr_2371 rfl ?_
  exact kk

set_option maxRecDepth 100000 in
theorem x_c19a (h : xH) (L : Nat) (xs : Nat → Int32) (i : Int32) (h0 : ¬ (i < 0 ∨ L ≤ (i).toNatClampNeg)) (h1 : ¬ (i + 1 < 0 ∨ L ≤ (i + 1).toNatClampNeg)) (h2 : ¬ (i + 2 < 0 ∨ L ≤ (i + 2).toNatClampNeg)) (h3 : ¬ (i + 3 < 0 ∨ L ≤ (i + 3).toNatClampNeg)) (h4 : ¬ (i + 4 < 0 ∨ L ≤ (i + 4).toNatClampNeg)) (h5 : ¬ (i + 5 < 0 ∨ L ≤ (i + 5).toNatClampNeg)) {P : Option Value × xH × Nat × Nat → Prop} (kk : x_R x_mt (some (L, xs)) 10 M_law (871, [(3, .int i), (2, .ref 75), (1, .ref 0), (0, .ref x_scr)], [.int (xs ((i + 1)).toNatClampNeg), .ref 0], h, 98, 10728) P) : x_R x_mt (some (L, xs)) 10 M_law (865, [(3, .int i), (2, .ref 75), (1, .ref 0), (0, .ref x_scr)], [], h, 98, 10728) P := by
  refine j_Lst (c' := (866, [(3, .int i), (2, .ref 75), (1, .ref 0), (0, .ref x_scr)], [.ref 0], h, 98, 10728)) lr_865 rfl ?_
  refine j_Lst (c' := (867, [(3, .int i), (2, .ref 75), (1, .ref 0), (0, .ref x_scr)], [.ref x_scr, .ref 0], h, 98, 10728)) lr_866 rfl ?_
  refine j_Lst (c' := (868, [(3, .int i), (2, .ref 75), (1, .ref 0), (0, .ref x_scr)], [.int i, .ref x_scr, .ref 0], h, 98, 10728)) lr_867 rfl ?_
  refine j_Lst (c' := (869, [(3, .int i), (2, .ref 75), (1, .ref 0), (0, .ref x_scr)], [.int 1, .int i, .ref x_scr, .ref 0], h, 98, 10728)) lr_868 rfl ?_
  refine j_Lst (c' := (870, [(3, .int i), (2, .ref 75), (1, .ref 0), (0, .ref x_scr)], [.int (i + 1), .ref x_scr, .ref 0], h, 98, 10728)) lr_869 rfl ?_
  refine j_Lsl (c' := (871, [(3, .int i), (2, .ref 75), (1, .ref 0), (0, .ref x_scr)], [.int (xs ((i + 1)).toNatClampNeg), .ref 0], h, 98, 10728)) lr_870 rfl h1 ?_
  exact kk

set_option maxRecDepth 100000 in
theorem x_c19b (h : xH) (L : Nat) (xs : Nat → Int32) (i : Int32) (h0 : ¬ (i < 0 ∨ L ≤ (i).toNatClampNeg)) (h1 : ¬ (i + 1 < 0 ∨ L ≤ (i + 1).toNatClampNeg)) (h2 : ¬ (i + 2 < 0 ∨ L ≤ (i + 2).toNatClampNeg)) (h3 : ¬ (i + 3 < 0 ∨ L ≤ (i + 3).toNatClampNeg)) (h4 : ¬ (i + 4 < 0 ∨ L ≤ (i + 4).toNatClampNeg)) (h5 : ¬ (i + 5 < 0 ∨ L ≤ (i + 5).toNatClampNeg)) (v : Int32) {P : Option Value × xH × Nat × Nat → Prop} (kk : x_R x_mt (some (L, xs)) 10 M_law (881, [(3, .int i), (2, .ref 75), (1, .ref 0), (0, .ref x_scr)], [.int (xs ((i + 1)).toNatClampNeg), .ref 75], h, 98, 10728) P) : x_R x_mt (some (L, xs)) 10 M_law (874, [(3, .int i), (2, .ref 75), (1, .ref 0), (0, .ref x_scr)], [.int v], h, 98, 10728) P := by
  refine j_Lst (c' := (875, [(3, .int i), (2, .ref 75), (1, .ref 0), (0, .ref x_scr)], [], h, 98, 10728)) lr_874 rfl ?_
  refine j_Lst (c' := (876, [(3, .int i), (2, .ref 75), (1, .ref 0), (0, .ref x_scr)], [.ref 75], h, 98, 10728)) lr_875 rfl ?_
  refine j_Lst (c' := (877, [(3, .int i), (2, .ref 75), (1, .ref 0), (0, .ref x_scr)], [.ref x_scr, .ref 75], h, 98, 10728)) lr_876 rfl ?_
  refine j_Lst (c' := (878, [(3, .int i), (2, .ref 75), (1, .ref 0), (0, .ref x_scr)], [.int i, .ref x_scr, .ref 75], h, 98, 10728)) lr_877 rfl ?_
  refine j_Lst (c' := (879, [(3, .int i), (2, .ref 75), (1, .ref 0), (0, .ref x_scr)], [.int 1, .int i, .ref x_scr, .ref 75], h, 98, 10728)) lr_878 rfl ?_
  refine j_Lst (c' := (880, [(3, .int i), (2, .ref 75), (1, .ref 0), (0, .ref x_scr)], [.int (i + 1), .ref x_scr, .ref 75], h, 98, 10728)) lr_879 rfl ?_
  refine j_Lsl (c' := (881, [(3, .int i), (2, .ref 75), (1, .ref 0), (0, .ref x_scr)], [.int (xs ((i + 1)).toNatClampNeg), .ref 75], h, 98, 10728)) lr_880 rfl h1 ?_
  exact kk

set_option maxRecDepth 100000 in
theorem x_c19d (h : xH) (L : Nat) (xs : Nat → Int32) (i : Int32) (h0 : ¬ (i < 0 ∨ L ≤ (i).toNatClampNeg)) (h1 : ¬ (i + 1 < 0 ∨ L ≤ (i + 1).toNatClampNeg)) (h2 : ¬ (i + 2 < 0 ∨ L ≤ (i + 2).toNatClampNeg)) (h3 : ¬ (i + 3 < 0 ∨ L ≤ (i + 3).toNatClampNeg)) (h4 : ¬ (i + 4 < 0 ∨ L ≤ (i + 4).toNatClampNeg)) (h5 : ¬ (i + 5 < 0 ∨ L ≤ (i + 5).toNatClampNeg)) (w : Int32) {P : Option Value × xH × Nat × Nat → Prop} (kk : x_R x_mt (some (L, xs)) 10 M_law (18, [(3, .int (i + Int32.ofInt (6))), (2, .ref 75), (1, .ref 0), (0, .ref x_scr)], [], h, 98, 10728) P) : x_R x_mt (some (L, xs)) 10 M_law (884, [(3, .int i), (2, .ref 75), (1, .ref 0), (0, .ref x_scr)], [.int w], h, 98, 10728) P := by
  refine j_Lst (c' := (885, [(3, .int i), (2, .ref 75), (1, .ref 0), (0, .ref x_scr)], [], h, 98, 10728)) lr_884 rfl ?_
  refine j_Lst (c' := (2368, [(3, .int i), (2, .ref 75), (1, .ref 0), (0, .ref x_scr)], [], h, 98, 10728)) lr_885 rfl ?_
  refine j_Lst (c' := (2371, [(3, .int (i + Int32.ofInt (6))), (2, .ref 75), (1, .ref 0), (0, .ref x_scr)], [], h, 98, 10728)) lr_2368 rfl ?_
  refine j_Lst (c' := (18, [(3, .int (i + Int32.ofInt (6))), (2, .ref 75), (1, .ref 0), (0, .ref x_scr)], [], h, 98, 10728)) lr_2371 rfl ?_
  exact kk

set_option maxRecDepth 100000 in
theorem x_c20a (h : xH) (L : Nat) (xs : Nat → Int32) (i : Int32) (h0 : ¬ (i < 0 ∨ L ≤ (i).toNatClampNeg)) (h1 : ¬ (i + 1 < 0 ∨ L ≤ (i + 1).toNatClampNeg)) (h2 : ¬ (i + 2 < 0 ∨ L ≤ (i + 2).toNatClampNeg)) (h3 : ¬ (i + 3 < 0 ∨ L ≤ (i + 3).toNatClampNeg)) (h4 : ¬ (i + 4 < 0 ∨ L ≤ (i + 4).toNatClampNeg)) (h5 : ¬ (i + 5 < 0 ∨ L ≤ (i + 5).toNatClampNeg)) {P : Option Value × xH × Nat × Nat → Prop} (kk : x_R x_mt (some (L, xs)) 10 M_law (894, [(3, .int i), (2, .ref 75), (1, .ref 0), (0, .ref x_scr)], [.int (xs ((i + 1)).toNatClampNeg), .ref 0], h, 98, 10728) P) : x_R x_mt (some (L, xs)) 10 M_law (888, [(3, .int i), (2, .ref 75), (1, .ref 0), (0, .ref x_scr)], [], h, 98, 10728) P := by
  refine j_Lst (c' := (889, [(3, .int i), (2, .ref 75), (1, .ref 0), (0, .ref x_scr)], [.ref 0], h, 98, 10728)) lr_888 rfl ?_
  refine j_Lst (c' := (890, [(3, .int i), (2, .ref 75), (1, .ref 0), (0, .ref x_scr)], [.ref x_scr, .ref 0], h, 98, 10728)) lr_889 rfl ?_
  refine j_Lst (c' := (891, [(3, .int i), (2, .ref 75), (1, .ref 0), (0, .ref x_scr)], [.int i, .ref x_scr, .ref 0], h, 98, 10728)) lr_890 rfl ?_
  refine j_Lst (c' := (892, [(3, .int i), (2, .ref 75), (1, .ref 0), (0, .ref x_scr)], [.int 1, .int i, .ref x_scr, .ref 0], h, 98, 10728)) lr_891 rfl ?_
  refine j_Lst (c' := (893, [(3, .int i), (2, .ref 75), (1, .ref 0), (0, .ref x_scr)], [.int (i + 1), .ref x_scr, .ref 0], h, 98, 10728)) lr_892 rfl ?_
  refine j_Lsl (c' := (894, [(3, .int i), (2, .ref 75), (1, .ref 0), (0, .ref x_scr)], [.int (xs ((i + 1)).toNatClampNeg), .ref 0], h, 98, 10728)) lr_893 rfl h1 ?_
  exact kk

set_option maxRecDepth 100000 in
theorem x_c20b (h : xH) (L : Nat) (xs : Nat → Int32) (i : Int32) (h0 : ¬ (i < 0 ∨ L ≤ (i).toNatClampNeg)) (h1 : ¬ (i + 1 < 0 ∨ L ≤ (i + 1).toNatClampNeg)) (h2 : ¬ (i + 2 < 0 ∨ L ≤ (i + 2).toNatClampNeg)) (h3 : ¬ (i + 3 < 0 ∨ L ≤ (i + 3).toNatClampNeg)) (h4 : ¬ (i + 4 < 0 ∨ L ≤ (i + 4).toNatClampNeg)) (h5 : ¬ (i + 5 < 0 ∨ L ≤ (i + 5).toNatClampNeg)) (v : Int32) {P : Option Value × xH × Nat × Nat → Prop} (kk : x_R x_mt (some (L, xs)) 10 M_law (904, [(3, .int i), (2, .ref 75), (1, .ref 0), (0, .ref x_scr)], [.int (xs ((i + 1)).toNatClampNeg), .ref 75], h, 98, 10728) P) : x_R x_mt (some (L, xs)) 10 M_law (897, [(3, .int i), (2, .ref 75), (1, .ref 0), (0, .ref x_scr)], [.int v], h, 98, 10728) P := by
  refine j_Lst (c' := (898, [(3, .int i), (2, .ref 75), (1, .ref 0), (0, .ref x_scr)], [], h, 98, 10728)) lr_897 rfl ?_
  refine j_Lst (c' := (899, [(3, .int i), (2, .ref 75), (1, .ref 0), (0, .ref x_scr)], [.ref 75], h, 98, 10728)) lr_898 rfl ?_
  refine j_Lst (c' := (900, [(3, .int i), (2, .ref 75), (1, .ref 0), (0, .ref x_scr)], [.ref x_scr, .ref 75], h, 98, 10728)) lr_899 rfl ?_
  refine j_Lst (c' := (901, [(3, .int i), (2, .ref 75), (1, .ref 0), (0, .ref x_scr)], [.int i, .ref x_scr, .ref 75], h, 98, 10728)) lr_900 rfl ?_
  refine j_Lst (c' := (902, [(3, .int i), (2, .ref 75), (1, .ref 0), (0, .ref x_scr)], [.int 1, .int i, .ref x_scr, .ref 75], h, 98, 10728)) lr_901 rfl ?_
  refine j_Lst (c' := (903, [(3, .int i), (2, .ref 75), (1, .ref 0), (0, .ref x_scr)], [.int (i + 1), .ref x_scr, .ref 75], h, 98, 10728)) lr_902 rfl ?_
  refine j_Lsl (c' := (904, [(3, .int i), (2, .ref 75), (1, .ref 0), (0, .ref x_scr)], [.int (xs ((i + 1)).toNatClampNeg), .ref 75], h, 98, 10728)) lr_903 rfl h1 ?_
  exact kk

set_option maxRecDepth 100000 in
theorem x_c20d (h : xH) (L : Nat) (xs : Nat → Int32) (i : Int32) (h0 : ¬ (i < 0 ∨ L ≤ (i).toNatClampNeg)) (h1 : ¬ (i + 1 < 0 ∨ L ≤ (i + 1).toNatClampNeg)) (h2 : ¬ (i + 2 < 0 ∨ L ≤ (i + 2).toNatClampNeg)) (h3 : ¬ (i + 3 < 0 ∨ L ≤ (i + 3).toNatClampNeg)) (h4 : ¬ (i + 4 < 0 ∨ L ≤ (i + 4).toNatClampNeg)) (h5 : ¬ (i + 5 < 0 ∨ L ≤ (i + 5).toNatClampNeg)) (w : Int32) {P : Option Value × xH × Nat × Nat → Prop} (kk : x_R x_mt (some (L, xs)) 10 M_law (18, [(3, .int (i + Int32.ofInt (6))), (2, .ref 75), (1, .ref 0), (0, .ref x_scr)], [], h, 98, 10728) P) : x_R x_mt (some (L, xs)) 10 M_law (907, [(3, .int i), (2, .ref 75), (1, .ref 0), (0, .ref x_scr)], [.int w], h, 98, 10728) P := by
  refine j_Lst (c' := (908, [(3, .int i), (2, .ref 75), (1, .ref 0), (0, .ref x_scr)], [], h, 98, 10728)) lr_907 rfl ?_
  refine j_Lst (c' := (2368, [(3, .int i), (2, .ref 75), (1, .ref 0), (0, .ref x_scr)], [], h, 98, 10728)) lr_908 rfl ?_
  refine j_Lst (c' := (2371, [(3, .int (i + Int32.ofInt (6))), (2, .ref 75), (1, .ref 0), (0, .ref x_scr)], [], h, 98, 10728)) lr_2368 rfl ?_
  refine j_Lst (c' := (18, [(3, .int (i + Int32.ofInt (6))), (2, .ref 75), (1, .ref 0), (0, .ref x_scr)], [], h, 98, 10728)) lr_2371 rfl ?_
  exact kk

set_option maxRecDepth 100000 in
theorem x_c21a (h : xH) (L : Nat) (xs : Nat → Int32) (i : Int32) (h0 : ¬ (i < 0 ∨ L ≤ (i).toNatClampNeg)) (h1 : ¬ (i + 1 < 0 ∨ L ≤ (i + 1).toNatClampNeg)) (h2 : ¬ (i + 2 < 0 ∨ L ≤ (i + 2).toNatClampNeg)) (h3 : ¬ (i + 3 < 0 ∨ L ≤ (i + 3).toNatClampNeg)) (h4 : ¬ (i + 4 < 0 ∨ L ≤ (i + 4).toNatClampNeg)) (h5 : ¬ (i + 5 < 0 ∨ L ≤ (i + 5).toNatClampNeg)) {P : Option Value × xH × Nat × Nat → Prop} (kk : x_R x_mt (some (L, xs)) 10 M_law (922, [(3, .int i), (2, .ref 75), (1, .ref 0), (0, .ref x_scr)], [.int (xs ((i + 2)).toNatClampNeg), .int (xs ((i + 1)).toNatClampNeg), .ref 0], h, 98, 10728) P) : x_R x_mt (some (L, xs)) 10 M_law (911, [(3, .int i), (2, .ref 75), (1, .ref 0), (0, .ref x_scr)], [], h, 98, 10728) P := by
  refine j_Lst (c' := (912, [(3, .int i), (2, .ref 75), (1, .ref 0), (0, .ref x_scr)], [.ref 0], h, 98, 10728)) lr_911 rfl ?_
  refine j_Lst (c' := (913, [(3, .int i), (2, .ref 75), (1, .ref 0), (0, .ref x_scr)], [.ref x_scr, .ref 0], h, 98, 10728)) lr_912 rfl ?_
  refine j_Lst (c' := (914, [(3, .int i), (2, .ref 75), (1, .ref 0), (0, .ref x_scr)], [.int i, .ref x_scr, .ref 0], h, 98, 10728)) lr_913 rfl ?_
  refine j_Lst (c' := (915, [(3, .int i), (2, .ref 75), (1, .ref 0), (0, .ref x_scr)], [.int 1, .int i, .ref x_scr, .ref 0], h, 98, 10728)) lr_914 rfl ?_
  refine j_Lst (c' := (916, [(3, .int i), (2, .ref 75), (1, .ref 0), (0, .ref x_scr)], [.int (i + 1), .ref x_scr, .ref 0], h, 98, 10728)) lr_915 rfl ?_
  refine j_Lsl (c' := (917, [(3, .int i), (2, .ref 75), (1, .ref 0), (0, .ref x_scr)], [.int (xs ((i + 1)).toNatClampNeg), .ref 0], h, 98, 10728)) lr_916 rfl h1 ?_
  refine j_Lst (c' := (918, [(3, .int i), (2, .ref 75), (1, .ref 0), (0, .ref x_scr)], [.ref x_scr, .int (xs ((i + 1)).toNatClampNeg), .ref 0], h, 98, 10728)) lr_917 rfl ?_
  refine j_Lst (c' := (919, [(3, .int i), (2, .ref 75), (1, .ref 0), (0, .ref x_scr)], [.int i, .ref x_scr, .int (xs ((i + 1)).toNatClampNeg), .ref 0], h, 98, 10728)) lr_918 rfl ?_
  refine j_Lst (c' := (920, [(3, .int i), (2, .ref 75), (1, .ref 0), (0, .ref x_scr)], [.int 2, .int i, .ref x_scr, .int (xs ((i + 1)).toNatClampNeg), .ref 0], h, 98, 10728)) lr_919 rfl ?_
  refine j_Lst (c' := (921, [(3, .int i), (2, .ref 75), (1, .ref 0), (0, .ref x_scr)], [.int (i + 2), .ref x_scr, .int (xs ((i + 1)).toNatClampNeg), .ref 0], h, 98, 10728)) lr_920 rfl ?_
  refine j_Lsl (c' := (922, [(3, .int i), (2, .ref 75), (1, .ref 0), (0, .ref x_scr)], [.int (xs ((i + 2)).toNatClampNeg), .int (xs ((i + 1)).toNatClampNeg), .ref 0], h, 98, 10728)) lr_921 rfl h2 ?_
  exact kk

set_option maxRecDepth 100000 in
theorem x_c21b (h : xH) (L : Nat) (xs : Nat → Int32) (i : Int32) (h0 : ¬ (i < 0 ∨ L ≤ (i).toNatClampNeg)) (h1 : ¬ (i + 1 < 0 ∨ L ≤ (i + 1).toNatClampNeg)) (h2 : ¬ (i + 2 < 0 ∨ L ≤ (i + 2).toNatClampNeg)) (h3 : ¬ (i + 3 < 0 ∨ L ≤ (i + 3).toNatClampNeg)) (h4 : ¬ (i + 4 < 0 ∨ L ≤ (i + 4).toNatClampNeg)) (h5 : ¬ (i + 5 < 0 ∨ L ≤ (i + 5).toNatClampNeg)) (v : Int32) {P : Option Value × xH × Nat × Nat → Prop} (kk : x_R x_mt (some (L, xs)) 10 M_law (937, [(3, .int i), (2, .ref 75), (1, .ref 0), (0, .ref x_scr)], [.int (xs ((i + 2)).toNatClampNeg), .int (xs ((i + 1)).toNatClampNeg), .ref 75], h, 98, 10728) P) : x_R x_mt (some (L, xs)) 10 M_law (925, [(3, .int i), (2, .ref 75), (1, .ref 0), (0, .ref x_scr)], [.int v], h, 98, 10728) P := by
  refine j_Lst (c' := (926, [(3, .int i), (2, .ref 75), (1, .ref 0), (0, .ref x_scr)], [], h, 98, 10728)) lr_925 rfl ?_
  refine j_Lst (c' := (927, [(3, .int i), (2, .ref 75), (1, .ref 0), (0, .ref x_scr)], [.ref 75], h, 98, 10728)) lr_926 rfl ?_
  refine j_Lst (c' := (928, [(3, .int i), (2, .ref 75), (1, .ref 0), (0, .ref x_scr)], [.ref x_scr, .ref 75], h, 98, 10728)) lr_927 rfl ?_
  refine j_Lst (c' := (929, [(3, .int i), (2, .ref 75), (1, .ref 0), (0, .ref x_scr)], [.int i, .ref x_scr, .ref 75], h, 98, 10728)) lr_928 rfl ?_
  refine j_Lst (c' := (930, [(3, .int i), (2, .ref 75), (1, .ref 0), (0, .ref x_scr)], [.int 1, .int i, .ref x_scr, .ref 75], h, 98, 10728)) lr_929 rfl ?_
  refine j_Lst (c' := (931, [(3, .int i), (2, .ref 75), (1, .ref 0), (0, .ref x_scr)], [.int (i + 1), .ref x_scr, .ref 75], h, 98, 10728)) lr_930 rfl ?_
  refine j_Lsl (c' := (932, [(3, .int i), (2, .ref 75), (1, .ref 0), (0, .ref x_scr)], [.int (xs ((i + 1)).toNatClampNeg), .ref 75], h, 98, 10728)) lr_931 rfl h1 ?_
  refine j_Lst (c' := (933, [(3, .int i), (2, .ref 75), (1, .ref 0), (0, .ref x_scr)], [.ref x_scr, .int (xs ((i + 1)).toNatClampNeg), .ref 75], h, 98, 10728)) lr_932 rfl ?_
  refine j_Lst (c' := (934, [(3, .int i), (2, .ref 75), (1, .ref 0), (0, .ref x_scr)], [.int i, .ref x_scr, .int (xs ((i + 1)).toNatClampNeg), .ref 75], h, 98, 10728)) lr_933 rfl ?_
  refine j_Lst (c' := (935, [(3, .int i), (2, .ref 75), (1, .ref 0), (0, .ref x_scr)], [.int 2, .int i, .ref x_scr, .int (xs ((i + 1)).toNatClampNeg), .ref 75], h, 98, 10728)) lr_934 rfl ?_
  refine j_Lst (c' := (936, [(3, .int i), (2, .ref 75), (1, .ref 0), (0, .ref x_scr)], [.int (i + 2), .ref x_scr, .int (xs ((i + 1)).toNatClampNeg), .ref 75], h, 98, 10728)) lr_935 rfl ?_
  refine j_Lsl (c' := (937, [(3, .int i), (2, .ref 75), (1, .ref 0), (0, .ref x_scr)], [.int (xs ((i + 2)).toNatClampNeg), .int (xs ((i + 1)).toNatClampNeg), .ref 75], h, 98, 10728)) lr_936 rfl h2 ?_
  exact kk

set_option maxRecDepth 100000 in
theorem x_c21d (h : xH) (L : Nat) (xs : Nat → Int32) (i : Int32) (h0 : ¬ (i < 0 ∨ L ≤ (i).toNatClampNeg)) (h1 : ¬ (i + 1 < 0 ∨ L ≤ (i + 1).toNatClampNeg)) (h2 : ¬ (i + 2 < 0 ∨ L ≤ (i + 2).toNatClampNeg)) (h3 : ¬ (i + 3 < 0 ∨ L ≤ (i + 3).toNatClampNeg)) (h4 : ¬ (i + 4 < 0 ∨ L ≤ (i + 4).toNatClampNeg)) (h5 : ¬ (i + 5 < 0 ∨ L ≤ (i + 5).toNatClampNeg)) (w : Int32) {P : Option Value × xH × Nat × Nat → Prop} (kk : x_R x_mt (some (L, xs)) 10 M_law (18, [(3, .int (i + Int32.ofInt (6))), (2, .ref 75), (1, .ref 0), (0, .ref x_scr)], [], h, 98, 10728) P) : x_R x_mt (some (L, xs)) 10 M_law (940, [(3, .int i), (2, .ref 75), (1, .ref 0), (0, .ref x_scr)], [.int w], h, 98, 10728) P := by
  refine j_Lst (c' := (941, [(3, .int i), (2, .ref 75), (1, .ref 0), (0, .ref x_scr)], [], h, 98, 10728)) lr_940 rfl ?_
  refine j_Lst (c' := (2368, [(3, .int i), (2, .ref 75), (1, .ref 0), (0, .ref x_scr)], [], h, 98, 10728)) lr_941 rfl ?_
  refine j_Lst (c' := (2371, [(3, .int (i + Int32.ofInt (6))), (2, .ref 75), (1, .ref 0), (0, .ref x_scr)], [], h, 98, 10728)) lr_2368 rfl ?_
  refine j_Lst (c' := (18, [(3, .int (i + Int32.ofInt (6))), (2, .ref 75), (1, .ref 0), (0, .ref x_scr)], [], h, 98, 10728)) lr_2371 rfl ?_
  exact kk

set_option maxRecDepth 100000 in
theorem x_c22a (h : xH) (L : Nat) (xs : Nat → Int32) (i : Int32) (h0 : ¬ (i < 0 ∨ L ≤ (i).toNatClampNeg)) (h1 : ¬ (i + 1 < 0 ∨ L ≤ (i + 1).toNatClampNeg)) (h2 : ¬ (i + 2 < 0 ∨ L ≤ (i + 2).toNatClampNeg)) (h3 : ¬ (i + 3 < 0 ∨ L ≤ (i + 3).toNatClampNeg)) (h4 : ¬ (i + 4 < 0 ∨ L ≤ (i + 4).toNatClampNeg)) (h5 : ¬ (i + 5 < 0 ∨ L ≤ (i + 5).toNatClampNeg)) {P : Option Value × xH × Nat × Nat → Prop} (kk : x_R x_mt (some (L, xs)) 10 M_law (955, [(3, .int i), (2, .ref 75), (1, .ref 0), (0, .ref x_scr)], [.int (xs ((i + 2)).toNatClampNeg), .int (xs ((i + 1)).toNatClampNeg), .ref 0], h, 98, 10728) P) : x_R x_mt (some (L, xs)) 10 M_law (944, [(3, .int i), (2, .ref 75), (1, .ref 0), (0, .ref x_scr)], [], h, 98, 10728) P := by
  refine j_Lst (c' := (945, [(3, .int i), (2, .ref 75), (1, .ref 0), (0, .ref x_scr)], [.ref 0], h, 98, 10728)) lr_944 rfl ?_
  refine j_Lst (c' := (946, [(3, .int i), (2, .ref 75), (1, .ref 0), (0, .ref x_scr)], [.ref x_scr, .ref 0], h, 98, 10728)) lr_945 rfl ?_
  refine j_Lst (c' := (947, [(3, .int i), (2, .ref 75), (1, .ref 0), (0, .ref x_scr)], [.int i, .ref x_scr, .ref 0], h, 98, 10728)) lr_946 rfl ?_
  refine j_Lst (c' := (948, [(3, .int i), (2, .ref 75), (1, .ref 0), (0, .ref x_scr)], [.int 1, .int i, .ref x_scr, .ref 0], h, 98, 10728)) lr_947 rfl ?_
  refine j_Lst (c' := (949, [(3, .int i), (2, .ref 75), (1, .ref 0), (0, .ref x_scr)], [.int (i + 1), .ref x_scr, .ref 0], h, 98, 10728)) lr_948 rfl ?_
  refine j_Lsl (c' := (950, [(3, .int i), (2, .ref 75), (1, .ref 0), (0, .ref x_scr)], [.int (xs ((i + 1)).toNatClampNeg), .ref 0], h, 98, 10728)) lr_949 rfl h1 ?_
  refine j_Lst (c' := (951, [(3, .int i), (2, .ref 75), (1, .ref 0), (0, .ref x_scr)], [.ref x_scr, .int (xs ((i + 1)).toNatClampNeg), .ref 0], h, 98, 10728)) lr_950 rfl ?_
  refine j_Lst (c' := (952, [(3, .int i), (2, .ref 75), (1, .ref 0), (0, .ref x_scr)], [.int i, .ref x_scr, .int (xs ((i + 1)).toNatClampNeg), .ref 0], h, 98, 10728)) lr_951 rfl ?_
  refine j_Lst (c' := (953, [(3, .int i), (2, .ref 75), (1, .ref 0), (0, .ref x_scr)], [.int 2, .int i, .ref x_scr, .int (xs ((i + 1)).toNatClampNeg), .ref 0], h, 98, 10728)) lr_952 rfl ?_
  refine j_Lst (c' := (954, [(3, .int i), (2, .ref 75), (1, .ref 0), (0, .ref x_scr)], [.int (i + 2), .ref x_scr, .int (xs ((i + 1)).toNatClampNeg), .ref 0], h, 98, 10728)) lr_953 rfl ?_
  refine j_Lsl (c' := (955, [(3, .int i), (2, .ref 75), (1, .ref 0), (0, .ref x_scr)], [.int (xs ((i + 2)).toNatClampNeg), .int (xs ((i + 1)).toNatClampNeg), .ref 0], h, 98, 10728)) lr_954 rfl h2 ?_
  exact kk

set_option maxRecDepth 100000 in
theorem x_c22b (h : xH) (L : Nat) (xs : Nat → Int32) (i : Int32) (h0 : ¬ (i < 0 ∨ L ≤ (i).toNatClampNeg)) (h1 : ¬ (i + 1 < 0 ∨ L ≤ (i + 1).toNatClampNeg)) (h2 : ¬ (i + 2 < 0 ∨ L ≤ (i + 2).toNatClampNeg)) (h3 : ¬ (i + 3 < 0 ∨ L ≤ (i + 3).toNatClampNeg)) (h4 : ¬ (i + 4 < 0 ∨ L ≤ (i + 4).toNatClampNeg)) (h5 : ¬ (i + 5 < 0 ∨ L ≤ (i + 5).toNatClampNeg)) (v : Int32) {P : Option Value × xH × Nat × Nat → Prop} (kk : x_R x_mt (some (L, xs)) 10 M_law (970, [(3, .int i), (2, .ref 75), (1, .ref 0), (0, .ref x_scr)], [.int (xs ((i + 2)).toNatClampNeg), .int (xs ((i + 1)).toNatClampNeg), .ref 75], h, 98, 10728) P) : x_R x_mt (some (L, xs)) 10 M_law (958, [(3, .int i), (2, .ref 75), (1, .ref 0), (0, .ref x_scr)], [.int v], h, 98, 10728) P := by
  refine j_Lst (c' := (959, [(3, .int i), (2, .ref 75), (1, .ref 0), (0, .ref x_scr)], [], h, 98, 10728)) lr_958 rfl ?_
  refine j_Lst (c' := (960, [(3, .int i), (2, .ref 75), (1, .ref 0), (0, .ref x_scr)], [.ref 75], h, 98, 10728)) lr_959 rfl ?_
  refine j_Lst (c' := (961, [(3, .int i), (2, .ref 75), (1, .ref 0), (0, .ref x_scr)], [.ref x_scr, .ref 75], h, 98, 10728)) lr_960 rfl ?_
  refine j_Lst (c' := (962, [(3, .int i), (2, .ref 75), (1, .ref 0), (0, .ref x_scr)], [.int i, .ref x_scr, .ref 75], h, 98, 10728)) lr_961 rfl ?_
  refine j_Lst (c' := (963, [(3, .int i), (2, .ref 75), (1, .ref 0), (0, .ref x_scr)], [.int 1, .int i, .ref x_scr, .ref 75], h, 98, 10728)) lr_962 rfl ?_
  refine j_Lst (c' := (964, [(3, .int i), (2, .ref 75), (1, .ref 0), (0, .ref x_scr)], [.int (i + 1), .ref x_scr, .ref 75], h, 98, 10728)) lr_963 rfl ?_
  refine j_Lsl (c' := (965, [(3, .int i), (2, .ref 75), (1, .ref 0), (0, .ref x_scr)], [.int (xs ((i + 1)).toNatClampNeg), .ref 75], h, 98, 10728)) lr_964 rfl h1 ?_
  refine j_Lst (c' := (966, [(3, .int i), (2, .ref 75), (1, .ref 0), (0, .ref x_scr)], [.ref x_scr, .int (xs ((i + 1)).toNatClampNeg), .ref 75], h, 98, 10728)) lr_965 rfl ?_
  refine j_Lst (c' := (967, [(3, .int i), (2, .ref 75), (1, .ref 0), (0, .ref x_scr)], [.int i, .ref x_scr, .int (xs ((i + 1)).toNatClampNeg), .ref 75], h, 98, 10728)) lr_966 rfl ?_
  refine j_Lst (c' := (968, [(3, .int i), (2, .ref 75), (1, .ref 0), (0, .ref x_scr)], [.int 2, .int i, .ref x_scr, .int (xs ((i + 1)).toNatClampNeg), .ref 75], h, 98, 10728)) lr_967 rfl ?_
  refine j_Lst (c' := (969, [(3, .int i), (2, .ref 75), (1, .ref 0), (0, .ref x_scr)], [.int (i + 2), .ref x_scr, .int (xs ((i + 1)).toNatClampNeg), .ref 75], h, 98, 10728)) lr_968 rfl ?_
  refine j_Lsl (c' := (970, [(3, .int i), (2, .ref 75), (1, .ref 0), (0, .ref x_scr)], [.int (xs ((i + 2)).toNatClampNeg), .int (xs ((i + 1)).toNatClampNeg), .ref 75], h, 98, 10728)) lr_969 rfl h2 ?_
  exact kk

set_option maxRecDepth 100000 in
theorem x_c22d (h : xH) (L : Nat) (xs : Nat → Int32) (i : Int32) (h0 : ¬ (i < 0 ∨ L ≤ (i).toNatClampNeg)) (h1 : ¬ (i + 1 < 0 ∨ L ≤ (i + 1).toNatClampNeg)) (h2 : ¬ (i + 2 < 0 ∨ L ≤ (i + 2).toNatClampNeg)) (h3 : ¬ (i + 3 < 0 ∨ L ≤ (i + 3).toNatClampNeg)) (h4 : ¬ (i + 4 < 0 ∨ L ≤ (i + 4).toNatClampNeg)) (h5 : ¬ (i + 5 < 0 ∨ L ≤ (i + 5).toNatClampNeg)) (w : Int32) {P : Option Value × xH × Nat × Nat → Prop} (kk : x_R x_mt (some (L, xs)) 10 M_law (18, [(3, .int (i + Int32.ofInt (6))), (2, .ref 75), (1, .ref 0), (0, .ref x_scr)], [], h, 98, 10728) P) : x_R x_mt (some (L, xs)) 10 M_law (973, [(3, .int i), (2, .ref 75), (1, .ref 0), (0, .ref x_scr)], [.int w], h, 98, 10728) P := by
  refine j_Lst (c' := (974, [(3, .int i), (2, .ref 75), (1, .ref 0), (0, .ref x_scr)], [], h, 98, 10728)) lr_973 rfl ?_
  refine j_Lst (c' := (2368, [(3, .int i), (2, .ref 75), (1, .ref 0), (0, .ref x_scr)], [], h, 98, 10728)) lr_974 rfl ?_
  refine j_Lst (c' := (2371, [(3, .int (i + Int32.ofInt (6))), (2, .ref 75), (1, .ref 0), (0, .ref x_scr)], [], h, 98, 10728)) lr_2368 rfl ?_
  refine j_Lst (c' := (18, [(3, .int (i + Int32.ofInt (6))), (2, .ref 75), (1, .ref 0), (0, .ref x_scr)], [], h, 98, 10728)) lr_2371 rfl ?_
  exact kk

set_option maxRecDepth 100000 in
theorem x_c23a (h : xH) (L : Nat) (xs : Nat → Int32) (i : Int32) (h0 : ¬ (i < 0 ∨ L ≤ (i).toNatClampNeg)) (h1 : ¬ (i + 1 < 0 ∨ L ≤ (i + 1).toNatClampNeg)) (h2 : ¬ (i + 2 < 0 ∨ L ≤ (i + 2).toNatClampNeg)) (h3 : ¬ (i + 3 < 0 ∨ L ≤ (i + 3).toNatClampNeg)) (h4 : ¬ (i + 4 < 0 ∨ L ≤ (i + 4).toNatClampNeg)) (h5 : ¬ (i + 5 < 0 ∨ L ≤ (i + 5).toNatClampNeg)) {P : Option Value × xH × Nat × Nat → Prop} (kk : x_R x_mt (some (L, xs)) 10 M_law (983, [(3, .int i), (2, .ref 75), (1, .ref 0), (0, .ref x_scr)], [.int (xs ((i + 1)).toNatClampNeg), .ref 0], h, 98, 10728) P) : x_R x_mt (some (L, xs)) 10 M_law (977, [(3, .int i), (2, .ref 75), (1, .ref 0), (0, .ref x_scr)], [], h, 98, 10728) P := by
  refine j_Lst (c' := (978, [(3, .int i), (2, .ref 75), (1, .ref 0), (0, .ref x_scr)], [.ref 0], h, 98, 10728)) lr_977 rfl ?_
  refine j_Lst (c' := (979, [(3, .int i), (2, .ref 75), (1, .ref 0), (0, .ref x_scr)], [.ref x_scr, .ref 0], h, 98, 10728)) lr_978 rfl ?_
  refine j_Lst (c' := (980, [(3, .int i), (2, .ref 75), (1, .ref 0), (0, .ref x_scr)], [.int i, .ref x_scr, .ref 0], h, 98, 10728)) lr_979 rfl ?_
  refine j_Lst (c' := (981, [(3, .int i), (2, .ref 75), (1, .ref 0), (0, .ref x_scr)], [.int 1, .int i, .ref x_scr, .ref 0], h, 98, 10728)) lr_980 rfl ?_
  refine j_Lst (c' := (982, [(3, .int i), (2, .ref 75), (1, .ref 0), (0, .ref x_scr)], [.int (i + 1), .ref x_scr, .ref 0], h, 98, 10728)) lr_981 rfl ?_
  refine j_Lsl (c' := (983, [(3, .int i), (2, .ref 75), (1, .ref 0), (0, .ref x_scr)], [.int (xs ((i + 1)).toNatClampNeg), .ref 0], h, 98, 10728)) lr_982 rfl h1 ?_
  exact kk

set_option maxRecDepth 100000 in
theorem x_c23b (h : xH) (L : Nat) (xs : Nat → Int32) (i : Int32) (h0 : ¬ (i < 0 ∨ L ≤ (i).toNatClampNeg)) (h1 : ¬ (i + 1 < 0 ∨ L ≤ (i + 1).toNatClampNeg)) (h2 : ¬ (i + 2 < 0 ∨ L ≤ (i + 2).toNatClampNeg)) (h3 : ¬ (i + 3 < 0 ∨ L ≤ (i + 3).toNatClampNeg)) (h4 : ¬ (i + 4 < 0 ∨ L ≤ (i + 4).toNatClampNeg)) (h5 : ¬ (i + 5 < 0 ∨ L ≤ (i + 5).toNatClampNeg)) (v : Int32) {P : Option Value × xH × Nat × Nat → Prop} (kk : x_R x_mt (some (L, xs)) 10 M_law (993, [(3, .int i), (2, .ref 75), (1, .ref 0), (0, .ref x_scr)], [.int (xs ((i + 1)).toNatClampNeg), .ref 75], h, 98, 10728) P) : x_R x_mt (some (L, xs)) 10 M_law (986, [(3, .int i), (2, .ref 75), (1, .ref 0), (0, .ref x_scr)], [.int v], h, 98, 10728) P := by
  refine j_Lst (c' := (987, [(3, .int i), (2, .ref 75), (1, .ref 0), (0, .ref x_scr)], [], h, 98, 10728)) lr_986 rfl ?_
  refine j_Lst (c' := (988, [(3, .int i), (2, .ref 75), (1, .ref 0), (0, .ref x_scr)], [.ref 75], h, 98, 10728)) lr_987 rfl ?_
  refine j_Lst (c' := (989, [(3, .int i), (2, .ref 75), (1, .ref 0), (0, .ref x_scr)], [.ref x_scr, .ref 75], h, 98, 10728)) lr_988 rfl ?_
  refine j_Lst (c' := (990, [(3, .int i), (2, .ref 75), (1, .ref 0), (0, .ref x_scr)], [.int i, .ref x_scr, .ref 75], h, 98, 10728)) lr_989 rfl ?_
  refine j_Lst (c' := (991, [(3, .int i), (2, .ref 75), (1, .ref 0), (0, .ref x_scr)], [.int 1, .int i, .ref x_scr, .ref 75], h, 98, 10728)) lr_990 rfl ?_
  refine j_Lst (c' := (992, [(3, .int i), (2, .ref 75), (1, .ref 0), (0, .ref x_scr)], [.int (i + 1), .ref x_scr, .ref 75], h, 98, 10728)) lr_991 rfl ?_
  refine j_Lsl (c' := (993, [(3, .int i), (2, .ref 75), (1, .ref 0), (0, .ref x_scr)], [.int (xs ((i + 1)).toNatClampNeg), .ref 75], h, 98, 10728)) lr_992 rfl h1 ?_
  exact kk

set_option maxRecDepth 100000 in
theorem x_c23d (h : xH) (L : Nat) (xs : Nat → Int32) (i : Int32) (h0 : ¬ (i < 0 ∨ L ≤ (i).toNatClampNeg)) (h1 : ¬ (i + 1 < 0 ∨ L ≤ (i + 1).toNatClampNeg)) (h2 : ¬ (i + 2 < 0 ∨ L ≤ (i + 2).toNatClampNeg)) (h3 : ¬ (i + 3 < 0 ∨ L ≤ (i + 3).toNatClampNeg)) (h4 : ¬ (i + 4 < 0 ∨ L ≤ (i + 4).toNatClampNeg)) (h5 : ¬ (i + 5 < 0 ∨ L ≤ (i + 5).toNatClampNeg)) (w : Int32) {P : Option Value × xH × Nat × Nat → Prop} (kk : x_R x_mt (some (L, xs)) 10 M_law (18, [(3, .int (i + Int32.ofInt (6))), (2, .ref 75), (1, .ref 0), (0, .ref x_scr)], [], h, 98, 10728) P) : x_R x_mt (some (L, xs)) 10 M_law (996, [(3, .int i), (2, .ref 75), (1, .ref 0), (0, .ref x_scr)], [.int w], h, 98, 10728) P := by
  refine j_Lst (c' := (997, [(3, .int i), (2, .ref 75), (1, .ref 0), (0, .ref x_scr)], [], h, 98, 10728)) lr_996 rfl ?_
  refine j_Lst (c' := (2368, [(3, .int i), (2, .ref 75), (1, .ref 0), (0, .ref x_scr)], [], h, 98, 10728)) lr_997 rfl ?_
  refine j_Lst (c' := (2371, [(3, .int (i + Int32.ofInt (6))), (2, .ref 75), (1, .ref 0), (0, .ref x_scr)], [], h, 98, 10728)) lr_2368 rfl ?_
  refine j_Lst (c' := (18, [(3, .int (i + Int32.ofInt (6))), (2, .ref 75), (1, .ref 0), (0, .ref x_scr)], [], h, 98, 10728)) lr_2371 rfl ?_
  exact kk

set_option maxRecDepth 100000 in
theorem x_c24a (h : xH) (L : Nat) (xs : Nat → Int32) (i : Int32) (h0 : ¬ (i < 0 ∨ L ≤ (i).toNatClampNeg)) (h1 : ¬ (i + 1 < 0 ∨ L ≤ (i + 1).toNatClampNeg)) (h2 : ¬ (i + 2 < 0 ∨ L ≤ (i + 2).toNatClampNeg)) (h3 : ¬ (i + 3 < 0 ∨ L ≤ (i + 3).toNatClampNeg)) (h4 : ¬ (i + 4 < 0 ∨ L ≤ (i + 4).toNatClampNeg)) (h5 : ¬ (i + 5 < 0 ∨ L ≤ (i + 5).toNatClampNeg)) {P : Option Value × xH × Nat × Nat → Prop} (kk : x_R x_mt (some (L, xs)) 10 M_law (1011, [(3, .int i), (2, .ref 75), (1, .ref 0), (0, .ref x_scr)], [.int (xs ((i + 2)).toNatClampNeg), .int (xs ((i + 1)).toNatClampNeg), .ref 0], h, 98, 10728) P) : x_R x_mt (some (L, xs)) 10 M_law (1000, [(3, .int i), (2, .ref 75), (1, .ref 0), (0, .ref x_scr)], [], h, 98, 10728) P := by
  refine j_Lst (c' := (1001, [(3, .int i), (2, .ref 75), (1, .ref 0), (0, .ref x_scr)], [.ref 0], h, 98, 10728)) lr_1000 rfl ?_
  refine j_Lst (c' := (1002, [(3, .int i), (2, .ref 75), (1, .ref 0), (0, .ref x_scr)], [.ref x_scr, .ref 0], h, 98, 10728)) lr_1001 rfl ?_
  refine j_Lst (c' := (1003, [(3, .int i), (2, .ref 75), (1, .ref 0), (0, .ref x_scr)], [.int i, .ref x_scr, .ref 0], h, 98, 10728)) lr_1002 rfl ?_
  refine j_Lst (c' := (1004, [(3, .int i), (2, .ref 75), (1, .ref 0), (0, .ref x_scr)], [.int 1, .int i, .ref x_scr, .ref 0], h, 98, 10728)) lr_1003 rfl ?_
  refine j_Lst (c' := (1005, [(3, .int i), (2, .ref 75), (1, .ref 0), (0, .ref x_scr)], [.int (i + 1), .ref x_scr, .ref 0], h, 98, 10728)) lr_1004 rfl ?_
  refine j_Lsl (c' := (1006, [(3, .int i), (2, .ref 75), (1, .ref 0), (0, .ref x_scr)], [.int (xs ((i + 1)).toNatClampNeg), .ref 0], h, 98, 10728)) lr_1005 rfl h1 ?_
  refine j_Lst (c' := (1007, [(3, .int i), (2, .ref 75), (1, .ref 0), (0, .ref x_scr)], [.ref x_scr, .int (xs ((i + 1)).toNatClampNeg), .ref 0], h, 98, 10728)) lr_1006 rfl ?_
  refine j_Lst (c' := (1008, [(3, .int i), (2, .ref 75), (1, .ref 0), (0, .ref x_scr)], [.int i, .ref x_scr, .int (xs ((i + 1)).toNatClampNeg), .ref 0], h, 98, 10728)) lr_1007 rfl ?_
  refine j_Lst (c' := (1009, [(3, .int i), (2, .ref 75), (1, .ref 0), (0, .ref x_scr)], [.int 2, .int i, .ref x_scr, .int (xs ((i + 1)).toNatClampNeg), .ref 0], h, 98, 10728)) lr_1008 rfl ?_
  refine j_Lst (c' := (1010, [(3, .int i), (2, .ref 75), (1, .ref 0), (0, .ref x_scr)], [.int (i + 2), .ref x_scr, .int (xs ((i + 1)).toNatClampNeg), .ref 0], h, 98, 10728)) lr_1009 rfl ?_
  refine j_Lsl (c' := (1011, [(3, .int i), (2, .ref 75), (1, .ref 0), (0, .ref x_scr)], [.int (xs ((i + 2)).toNatClampNeg), .int (xs ((i + 1)).toNatClampNeg), .ref 0], h, 98, 10728)) lr_1010 rfl h2 ?_
  exact kk

set_option maxRecDepth 100000 in
theorem x_c24b (h : xH) (L : Nat) (xs : Nat → Int32) (i : Int32) (h0 : ¬ (i < 0 ∨ L ≤ (i).toNatClampNeg)) (h1 : ¬ (i + 1 < 0 ∨ L ≤ (i + 1).toNatClampNeg)) (h2 : ¬ (i + 2 < 0 ∨ L ≤ (i + 2).toNatClampNeg)) (h3 : ¬ (i + 3 < 0 ∨ L ≤ (i + 3).toNatClampNeg)) (h4 : ¬ (i + 4 < 0 ∨ L ≤ (i + 4).toNatClampNeg)) (h5 : ¬ (i + 5 < 0 ∨ L ≤ (i + 5).toNatClampNeg)) (v : Int32) {P : Option Value × xH × Nat × Nat → Prop} (kk : x_R x_mt (some (L, xs)) 10 M_law (1026, [(3, .int i), (2, .ref 75), (1, .ref 0), (0, .ref x_scr)], [.int (xs ((i + 2)).toNatClampNeg), .int (xs ((i + 1)).toNatClampNeg), .ref 75], h, 98, 10728) P) : x_R x_mt (some (L, xs)) 10 M_law (1014, [(3, .int i), (2, .ref 75), (1, .ref 0), (0, .ref x_scr)], [.int v], h, 98, 10728) P := by
  refine j_Lst (c' := (1015, [(3, .int i), (2, .ref 75), (1, .ref 0), (0, .ref x_scr)], [], h, 98, 10728)) lr_1014 rfl ?_
  refine j_Lst (c' := (1016, [(3, .int i), (2, .ref 75), (1, .ref 0), (0, .ref x_scr)], [.ref 75], h, 98, 10728)) lr_1015 rfl ?_
  refine j_Lst (c' := (1017, [(3, .int i), (2, .ref 75), (1, .ref 0), (0, .ref x_scr)], [.ref x_scr, .ref 75], h, 98, 10728)) lr_1016 rfl ?_
  refine j_Lst (c' := (1018, [(3, .int i), (2, .ref 75), (1, .ref 0), (0, .ref x_scr)], [.int i, .ref x_scr, .ref 75], h, 98, 10728)) lr_1017 rfl ?_
  refine j_Lst (c' := (1019, [(3, .int i), (2, .ref 75), (1, .ref 0), (0, .ref x_scr)], [.int 1, .int i, .ref x_scr, .ref 75], h, 98, 10728)) lr_1018 rfl ?_
  refine j_Lst (c' := (1020, [(3, .int i), (2, .ref 75), (1, .ref 0), (0, .ref x_scr)], [.int (i + 1), .ref x_scr, .ref 75], h, 98, 10728)) lr_1019 rfl ?_
  refine j_Lsl (c' := (1021, [(3, .int i), (2, .ref 75), (1, .ref 0), (0, .ref x_scr)], [.int (xs ((i + 1)).toNatClampNeg), .ref 75], h, 98, 10728)) lr_1020 rfl h1 ?_
  refine j_Lst (c' := (1022, [(3, .int i), (2, .ref 75), (1, .ref 0), (0, .ref x_scr)], [.ref x_scr, .int (xs ((i + 1)).toNatClampNeg), .ref 75], h, 98, 10728)) lr_1021 rfl ?_
  refine j_Lst (c' := (1023, [(3, .int i), (2, .ref 75), (1, .ref 0), (0, .ref x_scr)], [.int i, .ref x_scr, .int (xs ((i + 1)).toNatClampNeg), .ref 75], h, 98, 10728)) lr_1022 rfl ?_
  refine j_Lst (c' := (1024, [(3, .int i), (2, .ref 75), (1, .ref 0), (0, .ref x_scr)], [.int 2, .int i, .ref x_scr, .int (xs ((i + 1)).toNatClampNeg), .ref 75], h, 98, 10728)) lr_1023 rfl ?_
  refine j_Lst (c' := (1025, [(3, .int i), (2, .ref 75), (1, .ref 0), (0, .ref x_scr)], [.int (i + 2), .ref x_scr, .int (xs ((i + 1)).toNatClampNeg), .ref 75], h, 98, 10728)) lr_1024 rfl ?_
  refine j_Lsl (c' := (1026, [(3, .int i), (2, .ref 75), (1, .ref 0), (0, .ref x_scr)], [.int (xs ((i + 2)).toNatClampNeg), .int (xs ((i + 1)).toNatClampNeg), .ref 75], h, 98, 10728)) lr_1025 rfl h2 ?_
  exact kk

set_option maxRecDepth 100000 in
theorem x_c24d (h : xH) (L : Nat) (xs : Nat → Int32) (i : Int32) (h0 : ¬ (i < 0 ∨ L ≤ (i).toNatClampNeg)) (h1 : ¬ (i + 1 < 0 ∨ L ≤ (i + 1).toNatClampNeg)) (h2 : ¬ (i + 2 < 0 ∨ L ≤ (i + 2).toNatClampNeg)) (h3 : ¬ (i + 3 < 0 ∨ L ≤ (i + 3).toNatClampNeg)) (h4 : ¬ (i + 4 < 0 ∨ L ≤ (i + 4).toNatClampNeg)) (h5 : ¬ (i + 5 < 0 ∨ L ≤ (i + 5).toNatClampNeg)) (w : Int32) {P : Option Value × xH × Nat × Nat → Prop} (kk : x_R x_mt (some (L, xs)) 10 M_law (18, [(3, .int (i + Int32.ofInt (6))), (2, .ref 75), (1, .ref 0), (0, .ref x_scr)], [], h, 98, 10728) P) : x_R x_mt (some (L, xs)) 10 M_law (1029, [(3, .int i), (2, .ref 75), (1, .ref 0), (0, .ref x_scr)], [.int w], h, 98, 10728) P := by
  refine j_Lst (c' := (1030, [(3, .int i), (2, .ref 75), (1, .ref 0), (0, .ref x_scr)], [], h, 98, 10728)) lr_1029 rfl ?_
  refine j_Lst (c' := (2368, [(3, .int i), (2, .ref 75), (1, .ref 0), (0, .ref x_scr)], [], h, 98, 10728)) lr_1030 rfl ?_
  refine j_Lst (c' := (2371, [(3, .int (i + Int32.ofInt (6))), (2, .ref 75), (1, .ref 0), (0, .ref x_scr)], [], h, 98, 10728)) lr_2368 rfl ?_
  refine j_Lst (c' := (18, [(3, .int (i + Int32.ofInt (6))), (2, .ref 75), (1, .ref 0), (0, .ref x_scr)], [], h, 98, 10728)) lr_2371 rfl ?_
  exact kk

set_option maxRecDepth 100000 in
theorem x_c25a (h : xH) (L : Nat) (xs : Nat → Int32) (i : Int32) (h0 : ¬ (i < 0 ∨ L ≤ (i).toNatClampNeg)) (h1 : ¬ (i + 1 < 0 ∨ L ≤ (i + 1).toNatClampNeg)) (h2 : ¬ (i + 2 < 0 ∨ L ≤ (i + 2).toNatClampNeg)) (h3 : ¬ (i + 3 < 0 ∨ L ≤ (i + 3).toNatClampNeg)) (h4 : ¬ (i + 4 < 0 ∨ L ≤ (i + 4).toNatClampNeg)) (h5 : ¬ (i + 5 < 0 ∨ L ≤ (i + 5).toNatClampNeg)) {P : Option Value × xH × Nat × Nat → Prop} (kk : x_R x_mt (some (L, xs)) 10 M_law (1044, [(3, .int i), (2, .ref 75), (1, .ref 0), (0, .ref x_scr)], [.int (xs ((i + 2)).toNatClampNeg), .int (xs ((i + 1)).toNatClampNeg), .ref 0], h, 98, 10728) P) : x_R x_mt (some (L, xs)) 10 M_law (1033, [(3, .int i), (2, .ref 75), (1, .ref 0), (0, .ref x_scr)], [], h, 98, 10728) P := by
  refine j_Lst (c' := (1034, [(3, .int i), (2, .ref 75), (1, .ref 0), (0, .ref x_scr)], [.ref 0], h, 98, 10728)) lr_1033 rfl ?_
  refine j_Lst (c' := (1035, [(3, .int i), (2, .ref 75), (1, .ref 0), (0, .ref x_scr)], [.ref x_scr, .ref 0], h, 98, 10728)) lr_1034 rfl ?_
  refine j_Lst (c' := (1036, [(3, .int i), (2, .ref 75), (1, .ref 0), (0, .ref x_scr)], [.int i, .ref x_scr, .ref 0], h, 98, 10728)) lr_1035 rfl ?_
  refine j_Lst (c' := (1037, [(3, .int i), (2, .ref 75), (1, .ref 0), (0, .ref x_scr)], [.int 1, .int i, .ref x_scr, .ref 0], h, 98, 10728)) lr_1036 rfl ?_
  refine j_Lst (c' := (1038, [(3, .int i), (2, .ref 75), (1, .ref 0), (0, .ref x_scr)], [.int (i + 1), .ref x_scr, .ref 0], h, 98, 10728)) lr_1037 rfl ?_
  refine j_Lsl (c' := (1039, [(3, .int i), (2, .ref 75), (1, .ref 0), (0, .ref x_scr)], [.int (xs ((i + 1)).toNatClampNeg), .ref 0], h, 98, 10728)) lr_1038 rfl h1 ?_
  refine j_Lst (c' := (1040, [(3, .int i), (2, .ref 75), (1, .ref 0), (0, .ref x_scr)], [.ref x_scr, .int (xs ((i + 1)).toNatClampNeg), .ref 0], h, 98, 10728)) lr_1039 rfl ?_
  refine j_Lst (c' := (1041, [(3, .int i), (2, .ref 75), (1, .ref 0), (0, .ref x_scr)], [.int i, .ref x_scr, .int (xs ((i + 1)).toNatClampNeg), .ref 0], h, 98, 10728)) lr_1040 rfl ?_
  refine j_Lst (c' := (1042, [(3, .int i), (2, .ref 75), (1, .ref 0), (0, .ref x_scr)], [.int 2, .int i, .ref x_scr, .int (xs ((i + 1)).toNatClampNeg), .ref 0], h, 98, 10728)) lr_1041 rfl ?_
  refine j_Lst (c' := (1043, [(3, .int i), (2, .ref 75), (1, .ref 0), (0, .ref x_scr)], [.int (i + 2), .ref x_scr, .int (xs ((i + 1)).toNatClampNeg), .ref 0], h, 98, 10728)) lr_1042 rfl ?_
  refine j_Lsl (c' := (1044, [(3, .int i), (2, .ref 75), (1, .ref 0), (0, .ref x_scr)], [.int (xs ((i + 2)).toNatClampNeg), .int (xs ((i + 1)).toNatClampNeg), .ref 0], h, 98, 10728)) lr_1043 rfl h2 ?_
  exact kk

set_option maxRecDepth 100000 in
theorem x_c25b (h : xH) (L : Nat) (xs : Nat → Int32) (i : Int32) (h0 : ¬ (i < 0 ∨ L ≤ (i).toNatClampNeg)) (h1 : ¬ (i + 1 < 0 ∨ L ≤ (i + 1).toNatClampNeg)) (h2 : ¬ (i + 2 < 0 ∨ L ≤ (i + 2).toNatClampNeg)) (h3 : ¬ (i + 3 < 0 ∨ L ≤ (i + 3).toNatClampNeg)) (h4 : ¬ (i + 4 < 0 ∨ L ≤ (i + 4).toNatClampNeg)) (h5 : ¬ (i + 5 < 0 ∨ L ≤ (i + 5).toNatClampNeg)) (v : Int32) {P : Option Value × xH × Nat × Nat → Prop} (kk : x_R x_mt (some (L, xs)) 10 M_law (1059, [(3, .int i), (2, .ref 75), (1, .ref 0), (0, .ref x_scr)], [.int (xs ((i + 2)).toNatClampNeg), .int (xs ((i + 1)).toNatClampNeg), .ref 75], h, 98, 10728) P) : x_R x_mt (some (L, xs)) 10 M_law (1047, [(3, .int i), (2, .ref 75), (1, .ref 0), (0, .ref x_scr)], [.int v], h, 98, 10728) P := by
  refine j_Lst (c' := (1048, [(3, .int i), (2, .ref 75), (1, .ref 0), (0, .ref x_scr)], [], h, 98, 10728)) lr_1047 rfl ?_
  refine j_Lst (c' := (1049, [(3, .int i), (2, .ref 75), (1, .ref 0), (0, .ref x_scr)], [.ref 75], h, 98, 10728)) lr_1048 rfl ?_
  refine j_Lst (c' := (1050, [(3, .int i), (2, .ref 75), (1, .ref 0), (0, .ref x_scr)], [.ref x_scr, .ref 75], h, 98, 10728)) lr_1049 rfl ?_
  refine j_Lst (c' := (1051, [(3, .int i), (2, .ref 75), (1, .ref 0), (0, .ref x_scr)], [.int i, .ref x_scr, .ref 75], h, 98, 10728)) lr_1050 rfl ?_
  refine j_Lst (c' := (1052, [(3, .int i), (2, .ref 75), (1, .ref 0), (0, .ref x_scr)], [.int 1, .int i, .ref x_scr, .ref 75], h, 98, 10728)) lr_1051 rfl ?_
  refine j_Lst (c' := (1053, [(3, .int i), (2, .ref 75), (1, .ref 0), (0, .ref x_scr)], [.int (i + 1), .ref x_scr, .ref 75], h, 98, 10728)) lr_1052 rfl ?_
  refine j_Lsl (c' := (1054, [(3, .int i), (2, .ref 75), (1, .ref 0), (0, .ref x_scr)], [.int (xs ((i + 1)).toNatClampNeg), .ref 75], h, 98, 10728)) lr_1053 rfl h1 ?_
  refine j_Lst (c' := (1055, [(3, .int i), (2, .ref 75), (1, .ref 0), (0, .ref x_scr)], [.ref x_scr, .int (xs ((i + 1)).toNatClampNeg), .ref 75], h, 98, 10728)) lr_1054 rfl ?_
  refine j_Lst (c' := (1056, [(3, .int i), (2, .ref 75), (1, .ref 0), (0, .ref x_scr)], [.int i, .ref x_scr, .int (xs ((i + 1)).toNatClampNeg), .ref 75], h, 98, 10728)) lr_1055 rfl ?_
  refine j_Lst (c' := (1057, [(3, .int i), (2, .ref 75), (1, .ref 0), (0, .ref x_scr)], [.int 2, .int i, .ref x_scr, .int (xs ((i + 1)).toNatClampNeg), .ref 75], h, 98, 10728)) lr_1056 rfl ?_
  refine j_Lst (c' := (1058, [(3, .int i), (2, .ref 75), (1, .ref 0), (0, .ref x_scr)], [.int (i + 2), .ref x_scr, .int (xs ((i + 1)).toNatClampNeg), .ref 75], h, 98, 10728)) lr_1057 rfl ?_
  refine j_Lsl (c' := (1059, [(3, .int i), (2, .ref 75), (1, .ref 0), (0, .ref x_scr)], [.int (xs ((i + 2)).toNatClampNeg), .int (xs ((i + 1)).toNatClampNeg), .ref 75], h, 98, 10728)) lr_1058 rfl h2 ?_
  exact kk

set_option maxRecDepth 100000 in
theorem x_c25d (h : xH) (L : Nat) (xs : Nat → Int32) (i : Int32) (h0 : ¬ (i < 0 ∨ L ≤ (i).toNatClampNeg)) (h1 : ¬ (i + 1 < 0 ∨ L ≤ (i + 1).toNatClampNeg)) (h2 : ¬ (i + 2 < 0 ∨ L ≤ (i + 2).toNatClampNeg)) (h3 : ¬ (i + 3 < 0 ∨ L ≤ (i + 3).toNatClampNeg)) (h4 : ¬ (i + 4 < 0 ∨ L ≤ (i + 4).toNatClampNeg)) (h5 : ¬ (i + 5 < 0 ∨ L ≤ (i + 5).toNatClampNeg)) (w : Int32) {P : Option Value × xH × Nat × Nat → Prop} (kk : x_R x_mt (some (L, xs)) 10 M_law (18, [(3, .int (i + Int32.ofInt (6))), (2, .ref 75), (1, .ref 0), (0, .ref x_scr)], [], h, 98, 10728) P) : x_R x_mt (some (L, xs)) 10 M_law (1062, [(3, .int i), (2, .ref 75), (1, .ref 0), (0, .ref x_scr)], [.int w], h, 98, 10728) P := by
  refine j_Lst (c' := (1063, [(3, .int i), (2, .ref 75), (1, .ref 0), (0, .ref x_scr)], [], h, 98, 10728)) lr_1062 rfl ?_
  refine j_Lst (c' := (2368, [(3, .int i), (2, .ref 75), (1, .ref 0), (0, .ref x_scr)], [], h, 98, 10728)) lr_1063 rfl ?_
  refine j_Lst (c' := (2371, [(3, .int (i + Int32.ofInt (6))), (2, .ref 75), (1, .ref 0), (0, .ref x_scr)], [], h, 98, 10728)) lr_2368 rfl ?_
  refine j_Lst (c' := (18, [(3, .int (i + Int32.ofInt (6))), (2, .ref 75), (1, .ref 0), (0, .ref x_scr)], [], h, 98, 10728)) lr_2371 rfl ?_
  exact kk

set_option maxRecDepth 100000 in
theorem x_c26a (h : xH) (L : Nat) (xs : Nat → Int32) (i : Int32) (h0 : ¬ (i < 0 ∨ L ≤ (i).toNatClampNeg)) (h1 : ¬ (i + 1 < 0 ∨ L ≤ (i + 1).toNatClampNeg)) (h2 : ¬ (i + 2 < 0 ∨ L ≤ (i + 2).toNatClampNeg)) (h3 : ¬ (i + 3 < 0 ∨ L ≤ (i + 3).toNatClampNeg)) (h4 : ¬ (i + 4 < 0 ∨ L ≤ (i + 4).toNatClampNeg)) (h5 : ¬ (i + 5 < 0 ∨ L ≤ (i + 5).toNatClampNeg)) {P : Option Value × xH × Nat × Nat → Prop} (kk : x_R x_mt (some (L, xs)) 10 M_law (1072, [(3, .int i), (2, .ref 75), (1, .ref 0), (0, .ref x_scr)], [.int (xs ((i + 1)).toNatClampNeg), .ref 0], h, 98, 10728) P) : x_R x_mt (some (L, xs)) 10 M_law (1066, [(3, .int i), (2, .ref 75), (1, .ref 0), (0, .ref x_scr)], [], h, 98, 10728) P := by
  refine j_Lst (c' := (1067, [(3, .int i), (2, .ref 75), (1, .ref 0), (0, .ref x_scr)], [.ref 0], h, 98, 10728)) lr_1066 rfl ?_
  refine j_Lst (c' := (1068, [(3, .int i), (2, .ref 75), (1, .ref 0), (0, .ref x_scr)], [.ref x_scr, .ref 0], h, 98, 10728)) lr_1067 rfl ?_
  refine j_Lst (c' := (1069, [(3, .int i), (2, .ref 75), (1, .ref 0), (0, .ref x_scr)], [.int i, .ref x_scr, .ref 0], h, 98, 10728)) lr_1068 rfl ?_
  refine j_Lst (c' := (1070, [(3, .int i), (2, .ref 75), (1, .ref 0), (0, .ref x_scr)], [.int 1, .int i, .ref x_scr, .ref 0], h, 98, 10728)) lr_1069 rfl ?_
  refine j_Lst (c' := (1071, [(3, .int i), (2, .ref 75), (1, .ref 0), (0, .ref x_scr)], [.int (i + 1), .ref x_scr, .ref 0], h, 98, 10728)) lr_1070 rfl ?_
  refine j_Lsl (c' := (1072, [(3, .int i), (2, .ref 75), (1, .ref 0), (0, .ref x_scr)], [.int (xs ((i + 1)).toNatClampNeg), .ref 0], h, 98, 10728)) lr_1071 rfl h1 ?_
  exact kk

set_option maxRecDepth 100000 in
theorem x_c26b (h : xH) (L : Nat) (xs : Nat → Int32) (i : Int32) (h0 : ¬ (i < 0 ∨ L ≤ (i).toNatClampNeg)) (h1 : ¬ (i + 1 < 0 ∨ L ≤ (i + 1).toNatClampNeg)) (h2 : ¬ (i + 2 < 0 ∨ L ≤ (i + 2).toNatClampNeg)) (h3 : ¬ (i + 3 < 0 ∨ L ≤ (i + 3).toNatClampNeg)) (h4 : ¬ (i + 4 < 0 ∨ L ≤ (i + 4).toNatClampNeg)) (h5 : ¬ (i + 5 < 0 ∨ L ≤ (i + 5).toNatClampNeg)) (v : Int32) {P : Option Value × xH × Nat × Nat → Prop} (kk : x_R x_mt (some (L, xs)) 10 M_law (1082, [(3, .int i), (2, .ref 75), (1, .ref 0), (0, .ref x_scr)], [.int (xs ((i + 1)).toNatClampNeg), .ref 75], h, 98, 10728) P) : x_R x_mt (some (L, xs)) 10 M_law (1075, [(3, .int i), (2, .ref 75), (1, .ref 0), (0, .ref x_scr)], [.int v], h, 98, 10728) P := by
  refine j_Lst (c' := (1076, [(3, .int i), (2, .ref 75), (1, .ref 0), (0, .ref x_scr)], [], h, 98, 10728)) lr_1075 rfl ?_
  refine j_Lst (c' := (1077, [(3, .int i), (2, .ref 75), (1, .ref 0), (0, .ref x_scr)], [.ref 75], h, 98, 10728)) lr_1076 rfl ?_
  refine j_Lst (c' := (1078, [(3, .int i), (2, .ref 75), (1, .ref 0), (0, .ref x_scr)], [.ref x_scr, .ref 75], h, 98, 10728)) lr_1077 rfl ?_
  refine j_Lst (c' := (1079, [(3, .int i), (2, .ref 75), (1, .ref 0), (0, .ref x_scr)], [.int i, .ref x_scr, .ref 75], h, 98, 10728)) lr_1078 rfl ?_
  refine j_Lst (c' := (1080, [(3, .int i), (2, .ref 75), (1, .ref 0), (0, .ref x_scr)], [.int 1, .int i, .ref x_scr, .ref 75], h, 98, 10728)) lr_1079 rfl ?_
  refine j_Lst (c' := (1081, [(3, .int i), (2, .ref 75), (1, .ref 0), (0, .ref x_scr)], [.int (i + 1), .ref x_scr, .ref 75], h, 98, 10728)) lr_1080 rfl ?_
  refine j_Lsl (c' := (1082, [(3, .int i), (2, .ref 75), (1, .ref 0), (0, .ref x_scr)], [.int (xs ((i + 1)).toNatClampNeg), .ref 75], h, 98, 10728)) lr_1081 rfl h1 ?_
  exact kk

set_option maxRecDepth 100000 in
theorem x_c26d (h : xH) (L : Nat) (xs : Nat → Int32) (i : Int32) (h0 : ¬ (i < 0 ∨ L ≤ (i).toNatClampNeg)) (h1 : ¬ (i + 1 < 0 ∨ L ≤ (i + 1).toNatClampNeg)) (h2 : ¬ (i + 2 < 0 ∨ L ≤ (i + 2).toNatClampNeg)) (h3 : ¬ (i + 3 < 0 ∨ L ≤ (i + 3).toNatClampNeg)) (h4 : ¬ (i + 4 < 0 ∨ L ≤ (i + 4).toNatClampNeg)) (h5 : ¬ (i + 5 < 0 ∨ L ≤ (i + 5).toNatClampNeg)) (w : Int32) {P : Option Value × xH × Nat × Nat → Prop} (kk : x_R x_mt (some (L, xs)) 10 M_law (18, [(3, .int (i + Int32.ofInt (6))), (2, .ref 75), (1, .ref 0), (0, .ref x_scr)], [], h, 98, 10728) P) : x_R x_mt (some (L, xs)) 10 M_law (1085, [(3, .int i), (2, .ref 75), (1, .ref 0), (0, .ref x_scr)], [.int w], h, 98, 10728) P := by
  refine j_Lst (c' := (1086, [(3, .int i), (2, .ref 75), (1, .ref 0), (0, .ref x_scr)], [], h, 98, 10728)) lr_1085 rfl ?_
  refine j_Lst (c' := (2368, [(3, .int i), (2, .ref 75), (1, .ref 0), (0, .ref x_scr)], [], h, 98, 10728)) lr_1086 rfl ?_
  refine j_Lst (c' := (2371, [(3, .int (i + Int32.ofInt (6))), (2, .ref 75), (1, .ref 0), (0, .ref x_scr)], [], h, 98, 10728)) lr_2368 rfl ?_
  refine j_Lst (c' := (18, [(3, .int (i + Int32.ofInt (6))), (2, .ref 75), (1, .ref 0), (0, .ref x_scr)], [], h, 98, 10728)) lr_2371 rfl ?_
  exact kk

set_option maxRecDepth 100000 in
theorem x_c27a (h : xH) (L : Nat) (xs : Nat → Int32) (i : Int32) (h0 : ¬ (i < 0 ∨ L ≤ (i).toNatClampNeg)) (h1 : ¬ (i + 1 < 0 ∨ L ≤ (i + 1).toNatClampNeg)) (h2 : ¬ (i + 2 < 0 ∨ L ≤ (i + 2).toNatClampNeg)) (h3 : ¬ (i + 3 < 0 ∨ L ≤ (i + 3).toNatClampNeg)) (h4 : ¬ (i + 4 < 0 ∨ L ≤ (i + 4).toNatClampNeg)) (h5 : ¬ (i + 5 < 0 ∨ L ≤ (i + 5).toNatClampNeg)) {P : Option Value × xH × Nat × Nat → Prop} (kk : x_R x_mt (some (L, xs)) 10 M_law (1100, [(3, .int i), (2, .ref 75), (1, .ref 0), (0, .ref x_scr)], [.int (xs ((i + 2)).toNatClampNeg), .int (xs ((i + 1)).toNatClampNeg), .ref 0], h, 98, 10728) P) : x_R x_mt (some (L, xs)) 10 M_law (1089, [(3, .int i), (2, .ref 75), (1, .ref 0), (0, .ref x_scr)], [], h, 98, 10728) P := by
  refine j_Lst (c' := (1090, [(3, .int i), (2, .ref 75), (1, .ref 0), (0, .ref x_scr)], [.ref 0], h, 98, 10728)) lr_1089 rfl ?_
  refine j_Lst (c' := (1091, [(3, .int i), (2, .ref 75), (1, .ref 0), (0, .ref x_scr)], [.ref x_scr, .ref 0], h, 98, 10728)) lr_1090 rfl ?_
  refine j_Lst (c' := (1092, [(3, .int i), (2, .ref 75), (1, .ref 0), (0, .ref x_scr)], [.int i, .ref x_scr, .ref 0], h, 98, 10728)) lr_1091 rfl ?_
  refine j_Lst (c' := (1093, [(3, .int i), (2, .ref 75), (1, .ref 0), (0, .ref x_scr)], [.int 1, .int i, .ref x_scr, .ref 0], h, 98, 10728)) lr_1092 rfl ?_
  refine j_Lst (c' := (1094, [(3, .int i), (2, .ref 75), (1, .ref 0), (0, .ref x_scr)], [.int (i + 1), .ref x_scr, .ref 0], h, 98, 10728)) lr_1093 rfl ?_
  refine j_Lsl (c' := (1095, [(3, .int i), (2, .ref 75), (1, .ref 0), (0, .ref x_scr)], [.int (xs ((i + 1)).toNatClampNeg), .ref 0], h, 98, 10728)) lr_1094 rfl h1 ?_
  refine j_Lst (c' := (1096, [(3, .int i), (2, .ref 75), (1, .ref 0), (0, .ref x_scr)], [.ref x_scr, .int (xs ((i + 1)).toNatClampNeg), .ref 0], h, 98, 10728)) lr_1095 rfl ?_
  refine j_Lst (c' := (1097, [(3, .int i), (2, .ref 75), (1, .ref 0), (0, .ref x_scr)], [.int i, .ref x_scr, .int (xs ((i + 1)).toNatClampNeg), .ref 0], h, 98, 10728)) lr_1096 rfl ?_
  refine j_Lst (c' := (1098, [(3, .int i), (2, .ref 75), (1, .ref 0), (0, .ref x_scr)], [.int 2, .int i, .ref x_scr, .int (xs ((i + 1)).toNatClampNeg), .ref 0], h, 98, 10728)) lr_1097 rfl ?_
  refine j_Lst (c' := (1099, [(3, .int i), (2, .ref 75), (1, .ref 0), (0, .ref x_scr)], [.int (i + 2), .ref x_scr, .int (xs ((i + 1)).toNatClampNeg), .ref 0], h, 98, 10728)) lr_1098 rfl ?_
  refine j_Lsl (c' := (1100, [(3, .int i), (2, .ref 75), (1, .ref 0), (0, .ref x_scr)], [.int (xs ((i + 2)).toNatClampNeg), .int (xs ((i + 1)).toNatClampNeg), .ref 0], h, 98, 10728)) lr_1099 rfl h2 ?_
  exact kk

set_option maxRecDepth 100000 in
theorem x_c27b (h : xH) (L : Nat) (xs : Nat → Int32) (i : Int32) (h0 : ¬ (i < 0 ∨ L ≤ (i).toNatClampNeg)) (h1 : ¬ (i + 1 < 0 ∨ L ≤ (i + 1).toNatClampNeg)) (h2 : ¬ (i + 2 < 0 ∨ L ≤ (i + 2).toNatClampNeg)) (h3 : ¬ (i + 3 < 0 ∨ L ≤ (i + 3).toNatClampNeg)) (h4 : ¬ (i + 4 < 0 ∨ L ≤ (i + 4).toNatClampNeg)) (h5 : ¬ (i + 5 < 0 ∨ L ≤ (i + 5).toNatClampNeg)) (v : Int32) {P : Option Value × xH × Nat × Nat → Prop} (kk : x_R x_mt (some (L, xs)) 10 M_law (1115, [(3, .int i), (2, .ref 75), (1, .ref 0), (0, .ref x_scr)], [.int (xs ((i + 2)).toNatClampNeg), .int (xs ((i + 1)).toNatClampNeg), .ref 75], h, 98, 10728) P) : x_R x_mt (some (L, xs)) 10 M_law (1103, [(3, .int i), (2, .ref 75), (1, .ref 0), (0, .ref x_scr)], [.int v], h, 98, 10728) P := by
  refine j_Lst (c' := (1104, [(3, .int i), (2, .ref 75), (1, .ref 0), (0, .ref x_scr)], [], h, 98, 10728)) lr_1103 rfl ?_
  refine j_Lst (c' := (1105, [(3, .int i), (2, .ref 75), (1, .ref 0), (0, .ref x_scr)], [.ref 75], h, 98, 10728)) lr_1104 rfl ?_
  refine j_Lst (c' := (1106, [(3, .int i), (2, .ref 75), (1, .ref 0), (0, .ref x_scr)], [.ref x_scr, .ref 75], h, 98, 10728)) lr_1105 rfl ?_
  refine j_Lst (c' := (1107, [(3, .int i), (2, .ref 75), (1, .ref 0), (0, .ref x_scr)], [.int i, .ref x_scr, .ref 75], h, 98, 10728)) lr_1106 rfl ?_
  refine j_Lst (c' := (1108, [(3, .int i), (2, .ref 75), (1, .ref 0), (0, .ref x_scr)], [.int 1, .int i, .ref x_scr, .ref 75], h, 98, 10728)) lr_1107 rfl ?_
  refine j_Lst (c' := (1109, [(3, .int i), (2, .ref 75), (1, .ref 0), (0, .ref x_scr)], [.int (i + 1), .ref x_scr, .ref 75], h, 98, 10728)) lr_1108 rfl ?_
  refine j_Lsl (c' := (1110, [(3, .int i), (2, .ref 75), (1, .ref 0), (0, .ref x_scr)], [.int (xs ((i + 1)).toNatClampNeg), .ref 75], h, 98, 10728)) lr_1109 rfl h1 ?_
  refine j_Lst (c' := (1111, [(3, .int i), (2, .ref 75), (1, .ref 0), (0, .ref x_scr)], [.ref x_scr, .int (xs ((i + 1)).toNatClampNeg), .ref 75], h, 98, 10728)) lr_1110 rfl ?_
  refine j_Lst (c' := (1112, [(3, .int i), (2, .ref 75), (1, .ref 0), (0, .ref x_scr)], [.int i, .ref x_scr, .int (xs ((i + 1)).toNatClampNeg), .ref 75], h, 98, 10728)) lr_1111 rfl ?_
  refine j_Lst (c' := (1113, [(3, .int i), (2, .ref 75), (1, .ref 0), (0, .ref x_scr)], [.int 2, .int i, .ref x_scr, .int (xs ((i + 1)).toNatClampNeg), .ref 75], h, 98, 10728)) lr_1112 rfl ?_
  refine j_Lst (c' := (1114, [(3, .int i), (2, .ref 75), (1, .ref 0), (0, .ref x_scr)], [.int (i + 2), .ref x_scr, .int (xs ((i + 1)).toNatClampNeg), .ref 75], h, 98, 10728)) lr_1113 rfl ?_
  refine j_Lsl (c' := (1115, [(3, .int i), (2, .ref 75), (1, .ref 0), (0, .ref x_scr)], [.int (xs ((i + 2)).toNatClampNeg), .int (xs ((i + 1)).toNatClampNeg), .ref 75], h, 98, 10728)) lr_1114 rfl h2 ?_
  exact kk

set_option maxRecDepth 100000 in
theorem x_c27d (h : xH) (L : Nat) (xs : Nat → Int32) (i : Int32) (h0 : ¬ (i < 0 ∨ L ≤ (i).toNatClampNeg)) (h1 : ¬ (i + 1 < 0 ∨ L ≤ (i + 1).toNatClampNeg)) (h2 : ¬ (i + 2 < 0 ∨ L ≤ (i + 2).toNatClampNeg)) (h3 : ¬ (i + 3 < 0 ∨ L ≤ (i + 3).toNatClampNeg)) (h4 : ¬ (i + 4 < 0 ∨ L ≤ (i + 4).toNatClampNeg)) (h5 : ¬ (i + 5 < 0 ∨ L ≤ (i + 5).toNatClampNeg)) (w : Int32) {P : Option Value × xH × Nat × Nat → Prop} (kk : x_R x_mt (some (L, xs)) 10 M_law (18, [(3, .int (i + Int32.ofInt (6))), (2, .ref 75), (1, .ref 0), (0, .ref x_scr)], [], h, 98, 10728) P) : x_R x_mt (some (L, xs)) 10 M_law (1118, [(3, .int i), (2, .ref 75), (1, .ref 0), (0, .ref x_scr)], [.int w], h, 98, 10728) P := by
  refine j_Lst (c' := (1119, [(3, .int i), (2, .ref 75), (1, .ref 0), (0, .ref x_scr)], [], h, 98, 10728)) lr_1118 rfl ?_
  refine j_Lst (c' := (2368, [(3, .int i), (2, .ref 75), (1, .ref 0), (0, .ref x_scr)], [], h, 98, 10728)) lr_1119 rfl ?_
  refine j_Lst (c' := (2371, [(3, .int (i + Int32.ofInt (6))), (2, .ref 75), (1, .ref 0), (0, .ref x_scr)], [], h, 98, 10728)) lr_2368 rfl ?_
  refine j_Lst (c' := (18, [(3, .int (i + Int32.ofInt (6))), (2, .ref 75), (1, .ref 0), (0, .ref x_scr)], [], h, 98, 10728)) lr_2371 rfl ?_
  exact kk

set_option maxRecDepth 100000 in
theorem x_c28a (h : xH) (L : Nat) (xs : Nat → Int32) (i : Int32) (h0 : ¬ (i < 0 ∨ L ≤ (i).toNatClampNeg)) (h1 : ¬ (i + 1 < 0 ∨ L ≤ (i + 1).toNatClampNeg)) (h2 : ¬ (i + 2 < 0 ∨ L ≤ (i + 2).toNatClampNeg)) (h3 : ¬ (i + 3 < 0 ∨ L ≤ (i + 3).toNatClampNeg)) (h4 : ¬ (i + 4 < 0 ∨ L ≤ (i + 4).toNatClampNeg)) (h5 : ¬ (i + 5 < 0 ∨ L ≤ (i + 5).toNatClampNeg)) {P : Option Value × xH × Nat × Nat → Prop} (kk : x_R x_mt (some (L, xs)) 10 M_law (1128, [(3, .int i), (2, .ref 75), (1, .ref 0), (0, .ref x_scr)], [.int (xs ((i + 1)).toNatClampNeg), .ref 0], h, 98, 10728) P) : x_R x_mt (some (L, xs)) 10 M_law (1122, [(3, .int i), (2, .ref 75), (1, .ref 0), (0, .ref x_scr)], [], h, 98, 10728) P := by
  refine j_Lst (c' := (1123, [(3, .int i), (2, .ref 75), (1, .ref 0), (0, .ref x_scr)], [.ref 0], h, 98, 10728)) lr_1122 rfl ?_
  refine j_Lst (c' := (1124, [(3, .int i), (2, .ref 75), (1, .ref 0), (0, .ref x_scr)], [.ref x_scr, .ref 0], h, 98, 10728)) lr_1123 rfl ?_
  refine j_Lst (c' := (1125, [(3, .int i), (2, .ref 75), (1, .ref 0), (0, .ref x_scr)], [.int i, .ref x_scr, .ref 0], h, 98, 10728)) lr_1124 rfl ?_
  refine j_Lst (c' := (1126, [(3, .int i), (2, .ref 75), (1, .ref 0), (0, .ref x_scr)], [.int 1, .int i, .ref x_scr, .ref 0], h, 98, 10728)) lr_1125 rfl ?_
  refine j_Lst (c' := (1127, [(3, .int i), (2, .ref 75), (1, .ref 0), (0, .ref x_scr)], [.int (i + 1), .ref x_scr, .ref 0], h, 98, 10728)) lr_1126 rfl ?_
  refine j_Lsl (c' := (1128, [(3, .int i), (2, .ref 75), (1, .ref 0), (0, .ref x_scr)], [.int (xs ((i + 1)).toNatClampNeg), .ref 0], h, 98, 10728)) lr_1127 rfl h1 ?_
  exact kk

set_option maxRecDepth 100000 in
theorem x_c28b (h : xH) (L : Nat) (xs : Nat → Int32) (i : Int32) (h0 : ¬ (i < 0 ∨ L ≤ (i).toNatClampNeg)) (h1 : ¬ (i + 1 < 0 ∨ L ≤ (i + 1).toNatClampNeg)) (h2 : ¬ (i + 2 < 0 ∨ L ≤ (i + 2).toNatClampNeg)) (h3 : ¬ (i + 3 < 0 ∨ L ≤ (i + 3).toNatClampNeg)) (h4 : ¬ (i + 4 < 0 ∨ L ≤ (i + 4).toNatClampNeg)) (h5 : ¬ (i + 5 < 0 ∨ L ≤ (i + 5).toNatClampNeg)) (v : Int32) {P : Option Value × xH × Nat × Nat → Prop} (kk : x_R x_mt (some (L, xs)) 10 M_law (1138, [(3, .int i), (2, .ref 75), (1, .ref 0), (0, .ref x_scr)], [.int (xs ((i + 1)).toNatClampNeg), .ref 75], h, 98, 10728) P) : x_R x_mt (some (L, xs)) 10 M_law (1131, [(3, .int i), (2, .ref 75), (1, .ref 0), (0, .ref x_scr)], [.int v], h, 98, 10728) P := by
  refine j_Lst (c' := (1132, [(3, .int i), (2, .ref 75), (1, .ref 0), (0, .ref x_scr)], [], h, 98, 10728)) lr_1131 rfl ?_
  refine j_Lst (c' := (1133, [(3, .int i), (2, .ref 75), (1, .ref 0), (0, .ref x_scr)], [.ref 75], h, 98, 10728)) lr_1132 rfl ?_
  refine j_Lst (c' := (1134, [(3, .int i), (2, .ref 75), (1, .ref 0), (0, .ref x_scr)], [.ref x_scr, .ref 75], h, 98, 10728)) lr_1133 rfl ?_
  refine j_Lst (c' := (1135, [(3, .int i), (2, .ref 75), (1, .ref 0), (0, .ref x_scr)], [.int i, .ref x_scr, .ref 75], h, 98, 10728)) lr_1134 rfl ?_
  refine j_Lst (c' := (1136, [(3, .int i), (2, .ref 75), (1, .ref 0), (0, .ref x_scr)], [.int 1, .int i, .ref x_scr, .ref 75], h, 98, 10728)) lr_1135 rfl ?_
  refine j_Lst (c' := (1137, [(3, .int i), (2, .ref 75), (1, .ref 0), (0, .ref x_scr)], [.int (i + 1), .ref x_scr, .ref 75], h, 98, 10728)) lr_1136 rfl ?_
  refine j_Lsl (c' := (1138, [(3, .int i), (2, .ref 75), (1, .ref 0), (0, .ref x_scr)], [.int (xs ((i + 1)).toNatClampNeg), .ref 75], h, 98, 10728)) lr_1137 rfl h1 ?_
  exact kk

set_option maxRecDepth 100000 in
theorem x_c28d (h : xH) (L : Nat) (xs : Nat → Int32) (i : Int32) (h0 : ¬ (i < 0 ∨ L ≤ (i).toNatClampNeg)) (h1 : ¬ (i + 1 < 0 ∨ L ≤ (i + 1).toNatClampNeg)) (h2 : ¬ (i + 2 < 0 ∨ L ≤ (i + 2).toNatClampNeg)) (h3 : ¬ (i + 3 < 0 ∨ L ≤ (i + 3).toNatClampNeg)) (h4 : ¬ (i + 4 < 0 ∨ L ≤ (i + 4).toNatClampNeg)) (h5 : ¬ (i + 5 < 0 ∨ L ≤ (i + 5).toNatClampNeg)) (w : Int32) {P : Option Value × xH × Nat × Nat → Prop} (kk : x_R x_mt (some (L, xs)) 10 M_law (18, [(3, .int (i + Int32.ofInt (6))), (2, .ref 75), (1, .ref 0), (0, .ref x_scr)], [], h, 98, 10728) P) : x_R x_mt (some (L, xs)) 10 M_law (1141, [(3, .int i), (2, .ref 75), (1, .ref 0), (0, .ref x_scr)], [.int w], h, 98, 10728) P := by
  refine j_Lst (c' := (1142, [(3, .int i), (2, .ref 75), (1, .ref 0), (0, .ref x_scr)], [], h, 98, 10728)) lr_1141 rfl ?_
  refine j_Lst (c' := (2368, [(3, .int i), (2, .ref 75), (1, .ref 0), (0, .ref x_scr)], [], h, 98, 10728)) lr_1142 rfl ?_
  refine j_Lst (c' := (2371, [(3, .int (i + Int32.ofInt (6))), (2, .ref 75), (1, .ref 0), (0, .ref x_scr)], [], h, 98, 10728)) lr_2368 rfl ?_
  refine j_Lst (c' := (18, [(3, .int (i + Int32.ofInt (6))), (2, .ref 75), (1, .ref 0), (0, .ref x_scr)], [], h, 98, 10728)) lr_2371 rfl ?_
  exact kk

set_option maxRecDepth 100000 in
theorem x_c29a (h : xH) (L : Nat) (xs : Nat → Int32) (i : Int32) (h0 : ¬ (i < 0 ∨ L ≤ (i).toNatClampNeg)) (h1 : ¬ (i + 1 < 0 ∨ L ≤ (i + 1).toNatClampNeg)) (h2 : ¬ (i + 2 < 0 ∨ L ≤ (i + 2).toNatClampNeg)) (h3 : ¬ (i + 3 < 0 ∨ L ≤ (i + 3).toNatClampNeg)) (h4 : ¬ (i + 4 < 0 ∨ L ≤ (i + 4).toNatClampNeg)) (h5 : ¬ (i + 5 < 0 ∨ L ≤ (i + 5).toNatClampNeg)) {P : Option Value × xH × Nat × Nat → Prop} (kk : x_R x_mt (some (L, xs)) 10 M_law (1151, [(3, .int i), (2, .ref 75), (1, .ref 0), (0, .ref x_scr)], [.int (xs ((i + 1)).toNatClampNeg), .ref 0], h, 98, 10728) P) : x_R x_mt (some (L, xs)) 10 M_law (1145, [(3, .int i), (2, .ref 75), (1, .ref 0), (0, .ref x_scr)], [], h, 98, 10728) P := by
  refine j_Lst (c' := (1146, [(3, .int i), (2, .ref 75), (1, .ref 0), (0, .ref x_scr)], [.ref 0], h, 98, 10728)) lr_1145 rfl ?_
  refine j_Lst (c' := (1147, [(3, .int i), (2, .ref 75), (1, .ref 0), (0, .ref x_scr)], [.ref x_scr, .ref 0], h, 98, 10728)) lr_1146 rfl ?_
  refine j_Lst (c' := (1148, [(3, .int i), (2, .ref 75), (1, .ref 0), (0, .ref x_scr)], [.int i, .ref x_scr, .ref 0], h, 98, 10728)) lr_1147 rfl ?_
  refine j_Lst (c' := (1149, [(3, .int i), (2, .ref 75), (1, .ref 0), (0, .ref x_scr)], [.int 1, .int i, .ref x_scr, .ref 0], h, 98, 10728)) lr_1148 rfl ?_
  refine j_Lst (c' := (1150, [(3, .int i), (2, .ref 75), (1, .ref 0), (0, .ref x_scr)], [.int (i + 1), .ref x_scr, .ref 0], h, 98, 10728)) lr_1149 rfl ?_
  refine j_Lsl (c' := (1151, [(3, .int i), (2, .ref 75), (1, .ref 0), (0, .ref x_scr)], [.int (xs ((i + 1)).toNatClampNeg), .ref 0], h, 98, 10728)) lr_1150 rfl h1 ?_
  exact kk

set_option maxRecDepth 100000 in
theorem x_c29b (h : xH) (L : Nat) (xs : Nat → Int32) (i : Int32) (h0 : ¬ (i < 0 ∨ L ≤ (i).toNatClampNeg)) (h1 : ¬ (i + 1 < 0 ∨ L ≤ (i + 1).toNatClampNeg)) (h2 : ¬ (i + 2 < 0 ∨ L ≤ (i + 2).toNatClampNeg)) (h3 : ¬ (i + 3 < 0 ∨ L ≤ (i + 3).toNatClampNeg)) (h4 : ¬ (i + 4 < 0 ∨ L ≤ (i + 4).toNatClampNeg)) (h5 : ¬ (i + 5 < 0 ∨ L ≤ (i + 5).toNatClampNeg)) (v : Int32) {P : Option Value × xH × Nat × Nat → Prop} (kk : x_R x_mt (some (L, xs)) 10 M_law (1161, [(3, .int i), (2, .ref 75), (1, .ref 0), (0, .ref x_scr)], [.int (xs ((i + 1)).toNatClampNeg), .ref 75], h, 98, 10728) P) : x_R x_mt (some (L, xs)) 10 M_law (1154, [(3, .int i), (2, .ref 75), (1, .ref 0), (0, .ref x_scr)], [.int v], h, 98, 10728) P := by
  refine j_Lst (c' := (1155, [(3, .int i), (2, .ref 75), (1, .ref 0), (0, .ref x_scr)], [], h, 98, 10728)) lr_1154 rfl ?_
  refine j_Lst (c' := (1156, [(3, .int i), (2, .ref 75), (1, .ref 0), (0, .ref x_scr)], [.ref 75], h, 98, 10728)) lr_1155 rfl ?_
  refine j_Lst (c' := (1157, [(3, .int i), (2, .ref 75), (1, .ref 0), (0, .ref x_scr)], [.ref x_scr, .ref 75], h, 98, 10728)) lr_1156 rfl ?_
  refine j_Lst (c' := (1158, [(3, .int i), (2, .ref 75), (1, .ref 0), (0, .ref x_scr)], [.int i, .ref x_scr, .ref 75], h, 98, 10728)) lr_1157 rfl ?_
  refine j_Lst (c' := (1159, [(3, .int i), (2, .ref 75), (1, .ref 0), (0, .ref x_scr)], [.int 1, .int i, .ref x_scr, .ref 75], h, 98, 10728)) lr_1158 rfl ?_
  refine j_Lst (c' := (1160, [(3, .int i), (2, .ref 75), (1, .ref 0), (0, .ref x_scr)], [.int (i + 1), .ref x_scr, .ref 75], h, 98, 10728)) lr_1159 rfl ?_
  refine j_Lsl (c' := (1161, [(3, .int i), (2, .ref 75), (1, .ref 0), (0, .ref x_scr)], [.int (xs ((i + 1)).toNatClampNeg), .ref 75], h, 98, 10728)) lr_1160 rfl h1 ?_
  exact kk

set_option maxRecDepth 100000 in
theorem x_c29d (h : xH) (L : Nat) (xs : Nat → Int32) (i : Int32) (h0 : ¬ (i < 0 ∨ L ≤ (i).toNatClampNeg)) (h1 : ¬ (i + 1 < 0 ∨ L ≤ (i + 1).toNatClampNeg)) (h2 : ¬ (i + 2 < 0 ∨ L ≤ (i + 2).toNatClampNeg)) (h3 : ¬ (i + 3 < 0 ∨ L ≤ (i + 3).toNatClampNeg)) (h4 : ¬ (i + 4 < 0 ∨ L ≤ (i + 4).toNatClampNeg)) (h5 : ¬ (i + 5 < 0 ∨ L ≤ (i + 5).toNatClampNeg)) (w : Int32) {P : Option Value × xH × Nat × Nat → Prop} (kk : x_R x_mt (some (L, xs)) 10 M_law (18, [(3, .int (i + Int32.ofInt (6))), (2, .ref 75), (1, .ref 0), (0, .ref x_scr)], [], h, 98, 10728) P) : x_R x_mt (some (L, xs)) 10 M_law (1164, [(3, .int i), (2, .ref 75), (1, .ref 0), (0, .ref x_scr)], [.int w], h, 98, 10728) P := by
  refine j_Lst (c' := (1165, [(3, .int i), (2, .ref 75), (1, .ref 0), (0, .ref x_scr)], [], h, 98, 10728)) lr_1164 rfl ?_
  refine j_Lst (c' := (2368, [(3, .int i), (2, .ref 75), (1, .ref 0), (0, .ref x_scr)], [], h, 98, 10728)) lr_1165 rfl ?_
  refine j_Lst (c' := (2371, [(3, .int (i + Int32.ofInt (6))), (2, .ref 75), (1, .ref 0), (0, .ref x_scr)], [], h, 98, 10728)) lr_2368 rfl ?_
  refine j_Lst (c' := (18, [(3, .int (i + Int32.ofInt (6))), (2, .ref 75), (1, .ref 0), (0, .ref x_scr)], [], h, 98, 10728)) lr_2371 rfl ?_
  exact kk

set_option maxRecDepth 100000 in
theorem x_c30a (h : xH) (L : Nat) (xs : Nat → Int32) (i : Int32) (h0 : ¬ (i < 0 ∨ L ≤ (i).toNatClampNeg)) (h1 : ¬ (i + 1 < 0 ∨ L ≤ (i + 1).toNatClampNeg)) (h2 : ¬ (i + 2 < 0 ∨ L ≤ (i + 2).toNatClampNeg)) (h3 : ¬ (i + 3 < 0 ∨ L ≤ (i + 3).toNatClampNeg)) (h4 : ¬ (i + 4 < 0 ∨ L ≤ (i + 4).toNatClampNeg)) (h5 : ¬ (i + 5 < 0 ∨ L ≤ (i + 5).toNatClampNeg)) {P : Option Value × xH × Nat × Nat → Prop} (kk : x_R x_mt (some (L, xs)) 10 M_law (1179, [(3, .int i), (2, .ref 75), (1, .ref 0), (0, .ref x_scr)], [.int (xs ((i + 2)).toNatClampNeg), .int (xs ((i + 1)).toNatClampNeg), .ref 0], h, 98, 10728) P) : x_R x_mt (some (L, xs)) 10 M_law (1168, [(3, .int i), (2, .ref 75), (1, .ref 0), (0, .ref x_scr)], [], h, 98, 10728) P := by
  refine j_Lst (c' := (1169, [(3, .int i), (2, .ref 75), (1, .ref 0), (0, .ref x_scr)], [.ref 0], h, 98, 10728)) lr_1168 rfl ?_
  refine j_Lst (c' := (1170, [(3, .int i), (2, .ref 75), (1, .ref 0), (0, .ref x_scr)], [.ref x_scr, .ref 0], h, 98, 10728)) lr_1169 rfl ?_
  refine j_Lst (c' := (1171, [(3, .int i), (2, .ref 75), (1, .ref 0), (0, .ref x_scr)], [.int i, .ref x_scr, .ref 0], h, 98, 10728)) lr_1170 rfl ?_
  refine j_Lst (c' := (1172, [(3, .int i), (2, .ref 75), (1, .ref 0), (0, .ref x_scr)], [.int 1, .int i, .ref x_scr, .ref 0], h, 98, 10728)) lr_1171 rfl ?_
  refine j_Lst (c' := (1173, [(3, .int i), (2, .ref 75), (1, .ref 0), (0, .ref x_scr)], [.int (i + 1), .ref x_scr, .ref 0], h, 98, 10728)) lr_1172 rfl ?_
  refine j_Lsl (c' := (1174, [(3, .int i), (2, .ref 75), (1, .ref 0), (0, .ref x_scr)], [.int (xs ((i + 1)).toNatClampNeg), .ref 0], h, 98, 10728)) lr_1173 rfl h1 ?_
  refine j_Lst (c' := (1175, [(3, .int i), (2, .ref 75), (1, .ref 0), (0, .ref x_scr)], [.ref x_scr, .int (xs ((i + 1)).toNatClampNeg), .ref 0], h, 98, 10728)) lr_1174 rfl ?_
  refine j_Lst (c' := (1176, [(3, .int i), (2, .ref 75), (1, .ref 0), (0, .ref x_scr)], [.int i, .ref x_scr, .int (xs ((i + 1)).toNatClampNeg), .ref 0], h, 98, 10728)) lr_1175 rfl ?_
  refine j_Lst (c' := (1177, [(3, .int i), (2, .ref 75), (1, .ref 0), (0, .ref x_scr)], [.int 2, .int i, .ref x_scr, .int (xs ((i + 1)).toNatClampNeg), .ref 0], h, 98, 10728)) lr_1176 rfl ?_
  refine j_Lst (c' := (1178, [(3, .int i), (2, .ref 75), (1, .ref 0), (0, .ref x_scr)], [.int (i + 2), .ref x_scr, .int (xs ((i + 1)).toNatClampNeg), .ref 0], h, 98, 10728)) lr_1177 rfl ?_
  refine j_Lsl (c' := (1179, [(3, .int i), (2, .ref 75), (1, .ref 0), (0, .ref x_scr)], [.int (xs ((i + 2)).toNatClampNeg), .int (xs ((i + 1)).toNatClampNeg), .ref 0], h, 98, 10728)) lr_1178 rfl h2 ?_
  exact kk

set_option maxRecDepth 100000 in
theorem x_c30b (h : xH) (L : Nat) (xs : Nat → Int32) (i : Int32) (h0 : ¬ (i < 0 ∨ L ≤ (i).toNatClampNeg)) (h1 : ¬ (i + 1 < 0 ∨ L ≤ (i + 1).toNatClampNeg)) (h2 : ¬ (i + 2 < 0 ∨ L ≤ (i + 2).toNatClampNeg)) (h3 : ¬ (i + 3 < 0 ∨ L ≤ (i + 3).toNatClampNeg)) (h4 : ¬ (i + 4 < 0 ∨ L ≤ (i + 4).toNatClampNeg)) (h5 : ¬ (i + 5 < 0 ∨ L ≤ (i + 5).toNatClampNeg)) (v : Int64) {P : Option Value × xH × Nat × Nat → Prop} (kk : x_R x_mt (some (L, xs)) 10 M_law (1194, [(3, .int i), (2, .ref 75), (1, .ref 0), (0, .ref x_scr)], [.int (xs ((i + 2)).toNatClampNeg), .int (xs ((i + 1)).toNatClampNeg), .ref 75], h, 98, 10728) P) : x_R x_mt (some (L, xs)) 10 M_law (1182, [(3, .int i), (2, .ref 75), (1, .ref 0), (0, .ref x_scr)], [.long v], h, 98, 10728) P := by
  refine j_Lst (c' := (1183, [(3, .int i), (2, .ref 75), (1, .ref 0), (0, .ref x_scr)], [], h, 98, 10728)) lr_1182 rfl ?_
  refine j_Lst (c' := (1184, [(3, .int i), (2, .ref 75), (1, .ref 0), (0, .ref x_scr)], [.ref 75], h, 98, 10728)) lr_1183 rfl ?_
  refine j_Lst (c' := (1185, [(3, .int i), (2, .ref 75), (1, .ref 0), (0, .ref x_scr)], [.ref x_scr, .ref 75], h, 98, 10728)) lr_1184 rfl ?_
  refine j_Lst (c' := (1186, [(3, .int i), (2, .ref 75), (1, .ref 0), (0, .ref x_scr)], [.int i, .ref x_scr, .ref 75], h, 98, 10728)) lr_1185 rfl ?_
  refine j_Lst (c' := (1187, [(3, .int i), (2, .ref 75), (1, .ref 0), (0, .ref x_scr)], [.int 1, .int i, .ref x_scr, .ref 75], h, 98, 10728)) lr_1186 rfl ?_
  refine j_Lst (c' := (1188, [(3, .int i), (2, .ref 75), (1, .ref 0), (0, .ref x_scr)], [.int (i + 1), .ref x_scr, .ref 75], h, 98, 10728)) lr_1187 rfl ?_
  refine j_Lsl (c' := (1189, [(3, .int i), (2, .ref 75), (1, .ref 0), (0, .ref x_scr)], [.int (xs ((i + 1)).toNatClampNeg), .ref 75], h, 98, 10728)) lr_1188 rfl h1 ?_
  refine j_Lst (c' := (1190, [(3, .int i), (2, .ref 75), (1, .ref 0), (0, .ref x_scr)], [.ref x_scr, .int (xs ((i + 1)).toNatClampNeg), .ref 75], h, 98, 10728)) lr_1189 rfl ?_
  refine j_Lst (c' := (1191, [(3, .int i), (2, .ref 75), (1, .ref 0), (0, .ref x_scr)], [.int i, .ref x_scr, .int (xs ((i + 1)).toNatClampNeg), .ref 75], h, 98, 10728)) lr_1190 rfl ?_
  refine j_Lst (c' := (1192, [(3, .int i), (2, .ref 75), (1, .ref 0), (0, .ref x_scr)], [.int 2, .int i, .ref x_scr, .int (xs ((i + 1)).toNatClampNeg), .ref 75], h, 98, 10728)) lr_1191 rfl ?_
  refine j_Lst (c' := (1193, [(3, .int i), (2, .ref 75), (1, .ref 0), (0, .ref x_scr)], [.int (i + 2), .ref x_scr, .int (xs ((i + 1)).toNatClampNeg), .ref 75], h, 98, 10728)) lr_1192 rfl ?_
  refine j_Lsl (c' := (1194, [(3, .int i), (2, .ref 75), (1, .ref 0), (0, .ref x_scr)], [.int (xs ((i + 2)).toNatClampNeg), .int (xs ((i + 1)).toNatClampNeg), .ref 75], h, 98, 10728)) lr_1193 rfl h2 ?_
  exact kk

set_option maxRecDepth 100000 in
theorem x_c30d (h : xH) (L : Nat) (xs : Nat → Int32) (i : Int32) (h0 : ¬ (i < 0 ∨ L ≤ (i).toNatClampNeg)) (h1 : ¬ (i + 1 < 0 ∨ L ≤ (i + 1).toNatClampNeg)) (h2 : ¬ (i + 2 < 0 ∨ L ≤ (i + 2).toNatClampNeg)) (h3 : ¬ (i + 3 < 0 ∨ L ≤ (i + 3).toNatClampNeg)) (h4 : ¬ (i + 4 < 0 ∨ L ≤ (i + 4).toNatClampNeg)) (h5 : ¬ (i + 5 < 0 ∨ L ≤ (i + 5).toNatClampNeg)) (w : Int64) {P : Option Value × xH × Nat × Nat → Prop} (kk : x_R x_mt (some (L, xs)) 10 M_law (18, [(3, .int (i + Int32.ofInt (6))), (2, .ref 75), (1, .ref 0), (0, .ref x_scr)], [], h, 98, 10728) P) : x_R x_mt (some (L, xs)) 10 M_law (1197, [(3, .int i), (2, .ref 75), (1, .ref 0), (0, .ref x_scr)], [.long w], h, 98, 10728) P := by
  refine j_Lst (c' := (1198, [(3, .int i), (2, .ref 75), (1, .ref 0), (0, .ref x_scr)], [], h, 98, 10728)) lr_1197 rfl ?_
  refine j_Lst (c' := (2368, [(3, .int i), (2, .ref 75), (1, .ref 0), (0, .ref x_scr)], [], h, 98, 10728)) lr_1198 rfl ?_
  refine j_Lst (c' := (2371, [(3, .int (i + Int32.ofInt (6))), (2, .ref 75), (1, .ref 0), (0, .ref x_scr)], [], h, 98, 10728)) lr_2368 rfl ?_
  refine j_Lst (c' := (18, [(3, .int (i + Int32.ofInt (6))), (2, .ref 75), (1, .ref 0), (0, .ref x_scr)], [], h, 98, 10728)) lr_2371 rfl ?_
  exact kk

set_option maxRecDepth 100000 in
theorem x_c31a (h : xH) (L : Nat) (xs : Nat → Int32) (i : Int32) (h0 : ¬ (i < 0 ∨ L ≤ (i).toNatClampNeg)) (h1 : ¬ (i + 1 < 0 ∨ L ≤ (i + 1).toNatClampNeg)) (h2 : ¬ (i + 2 < 0 ∨ L ≤ (i + 2).toNatClampNeg)) (h3 : ¬ (i + 3 < 0 ∨ L ≤ (i + 3).toNatClampNeg)) (h4 : ¬ (i + 4 < 0 ∨ L ≤ (i + 4).toNatClampNeg)) (h5 : ¬ (i + 5 < 0 ∨ L ≤ (i + 5).toNatClampNeg)) {P : Option Value × xH × Nat × Nat → Prop} (kk : x_R x_mt (some (L, xs)) 10 M_law (1217, [(3, .int i), (2, .ref 75), (1, .ref 0), (0, .ref x_scr)], [.int (xs ((i + 3)).toNatClampNeg), .int (xs ((i + 2)).toNatClampNeg), .int (xs ((i + 1)).toNatClampNeg), .ref 0], h, 98, 10728) P) : x_R x_mt (some (L, xs)) 10 M_law (1201, [(3, .int i), (2, .ref 75), (1, .ref 0), (0, .ref x_scr)], [], h, 98, 10728) P := by
  refine j_Lst (c' := (1202, [(3, .int i), (2, .ref 75), (1, .ref 0), (0, .ref x_scr)], [.ref 0], h, 98, 10728)) lr_1201 rfl ?_
  refine j_Lst (c' := (1203, [(3, .int i), (2, .ref 75), (1, .ref 0), (0, .ref x_scr)], [.ref x_scr, .ref 0], h, 98, 10728)) lr_1202 rfl ?_
  refine j_Lst (c' := (1204, [(3, .int i), (2, .ref 75), (1, .ref 0), (0, .ref x_scr)], [.int i, .ref x_scr, .ref 0], h, 98, 10728)) lr_1203 rfl ?_
  refine j_Lst (c' := (1205, [(3, .int i), (2, .ref 75), (1, .ref 0), (0, .ref x_scr)], [.int 1, .int i, .ref x_scr, .ref 0], h, 98, 10728)) lr_1204 rfl ?_
  refine j_Lst (c' := (1206, [(3, .int i), (2, .ref 75), (1, .ref 0), (0, .ref x_scr)], [.int (i + 1), .ref x_scr, .ref 0], h, 98, 10728)) lr_1205 rfl ?_
  refine j_Lsl (c' := (1207, [(3, .int i), (2, .ref 75), (1, .ref 0), (0, .ref x_scr)], [.int (xs ((i + 1)).toNatClampNeg), .ref 0], h, 98, 10728)) lr_1206 rfl h1 ?_
  refine j_Lst (c' := (1208, [(3, .int i), (2, .ref 75), (1, .ref 0), (0, .ref x_scr)], [.ref x_scr, .int (xs ((i + 1)).toNatClampNeg), .ref 0], h, 98, 10728)) lr_1207 rfl ?_
  refine j_Lst (c' := (1209, [(3, .int i), (2, .ref 75), (1, .ref 0), (0, .ref x_scr)], [.int i, .ref x_scr, .int (xs ((i + 1)).toNatClampNeg), .ref 0], h, 98, 10728)) lr_1208 rfl ?_
  refine j_Lst (c' := (1210, [(3, .int i), (2, .ref 75), (1, .ref 0), (0, .ref x_scr)], [.int 2, .int i, .ref x_scr, .int (xs ((i + 1)).toNatClampNeg), .ref 0], h, 98, 10728)) lr_1209 rfl ?_
  refine j_Lst (c' := (1211, [(3, .int i), (2, .ref 75), (1, .ref 0), (0, .ref x_scr)], [.int (i + 2), .ref x_scr, .int (xs ((i + 1)).toNatClampNeg), .ref 0], h, 98, 10728)) lr_1210 rfl ?_
  refine j_Lsl (c' := (1212, [(3, .int i), (2, .ref 75), (1, .ref 0), (0, .ref x_scr)], [.int (xs ((i + 2)).toNatClampNeg), .int (xs ((i + 1)).toNatClampNeg), .ref 0], h, 98, 10728)) lr_1211 rfl h2 ?_
  refine j_Lst (c' := (1213, [(3, .int i), (2, .ref 75), (1, .ref 0), (0, .ref x_scr)], [.ref x_scr, .int (xs ((i + 2)).toNatClampNeg), .int (xs ((i + 1)).toNatClampNeg), .ref 0], h, 98, 10728)) lr_1212 rfl ?_
  refine j_Lst (c' := (1214, [(3, .int i), (2, .ref 75), (1, .ref 0), (0, .ref x_scr)], [.int i, .ref x_scr, .int (xs ((i + 2)).toNatClampNeg), .int (xs ((i + 1)).toNatClampNeg), .ref 0], h, 98, 10728)) lr_1213 rfl ?_
  refine j_Lst (c' := (1215, [(3, .int i), (2, .ref 75), (1, .ref 0), (0, .ref x_scr)], [.int 3, .int i, .ref x_scr, .int (xs ((i + 2)).toNatClampNeg), .int (xs ((i + 1)).toNatClampNeg), .ref 0], h, 98, 10728)) lr_1214 rfl ?_
  refine j_Lst (c' := (1216, [(3, .int i), (2, .ref 75), (1, .ref 0), (0, .ref x_scr)], [.int (i + 3), .ref x_scr, .int (xs ((i + 2)).toNatClampNeg), .int (xs ((i + 1)).toNatClampNeg), .ref 0], h, 98, 10728)) lr_1215 rfl ?_
  refine j_Lsl (c' := (1217, [(3, .int i), (2, .ref 75), (1, .ref 0), (0, .ref x_scr)], [.int (xs ((i + 3)).toNatClampNeg), .int (xs ((i + 2)).toNatClampNeg), .int (xs ((i + 1)).toNatClampNeg), .ref 0], h, 98, 10728)) lr_1216 rfl h3 ?_
  exact kk

set_option maxRecDepth 100000 in
theorem x_c31b (h : xH) (L : Nat) (xs : Nat → Int32) (i : Int32) (h0 : ¬ (i < 0 ∨ L ≤ (i).toNatClampNeg)) (h1 : ¬ (i + 1 < 0 ∨ L ≤ (i + 1).toNatClampNeg)) (h2 : ¬ (i + 2 < 0 ∨ L ≤ (i + 2).toNatClampNeg)) (h3 : ¬ (i + 3 < 0 ∨ L ≤ (i + 3).toNatClampNeg)) (h4 : ¬ (i + 4 < 0 ∨ L ≤ (i + 4).toNatClampNeg)) (h5 : ¬ (i + 5 < 0 ∨ L ≤ (i + 5).toNatClampNeg)) (v : Int64) {P : Option Value × xH × Nat × Nat → Prop} (kk : x_R x_mt (some (L, xs)) 10 M_law (1237, [(3, .int i), (2, .ref 75), (1, .ref 0), (0, .ref x_scr)], [.int (xs ((i + 3)).toNatClampNeg), .int (xs ((i + 2)).toNatClampNeg), .int (xs ((i + 1)).toNatClampNeg), .ref 75], h, 98, 10728) P) : x_R x_mt (some (L, xs)) 10 M_law (1220, [(3, .int i), (2, .ref 75), (1, .ref 0), (0, .ref x_scr)], [.long v], h, 98, 10728) P := by
  refine j_Lst (c' := (1221, [(3, .int i), (2, .ref 75), (1, .ref 0), (0, .ref x_scr)], [], h, 98, 10728)) lr_1220 rfl ?_
  refine j_Lst (c' := (1222, [(3, .int i), (2, .ref 75), (1, .ref 0), (0, .ref x_scr)], [.ref 75], h, 98, 10728)) lr_1221 rfl ?_
  refine j_Lst (c' := (1223, [(3, .int i), (2, .ref 75), (1, .ref 0), (0, .ref x_scr)], [.ref x_scr, .ref 75], h, 98, 10728)) lr_1222 rfl ?_
  refine j_Lst (c' := (1224, [(3, .int i), (2, .ref 75), (1, .ref 0), (0, .ref x_scr)], [.int i, .ref x_scr, .ref 75], h, 98, 10728)) lr_1223 rfl ?_
  refine j_Lst (c' := (1225, [(3, .int i), (2, .ref 75), (1, .ref 0), (0, .ref x_scr)], [.int 1, .int i, .ref x_scr, .ref 75], h, 98, 10728)) lr_1224 rfl ?_
  refine j_Lst (c' := (1226, [(3, .int i), (2, .ref 75), (1, .ref 0), (0, .ref x_scr)], [.int (i + 1), .ref x_scr, .ref 75], h, 98, 10728)) lr_1225 rfl ?_
  refine j_Lsl (c' := (1227, [(3, .int i), (2, .ref 75), (1, .ref 0), (0, .ref x_scr)], [.int (xs ((i + 1)).toNatClampNeg), .ref 75], h, 98, 10728)) lr_1226 rfl h1 ?_
  refine j_Lst (c' := (1228, [(3, .int i), (2, .ref 75), (1, .ref 0), (0, .ref x_scr)], [.ref x_scr, .int (xs ((i + 1)).toNatClampNeg), .ref 75], h, 98, 10728)) lr_1227 rfl ?_
  refine j_Lst (c' := (1229, [(3, .int i), (2, .ref 75), (1, .ref 0), (0, .ref x_scr)], [.int i, .ref x_scr, .int (xs ((i + 1)).toNatClampNeg), .ref 75], h, 98, 10728)) lr_1228 rfl ?_
  refine j_Lst (c' := (1230, [(3, .int i), (2, .ref 75), (1, .ref 0), (0, .ref x_scr)], [.int 2, .int i, .ref x_scr, .int (xs ((i + 1)).toNatClampNeg), .ref 75], h, 98, 10728)) lr_1229 rfl ?_
  refine j_Lst (c' := (1231, [(3, .int i), (2, .ref 75), (1, .ref 0), (0, .ref x_scr)], [.int (i + 2), .ref x_scr, .int (xs ((i + 1)).toNatClampNeg), .ref 75], h, 98, 10728)) lr_1230 rfl ?_
  refine j_Lsl (c' := (1232, [(3, .int i), (2, .ref 75), (1, .ref 0), (0, .ref x_scr)], [.int (xs ((i + 2)).toNatClampNeg), .int (xs ((i + 1)).toNatClampNeg), .ref 75], h, 98, 10728)) lr_1231 rfl h2 ?_
  refine j_Lst (c' := (1233, [(3, .int i), (2, .ref 75), (1, .ref 0), (0, .ref x_scr)], [.ref x_scr, .int (xs ((i + 2)).toNatClampNeg), .int (xs ((i + 1)).toNatClampNeg), .ref 75], h, 98, 10728)) lr_1232 rfl ?_
  refine j_Lst (c' := (1234, [(3, .int i), (2, .ref 75), (1, .ref 0), (0, .ref x_scr)], [.int i, .ref x_scr, .int (xs ((i + 2)).toNatClampNeg), .int (xs ((i + 1)).toNatClampNeg), .ref 75], h, 98, 10728)) lr_1233 rfl ?_
  refine j_Lst (c' := (1235, [(3, .int i), (2, .ref 75), (1, .ref 0), (0, .ref x_scr)], [.int 3, .int i, .ref x_scr, .int (xs ((i + 2)).toNatClampNeg), .int (xs ((i + 1)).toNatClampNeg), .ref 75], h, 98, 10728)) lr_1234 rfl ?_
  refine j_Lst (c' := (1236, [(3, .int i), (2, .ref 75), (1, .ref 0), (0, .ref x_scr)], [.int (i + 3), .ref x_scr, .int (xs ((i + 2)).toNatClampNeg), .int (xs ((i + 1)).toNatClampNeg), .ref 75], h, 98, 10728)) lr_1235 rfl ?_
  refine j_Lsl (c' := (1237, [(3, .int i), (2, .ref 75), (1, .ref 0), (0, .ref x_scr)], [.int (xs ((i + 3)).toNatClampNeg), .int (xs ((i + 2)).toNatClampNeg), .int (xs ((i + 1)).toNatClampNeg), .ref 75], h, 98, 10728)) lr_1236 rfl h3 ?_
  exact kk

set_option maxRecDepth 100000 in
theorem x_c31d (h : xH) (L : Nat) (xs : Nat → Int32) (i : Int32) (h0 : ¬ (i < 0 ∨ L ≤ (i).toNatClampNeg)) (h1 : ¬ (i + 1 < 0 ∨ L ≤ (i + 1).toNatClampNeg)) (h2 : ¬ (i + 2 < 0 ∨ L ≤ (i + 2).toNatClampNeg)) (h3 : ¬ (i + 3 < 0 ∨ L ≤ (i + 3).toNatClampNeg)) (h4 : ¬ (i + 4 < 0 ∨ L ≤ (i + 4).toNatClampNeg)) (h5 : ¬ (i + 5 < 0 ∨ L ≤ (i + 5).toNatClampNeg)) (w : Int64) {P : Option Value × xH × Nat × Nat → Prop} (kk : x_R x_mt (some (L, xs)) 10 M_law (18, [(3, .int (i + Int32.ofInt (6))), (2, .ref 75), (1, .ref 0), (0, .ref x_scr)], [], h, 98, 10728) P) : x_R x_mt (some (L, xs)) 10 M_law (1240, [(3, .int i), (2, .ref 75), (1, .ref 0), (0, .ref x_scr)], [.long w], h, 98, 10728) P := by
  refine j_Lst (c' := (1241, [(3, .int i), (2, .ref 75), (1, .ref 0), (0, .ref x_scr)], [], h, 98, 10728)) lr_1240 rfl ?_
  refine j_Lst (c' := (2368, [(3, .int i), (2, .ref 75), (1, .ref 0), (0, .ref x_scr)], [], h, 98, 10728)) lr_1241 rfl ?_
  refine j_Lst (c' := (2371, [(3, .int (i + Int32.ofInt (6))), (2, .ref 75), (1, .ref 0), (0, .ref x_scr)], [], h, 98, 10728)) lr_2368 rfl ?_
  refine j_Lst (c' := (18, [(3, .int (i + Int32.ofInt (6))), (2, .ref 75), (1, .ref 0), (0, .ref x_scr)], [], h, 98, 10728)) lr_2371 rfl ?_
  exact kk

set_option maxRecDepth 100000 in
theorem x_c32a (h : xH) (L : Nat) (xs : Nat → Int32) (i : Int32) (h0 : ¬ (i < 0 ∨ L ≤ (i).toNatClampNeg)) (h1 : ¬ (i + 1 < 0 ∨ L ≤ (i + 1).toNatClampNeg)) (h2 : ¬ (i + 2 < 0 ∨ L ≤ (i + 2).toNatClampNeg)) (h3 : ¬ (i + 3 < 0 ∨ L ≤ (i + 3).toNatClampNeg)) (h4 : ¬ (i + 4 < 0 ∨ L ≤ (i + 4).toNatClampNeg)) (h5 : ¬ (i + 5 < 0 ∨ L ≤ (i + 5).toNatClampNeg)) {P : Option Value × xH × Nat × Nat → Prop} (kk : x_R x_mt (some (L, xs)) 10 M_law (1250, [(3, .int i), (2, .ref 75), (1, .ref 0), (0, .ref x_scr)], [.int (xs ((i + 1)).toNatClampNeg), .ref 0], h, 98, 10728) P) : x_R x_mt (some (L, xs)) 10 M_law (1244, [(3, .int i), (2, .ref 75), (1, .ref 0), (0, .ref x_scr)], [], h, 98, 10728) P := by
  refine j_Lst (c' := (1245, [(3, .int i), (2, .ref 75), (1, .ref 0), (0, .ref x_scr)], [.ref 0], h, 98, 10728)) lr_1244 rfl ?_
  refine j_Lst (c' := (1246, [(3, .int i), (2, .ref 75), (1, .ref 0), (0, .ref x_scr)], [.ref x_scr, .ref 0], h, 98, 10728)) lr_1245 rfl ?_
  refine j_Lst (c' := (1247, [(3, .int i), (2, .ref 75), (1, .ref 0), (0, .ref x_scr)], [.int i, .ref x_scr, .ref 0], h, 98, 10728)) lr_1246 rfl ?_
  refine j_Lst (c' := (1248, [(3, .int i), (2, .ref 75), (1, .ref 0), (0, .ref x_scr)], [.int 1, .int i, .ref x_scr, .ref 0], h, 98, 10728)) lr_1247 rfl ?_
  refine j_Lst (c' := (1249, [(3, .int i), (2, .ref 75), (1, .ref 0), (0, .ref x_scr)], [.int (i + 1), .ref x_scr, .ref 0], h, 98, 10728)) lr_1248 rfl ?_
  refine j_Lsl (c' := (1250, [(3, .int i), (2, .ref 75), (1, .ref 0), (0, .ref x_scr)], [.int (xs ((i + 1)).toNatClampNeg), .ref 0], h, 98, 10728)) lr_1249 rfl h1 ?_
  exact kk

set_option maxRecDepth 100000 in
theorem x_c32b (h : xH) (L : Nat) (xs : Nat → Int32) (i : Int32) (h0 : ¬ (i < 0 ∨ L ≤ (i).toNatClampNeg)) (h1 : ¬ (i + 1 < 0 ∨ L ≤ (i + 1).toNatClampNeg)) (h2 : ¬ (i + 2 < 0 ∨ L ≤ (i + 2).toNatClampNeg)) (h3 : ¬ (i + 3 < 0 ∨ L ≤ (i + 3).toNatClampNeg)) (h4 : ¬ (i + 4 < 0 ∨ L ≤ (i + 4).toNatClampNeg)) (h5 : ¬ (i + 5 < 0 ∨ L ≤ (i + 5).toNatClampNeg)) (v : Int32) {P : Option Value × xH × Nat × Nat → Prop} (kk : x_R x_mt (some (L, xs)) 10 M_law (1260, [(3, .int i), (2, .ref 75), (1, .ref 0), (0, .ref x_scr)], [.int (xs ((i + 1)).toNatClampNeg), .ref 75], h, 98, 10728) P) : x_R x_mt (some (L, xs)) 10 M_law (1253, [(3, .int i), (2, .ref 75), (1, .ref 0), (0, .ref x_scr)], [.int v], h, 98, 10728) P := by
  refine j_Lst (c' := (1254, [(3, .int i), (2, .ref 75), (1, .ref 0), (0, .ref x_scr)], [], h, 98, 10728)) lr_1253 rfl ?_
  refine j_Lst (c' := (1255, [(3, .int i), (2, .ref 75), (1, .ref 0), (0, .ref x_scr)], [.ref 75], h, 98, 10728)) lr_1254 rfl ?_
  refine j_Lst (c' := (1256, [(3, .int i), (2, .ref 75), (1, .ref 0), (0, .ref x_scr)], [.ref x_scr, .ref 75], h, 98, 10728)) lr_1255 rfl ?_
  refine j_Lst (c' := (1257, [(3, .int i), (2, .ref 75), (1, .ref 0), (0, .ref x_scr)], [.int i, .ref x_scr, .ref 75], h, 98, 10728)) lr_1256 rfl ?_
  refine j_Lst (c' := (1258, [(3, .int i), (2, .ref 75), (1, .ref 0), (0, .ref x_scr)], [.int 1, .int i, .ref x_scr, .ref 75], h, 98, 10728)) lr_1257 rfl ?_
  refine j_Lst (c' := (1259, [(3, .int i), (2, .ref 75), (1, .ref 0), (0, .ref x_scr)], [.int (i + 1), .ref x_scr, .ref 75], h, 98, 10728)) lr_1258 rfl ?_
  refine j_Lsl (c' := (1260, [(3, .int i), (2, .ref 75), (1, .ref 0), (0, .ref x_scr)], [.int (xs ((i + 1)).toNatClampNeg), .ref 75], h, 98, 10728)) lr_1259 rfl h1 ?_
  exact kk

set_option maxRecDepth 100000 in
theorem x_c32d (h : xH) (L : Nat) (xs : Nat → Int32) (i : Int32) (h0 : ¬ (i < 0 ∨ L ≤ (i).toNatClampNeg)) (h1 : ¬ (i + 1 < 0 ∨ L ≤ (i + 1).toNatClampNeg)) (h2 : ¬ (i + 2 < 0 ∨ L ≤ (i + 2).toNatClampNeg)) (h3 : ¬ (i + 3 < 0 ∨ L ≤ (i + 3).toNatClampNeg)) (h4 : ¬ (i + 4 < 0 ∨ L ≤ (i + 4).toNatClampNeg)) (h5 : ¬ (i + 5 < 0 ∨ L ≤ (i + 5).toNatClampNeg)) (w : Int32) {P : Option Value × xH × Nat × Nat → Prop} (kk : x_R x_mt (some (L, xs)) 10 M_law (18, [(3, .int (i + Int32.ofInt (6))), (2, .ref 75), (1, .ref 0), (0, .ref x_scr)], [], h, 98, 10728) P) : x_R x_mt (some (L, xs)) 10 M_law (1263, [(3, .int i), (2, .ref 75), (1, .ref 0), (0, .ref x_scr)], [.int w], h, 98, 10728) P := by
  refine j_Lst (c' := (1264, [(3, .int i), (2, .ref 75), (1, .ref 0), (0, .ref x_scr)], [], h, 98, 10728)) lr_1263 rfl ?_
  refine j_Lst (c' := (2368, [(3, .int i), (2, .ref 75), (1, .ref 0), (0, .ref x_scr)], [], h, 98, 10728)) lr_1264 rfl ?_
  refine j_Lst (c' := (2371, [(3, .int (i + Int32.ofInt (6))), (2, .ref 75), (1, .ref 0), (0, .ref x_scr)], [], h, 98, 10728)) lr_2368 rfl ?_
  refine j_Lst (c' := (18, [(3, .int (i + Int32.ofInt (6))), (2, .ref 75), (1, .ref 0), (0, .ref x_scr)], [], h, 98, 10728)) lr_2371 rfl ?_
  exact kk

set_option maxRecDepth 100000 in
theorem x_c33a (h : xH) (L : Nat) (xs : Nat → Int32) (i : Int32) (h0 : ¬ (i < 0 ∨ L ≤ (i).toNatClampNeg)) (h1 : ¬ (i + 1 < 0 ∨ L ≤ (i + 1).toNatClampNeg)) (h2 : ¬ (i + 2 < 0 ∨ L ≤ (i + 2).toNatClampNeg)) (h3 : ¬ (i + 3 < 0 ∨ L ≤ (i + 3).toNatClampNeg)) (h4 : ¬ (i + 4 < 0 ∨ L ≤ (i + 4).toNatClampNeg)) (h5 : ¬ (i + 5 < 0 ∨ L ≤ (i + 5).toNatClampNeg)) {P : Option Value × xH × Nat × Nat → Prop} (kk : x_R x_mt (some (L, xs)) 10 M_law (1273, [(3, .int i), (2, .ref 75), (1, .ref 0), (0, .ref x_scr)], [.int (xs ((i + 1)).toNatClampNeg), .ref 0], h, 98, 10728) P) : x_R x_mt (some (L, xs)) 10 M_law (1267, [(3, .int i), (2, .ref 75), (1, .ref 0), (0, .ref x_scr)], [], h, 98, 10728) P := by
  refine j_Lst (c' := (1268, [(3, .int i), (2, .ref 75), (1, .ref 0), (0, .ref x_scr)], [.ref 0], h, 98, 10728)) lr_1267 rfl ?_
  refine j_Lst (c' := (1269, [(3, .int i), (2, .ref 75), (1, .ref 0), (0, .ref x_scr)], [.ref x_scr, .ref 0], h, 98, 10728)) lr_1268 rfl ?_
  refine j_Lst (c' := (1270, [(3, .int i), (2, .ref 75), (1, .ref 0), (0, .ref x_scr)], [.int i, .ref x_scr, .ref 0], h, 98, 10728)) lr_1269 rfl ?_
  refine j_Lst (c' := (1271, [(3, .int i), (2, .ref 75), (1, .ref 0), (0, .ref x_scr)], [.int 1, .int i, .ref x_scr, .ref 0], h, 98, 10728)) lr_1270 rfl ?_
  refine j_Lst (c' := (1272, [(3, .int i), (2, .ref 75), (1, .ref 0), (0, .ref x_scr)], [.int (i + 1), .ref x_scr, .ref 0], h, 98, 10728)) lr_1271 rfl ?_
  refine j_Lsl (c' := (1273, [(3, .int i), (2, .ref 75), (1, .ref 0), (0, .ref x_scr)], [.int (xs ((i + 1)).toNatClampNeg), .ref 0], h, 98, 10728)) lr_1272 rfl h1 ?_
  exact kk

set_option maxRecDepth 100000 in
theorem x_c33b (h : xH) (L : Nat) (xs : Nat → Int32) (i : Int32) (h0 : ¬ (i < 0 ∨ L ≤ (i).toNatClampNeg)) (h1 : ¬ (i + 1 < 0 ∨ L ≤ (i + 1).toNatClampNeg)) (h2 : ¬ (i + 2 < 0 ∨ L ≤ (i + 2).toNatClampNeg)) (h3 : ¬ (i + 3 < 0 ∨ L ≤ (i + 3).toNatClampNeg)) (h4 : ¬ (i + 4 < 0 ∨ L ≤ (i + 4).toNatClampNeg)) (h5 : ¬ (i + 5 < 0 ∨ L ≤ (i + 5).toNatClampNeg)) (v : Int32) {P : Option Value × xH × Nat × Nat → Prop} (kk : x_R x_mt (some (L, xs)) 10 M_law (1283, [(3, .int i), (2, .ref 75), (1, .ref 0), (0, .ref x_scr)], [.int (xs ((i + 1)).toNatClampNeg), .ref 75], h, 98, 10728) P) : x_R x_mt (some (L, xs)) 10 M_law (1276, [(3, .int i), (2, .ref 75), (1, .ref 0), (0, .ref x_scr)], [.int v], h, 98, 10728) P := by
  refine j_Lst (c' := (1277, [(3, .int i), (2, .ref 75), (1, .ref 0), (0, .ref x_scr)], [], h, 98, 10728)) lr_1276 rfl ?_
  refine j_Lst (c' := (1278, [(3, .int i), (2, .ref 75), (1, .ref 0), (0, .ref x_scr)], [.ref 75], h, 98, 10728)) lr_1277 rfl ?_
  refine j_Lst (c' := (1279, [(3, .int i), (2, .ref 75), (1, .ref 0), (0, .ref x_scr)], [.ref x_scr, .ref 75], h, 98, 10728)) lr_1278 rfl ?_
  refine j_Lst (c' := (1280, [(3, .int i), (2, .ref 75), (1, .ref 0), (0, .ref x_scr)], [.int i, .ref x_scr, .ref 75], h, 98, 10728)) lr_1279 rfl ?_
  refine j_Lst (c' := (1281, [(3, .int i), (2, .ref 75), (1, .ref 0), (0, .ref x_scr)], [.int 1, .int i, .ref x_scr, .ref 75], h, 98, 10728)) lr_1280 rfl ?_
  refine j_Lst (c' := (1282, [(3, .int i), (2, .ref 75), (1, .ref 0), (0, .ref x_scr)], [.int (i + 1), .ref x_scr, .ref 75], h, 98, 10728)) lr_1281 rfl ?_
  refine j_Lsl (c' := (1283, [(3, .int i), (2, .ref 75), (1, .ref 0), (0, .ref x_scr)], [.int (xs ((i + 1)).toNatClampNeg), .ref 75], h, 98, 10728)) lr_1282 rfl h1 ?_
  exact kk

set_option maxRecDepth 100000 in
theorem x_c33d (h : xH) (L : Nat) (xs : Nat → Int32) (i : Int32) (h0 : ¬ (i < 0 ∨ L ≤ (i).toNatClampNeg)) (h1 : ¬ (i + 1 < 0 ∨ L ≤ (i + 1).toNatClampNeg)) (h2 : ¬ (i + 2 < 0 ∨ L ≤ (i + 2).toNatClampNeg)) (h3 : ¬ (i + 3 < 0 ∨ L ≤ (i + 3).toNatClampNeg)) (h4 : ¬ (i + 4 < 0 ∨ L ≤ (i + 4).toNatClampNeg)) (h5 : ¬ (i + 5 < 0 ∨ L ≤ (i + 5).toNatClampNeg)) (w : Int32) {P : Option Value × xH × Nat × Nat → Prop} (kk : x_R x_mt (some (L, xs)) 10 M_law (18, [(3, .int (i + Int32.ofInt (6))), (2, .ref 75), (1, .ref 0), (0, .ref x_scr)], [], h, 98, 10728) P) : x_R x_mt (some (L, xs)) 10 M_law (1286, [(3, .int i), (2, .ref 75), (1, .ref 0), (0, .ref x_scr)], [.int w], h, 98, 10728) P := by
  refine j_Lst (c' := (1287, [(3, .int i), (2, .ref 75), (1, .ref 0), (0, .ref x_scr)], [], h, 98, 10728)) lr_1286 rfl ?_
  refine j_Lst (c' := (2368, [(3, .int i), (2, .ref 75), (1, .ref 0), (0, .ref x_scr)], [], h, 98, 10728)) lr_1287 rfl ?_
  refine j_Lst (c' := (2371, [(3, .int (i + Int32.ofInt (6))), (2, .ref 75), (1, .ref 0), (0, .ref x_scr)], [], h, 98, 10728)) lr_2368 rfl ?_
  refine j_Lst (c' := (18, [(3, .int (i + Int32.ofInt (6))), (2, .ref 75), (1, .ref 0), (0, .ref x_scr)], [], h, 98, 10728)) lr_2371 rfl ?_
  exact kk

set_option maxRecDepth 100000 in
theorem x_c34a (h : xH) (L : Nat) (xs : Nat → Int32) (i : Int32) (h0 : ¬ (i < 0 ∨ L ≤ (i).toNatClampNeg)) (h1 : ¬ (i + 1 < 0 ∨ L ≤ (i + 1).toNatClampNeg)) (h2 : ¬ (i + 2 < 0 ∨ L ≤ (i + 2).toNatClampNeg)) (h3 : ¬ (i + 3 < 0 ∨ L ≤ (i + 3).toNatClampNeg)) (h4 : ¬ (i + 4 < 0 ∨ L ≤ (i + 4).toNatClampNeg)) (h5 : ¬ (i + 5 < 0 ∨ L ≤ (i + 5).toNatClampNeg)) {P : Option Value × xH × Nat × Nat → Prop} (kk : x_R x_mt (some (L, xs)) 10 M_law (1296, [(3, .int i), (2, .ref 75), (1, .ref 0), (0, .ref x_scr)], [.int (xs ((i + 1)).toNatClampNeg), .ref 0], h, 98, 10728) P) : x_R x_mt (some (L, xs)) 10 M_law (1290, [(3, .int i), (2, .ref 75), (1, .ref 0), (0, .ref x_scr)], [], h, 98, 10728) P := by
  refine j_Lst (c' := (1291, [(3, .int i), (2, .ref 75), (1, .ref 0), (0, .ref x_scr)], [.ref 0], h, 98, 10728)) lr_1290 rfl ?_
  refine j_Lst (c' := (1292, [(3, .int i), (2, .ref 75), (1, .ref 0), (0, .ref x_scr)], [.ref x_scr, .ref 0], h, 98, 10728)) lr_1291 rfl ?_
  refine j_Lst (c' := (1293, [(3, .int i), (2, .ref 75), (1, .ref 0), (0, .ref x_scr)], [.int i, .ref x_scr, .ref 0], h, 98, 10728)) lr_1292 rfl ?_
  refine j_Lst (c' := (1294, [(3, .int i), (2, .ref 75), (1, .ref 0), (0, .ref x_scr)], [.int 1, .int i, .ref x_scr, .ref 0], h, 98, 10728)) lr_1293 rfl ?_
  refine j_Lst (c' := (1295, [(3, .int i), (2, .ref 75), (1, .ref 0), (0, .ref x_scr)], [.int (i + 1), .ref x_scr, .ref 0], h, 98, 10728)) lr_1294 rfl ?_
  refine j_Lsl (c' := (1296, [(3, .int i), (2, .ref 75), (1, .ref 0), (0, .ref x_scr)], [.int (xs ((i + 1)).toNatClampNeg), .ref 0], h, 98, 10728)) lr_1295 rfl h1 ?_
  exact kk

set_option maxRecDepth 100000 in
theorem x_c34b (h : xH) (L : Nat) (xs : Nat → Int32) (i : Int32) (h0 : ¬ (i < 0 ∨ L ≤ (i).toNatClampNeg)) (h1 : ¬ (i + 1 < 0 ∨ L ≤ (i + 1).toNatClampNeg)) (h2 : ¬ (i + 2 < 0 ∨ L ≤ (i + 2).toNatClampNeg)) (h3 : ¬ (i + 3 < 0 ∨ L ≤ (i + 3).toNatClampNeg)) (h4 : ¬ (i + 4 < 0 ∨ L ≤ (i + 4).toNatClampNeg)) (h5 : ¬ (i + 5 < 0 ∨ L ≤ (i + 5).toNatClampNeg)) (v : Int32) {P : Option Value × xH × Nat × Nat → Prop} (kk : x_R x_mt (some (L, xs)) 10 M_law (1306, [(3, .int i), (2, .ref 75), (1, .ref 0), (0, .ref x_scr)], [.int (xs ((i + 1)).toNatClampNeg), .ref 75], h, 98, 10728) P) : x_R x_mt (some (L, xs)) 10 M_law (1299, [(3, .int i), (2, .ref 75), (1, .ref 0), (0, .ref x_scr)], [.int v], h, 98, 10728) P := by
  refine j_Lst (c' := (1300, [(3, .int i), (2, .ref 75), (1, .ref 0), (0, .ref x_scr)], [], h, 98, 10728)) lr_1299 rfl ?_
  refine j_Lst (c' := (1301, [(3, .int i), (2, .ref 75), (1, .ref 0), (0, .ref x_scr)], [.ref 75], h, 98, 10728)) lr_1300 rfl ?_
  refine j_Lst (c' := (1302, [(3, .int i), (2, .ref 75), (1, .ref 0), (0, .ref x_scr)], [.ref x_scr, .ref 75], h, 98, 10728)) lr_1301 rfl ?_
  refine j_Lst (c' := (1303, [(3, .int i), (2, .ref 75), (1, .ref 0), (0, .ref x_scr)], [.int i, .ref x_scr, .ref 75], h, 98, 10728)) lr_1302 rfl ?_
  refine j_Lst (c' := (1304, [(3, .int i), (2, .ref 75), (1, .ref 0), (0, .ref x_scr)], [.int 1, .int i, .ref x_scr, .ref 75], h, 98, 10728)) lr_1303 rfl ?_
  refine j_Lst (c' := (1305, [(3, .int i), (2, .ref 75), (1, .ref 0), (0, .ref x_scr)], [.int (i + 1), .ref x_scr, .ref 75], h, 98, 10728)) lr_1304 rfl ?_
  refine j_Lsl (c' := (1306, [(3, .int i), (2, .ref 75), (1, .ref 0), (0, .ref x_scr)], [.int (xs ((i + 1)).toNatClampNeg), .ref 75], h, 98, 10728)) lr_1305 rfl h1 ?_
  exact kk

set_option maxRecDepth 100000 in
theorem x_c34d (h : xH) (L : Nat) (xs : Nat → Int32) (i : Int32) (h0 : ¬ (i < 0 ∨ L ≤ (i).toNatClampNeg)) (h1 : ¬ (i + 1 < 0 ∨ L ≤ (i + 1).toNatClampNeg)) (h2 : ¬ (i + 2 < 0 ∨ L ≤ (i + 2).toNatClampNeg)) (h3 : ¬ (i + 3 < 0 ∨ L ≤ (i + 3).toNatClampNeg)) (h4 : ¬ (i + 4 < 0 ∨ L ≤ (i + 4).toNatClampNeg)) (h5 : ¬ (i + 5 < 0 ∨ L ≤ (i + 5).toNatClampNeg)) (w : Int32) {P : Option Value × xH × Nat × Nat → Prop} (kk : x_R x_mt (some (L, xs)) 10 M_law (18, [(3, .int (i + Int32.ofInt (6))), (2, .ref 75), (1, .ref 0), (0, .ref x_scr)], [], h, 98, 10728) P) : x_R x_mt (some (L, xs)) 10 M_law (1309, [(3, .int i), (2, .ref 75), (1, .ref 0), (0, .ref x_scr)], [.int w], h, 98, 10728) P := by
  refine j_Lst (c' := (1310, [(3, .int i), (2, .ref 75), (1, .ref 0), (0, .ref x_scr)], [], h, 98, 10728)) lr_1309 rfl ?_
  refine j_Lst (c' := (2368, [(3, .int i), (2, .ref 75), (1, .ref 0), (0, .ref x_scr)], [], h, 98, 10728)) lr_1310 rfl ?_
  refine j_Lst (c' := (2371, [(3, .int (i + Int32.ofInt (6))), (2, .ref 75), (1, .ref 0), (0, .ref x_scr)], [], h, 98, 10728)) lr_2368 rfl ?_
  refine j_Lst (c' := (18, [(3, .int (i + Int32.ofInt (6))), (2, .ref 75), (1, .ref 0), (0, .ref x_scr)], [], h, 98, 10728)) lr_2371 rfl ?_
  exact kk

set_option maxRecDepth 100000 in
theorem x_c35a (h : xH) (L : Nat) (xs : Nat → Int32) (i : Int32) (h0 : ¬ (i < 0 ∨ L ≤ (i).toNatClampNeg)) (h1 : ¬ (i + 1 < 0 ∨ L ≤ (i + 1).toNatClampNeg)) (h2 : ¬ (i + 2 < 0 ∨ L ≤ (i + 2).toNatClampNeg)) (h3 : ¬ (i + 3 < 0 ∨ L ≤ (i + 3).toNatClampNeg)) (h4 : ¬ (i + 4 < 0 ∨ L ≤ (i + 4).toNatClampNeg)) (h5 : ¬ (i + 5 < 0 ∨ L ≤ (i + 5).toNatClampNeg)) {P : Option Value × xH × Nat × Nat → Prop} (kk : x_R x_mt (some (L, xs)) 10 M_law (1319, [(3, .int i), (2, .ref 75), (1, .ref 0), (0, .ref x_scr)], [.int (xs ((i + 1)).toNatClampNeg), .ref 0], h, 98, 10728) P) : x_R x_mt (some (L, xs)) 10 M_law (1313, [(3, .int i), (2, .ref 75), (1, .ref 0), (0, .ref x_scr)], [], h, 98, 10728) P := by
  refine j_Lst (c' := (1314, [(3, .int i), (2, .ref 75), (1, .ref 0), (0, .ref x_scr)], [.ref 0], h, 98, 10728)) lr_1313 rfl ?_
  refine j_Lst (c' := (1315, [(3, .int i), (2, .ref 75), (1, .ref 0), (0, .ref x_scr)], [.ref x_scr, .ref 0], h, 98, 10728)) lr_1314 rfl ?_
  refine j_Lst (c' := (1316, [(3, .int i), (2, .ref 75), (1, .ref 0), (0, .ref x_scr)], [.int i, .ref x_scr, .ref 0], h, 98, 10728)) lr_1315 rfl ?_
  refine j_Lst (c' := (1317, [(3, .int i), (2, .ref 75), (1, .ref 0), (0, .ref x_scr)], [.int 1, .int i, .ref x_scr, .ref 0], h, 98, 10728)) lr_1316 rfl ?_
  refine j_Lst (c' := (1318, [(3, .int i), (2, .ref 75), (1, .ref 0), (0, .ref x_scr)], [.int (i + 1), .ref x_scr, .ref 0], h, 98, 10728)) lr_1317 rfl ?_
  refine j_Lsl (c' := (1319, [(3, .int i), (2, .ref 75), (1, .ref 0), (0, .ref x_scr)], [.int (xs ((i + 1)).toNatClampNeg), .ref 0], h, 98, 10728)) lr_1318 rfl h1 ?_
  exact kk

set_option maxRecDepth 100000 in
theorem x_c35b (h : xH) (L : Nat) (xs : Nat → Int32) (i : Int32) (h0 : ¬ (i < 0 ∨ L ≤ (i).toNatClampNeg)) (h1 : ¬ (i + 1 < 0 ∨ L ≤ (i + 1).toNatClampNeg)) (h2 : ¬ (i + 2 < 0 ∨ L ≤ (i + 2).toNatClampNeg)) (h3 : ¬ (i + 3 < 0 ∨ L ≤ (i + 3).toNatClampNeg)) (h4 : ¬ (i + 4 < 0 ∨ L ≤ (i + 4).toNatClampNeg)) (h5 : ¬ (i + 5 < 0 ∨ L ≤ (i + 5).toNatClampNeg)) (v : Int32) {P : Option Value × xH × Nat × Nat → Prop} (kk : x_R x_mt (some (L, xs)) 10 M_law (1329, [(3, .int i), (2, .ref 75), (1, .ref 0), (0, .ref x_scr)], [.int (xs ((i + 1)).toNatClampNeg), .ref 75], h, 98, 10728) P) : x_R x_mt (some (L, xs)) 10 M_law (1322, [(3, .int i), (2, .ref 75), (1, .ref 0), (0, .ref x_scr)], [.int v], h, 98, 10728) P := by
  refine j_Lst (c' := (1323, [(3, .int i), (2, .ref 75), (1, .ref 0), (0, .ref x_scr)], [], h, 98, 10728)) lr_1322 rfl ?_
  refine j_Lst (c' := (1324, [(3, .int i), (2, .ref 75), (1, .ref 0), (0, .ref x_scr)], [.ref 75], h, 98, 10728)) lr_1323 rfl ?_
  refine j_Lst (c' := (1325, [(3, .int i), (2, .ref 75), (1, .ref 0), (0, .ref x_scr)], [.ref x_scr, .ref 75], h, 98, 10728)) lr_1324 rfl ?_
  refine j_Lst (c' := (1326, [(3, .int i), (2, .ref 75), (1, .ref 0), (0, .ref x_scr)], [.int i, .ref x_scr, .ref 75], h, 98, 10728)) lr_1325 rfl ?_
  refine j_Lst (c' := (1327, [(3, .int i), (2, .ref 75), (1, .ref 0), (0, .ref x_scr)], [.int 1, .int i, .ref x_scr, .ref 75], h, 98, 10728)) lr_1326 rfl ?_
  refine j_Lst (c' := (1328, [(3, .int i), (2, .ref 75), (1, .ref 0), (0, .ref x_scr)], [.int (i + 1), .ref x_scr, .ref 75], h, 98, 10728)) lr_1327 rfl ?_
  refine j_Lsl (c' := (1329, [(3, .int i), (2, .ref 75), (1, .ref 0), (0, .ref x_scr)], [.int (xs ((i + 1)).toNatClampNeg), .ref 75], h, 98, 10728)) lr_1328 rfl h1 ?_
  exact kk

set_option maxRecDepth 100000 in
theorem x_c35d (h : xH) (L : Nat) (xs : Nat → Int32) (i : Int32) (h0 : ¬ (i < 0 ∨ L ≤ (i).toNatClampNeg)) (h1 : ¬ (i + 1 < 0 ∨ L ≤ (i + 1).toNatClampNeg)) (h2 : ¬ (i + 2 < 0 ∨ L ≤ (i + 2).toNatClampNeg)) (h3 : ¬ (i + 3 < 0 ∨ L ≤ (i + 3).toNatClampNeg)) (h4 : ¬ (i + 4 < 0 ∨ L ≤ (i + 4).toNatClampNeg)) (h5 : ¬ (i + 5 < 0 ∨ L ≤ (i + 5).toNatClampNeg)) (w : Int32) {P : Option Value × xH × Nat × Nat → Prop} (kk : x_R x_mt (some (L, xs)) 10 M_law (18, [(3, .int (i + Int32.ofInt (6))), (2, .ref 75), (1, .ref 0), (0, .ref x_scr)], [], h, 98, 10728) P) : x_R x_mt (some (L, xs)) 10 M_law (1332, [(3, .int i), (2, .ref 75), (1, .ref 0), (0, .ref x_scr)], [.int w], h, 98, 10728) P := by
  refine j_Lst (c' := (1333, [(3, .int i), (2, .ref 75), (1, .ref 0), (0, .ref x_scr)], [], h, 98, 10728)) lr_1332 rfl ?_
  refine j_Lst (c' := (2368, [(3, .int i), (2, .ref 75), (1, .ref 0), (0, .ref x_scr)], [], h, 98, 10728)) lr_1333 rfl ?_
  refine j_Lst (c' := (2371, [(3, .int (i + Int32.ofInt (6))), (2, .ref 75), (1, .ref 0), (0, .ref x_scr)], [], h, 98, 10728)) lr_2368 rfl ?_
  refine j_Lst (c' := (18, [(3, .int (i + Int32.ofInt (6))), (2, .ref 75), (1, .ref 0), (0, .ref x_scr)], [], h, 98, 10728)) lr_2371 rfl ?_
  exact kk

set_option maxRecDepth 100000 in
theorem x_c36a (h : xH) (L : Nat) (xs : Nat → Int32) (i : Int32) (h0 : ¬ (i < 0 ∨ L ≤ (i).toNatClampNeg)) (h1 : ¬ (i + 1 < 0 ∨ L ≤ (i + 1).toNatClampNeg)) (h2 : ¬ (i + 2 < 0 ∨ L ≤ (i + 2).toNatClampNeg)) (h3 : ¬ (i + 3 < 0 ∨ L ≤ (i + 3).toNatClampNeg)) (h4 : ¬ (i + 4 < 0 ∨ L ≤ (i + 4).toNatClampNeg)) (h5 : ¬ (i + 5 < 0 ∨ L ≤ (i + 5).toNatClampNeg)) {P : Option Value × xH × Nat × Nat → Prop} (kk : x_R x_mt (some (L, xs)) 10 M_law (1342, [(3, .int i), (2, .ref 75), (1, .ref 0), (0, .ref x_scr)], [.int (xs ((i + 1)).toNatClampNeg), .ref 0], h, 98, 10728) P) : x_R x_mt (some (L, xs)) 10 M_law (1336, [(3, .int i), (2, .ref 75), (1, .ref 0), (0, .ref x_scr)], [], h, 98, 10728) P := by
  refine j_Lst (c' := (1337, [(3, .int i), (2, .ref 75), (1, .ref 0), (0, .ref x_scr)], [.ref 0], h, 98, 10728)) lr_1336 rfl ?_
  refine j_Lst (c' := (1338, [(3, .int i), (2, .ref 75), (1, .ref 0), (0, .ref x_scr)], [.ref x_scr, .ref 0], h, 98, 10728)) lr_1337 rfl ?_
  refine j_Lst (c' := (1339, [(3, .int i), (2, .ref 75), (1, .ref 0), (0, .ref x_scr)], [.int i, .ref x_scr, .ref 0], h, 98, 10728)) lr_1338 rfl ?_
  refine j_Lst (c' := (1340, [(3, .int i), (2, .ref 75), (1, .ref 0), (0, .ref x_scr)], [.int 1, .int i, .ref x_scr, .ref 0], h, 98, 10728)) lr_1339 rfl ?_
  refine j_Lst (c' := (1341, [(3, .int i), (2, .ref 75), (1, .ref 0), (0, .ref x_scr)], [.int (i + 1), .ref x_scr, .ref 0], h, 98, 10728)) lr_1340 rfl ?_
  refine j_Lsl (c' := (1342, [(3, .int i), (2, .ref 75), (1, .ref 0), (0, .ref x_scr)], [.int (xs ((i + 1)).toNatClampNeg), .ref 0], h, 98, 10728)) lr_1341 rfl h1 ?_
  exact kk

set_option maxRecDepth 100000 in
theorem x_c36b (h : xH) (L : Nat) (xs : Nat → Int32) (i : Int32) (h0 : ¬ (i < 0 ∨ L ≤ (i).toNatClampNeg)) (h1 : ¬ (i + 1 < 0 ∨ L ≤ (i + 1).toNatClampNeg)) (h2 : ¬ (i + 2 < 0 ∨ L ≤ (i + 2).toNatClampNeg)) (h3 : ¬ (i + 3 < 0 ∨ L ≤ (i + 3).toNatClampNeg)) (h4 : ¬ (i + 4 < 0 ∨ L ≤ (i + 4).toNatClampNeg)) (h5 : ¬ (i + 5 < 0 ∨ L ≤ (i + 5).toNatClampNeg)) (v : Int32) {P : Option Value × xH × Nat × Nat → Prop} (kk : x_R x_mt (some (L, xs)) 10 M_law (1352, [(3, .int i), (2, .ref 75), (1, .ref 0), (0, .ref x_scr)], [.int (xs ((i + 1)).toNatClampNeg), .ref 75], h, 98, 10728) P) : x_R x_mt (some (L, xs)) 10 M_law (1345, [(3, .int i), (2, .ref 75), (1, .ref 0), (0, .ref x_scr)], [.int v], h, 98, 10728) P := by
  refine j_Lst (c' := (1346, [(3, .int i), (2, .ref 75), (1, .ref 0), (0, .ref x_scr)], [], h, 98, 10728)) lr_1345 rfl ?_
  refine j_Lst (c' := (1347, [(3, .int i), (2, .ref 75), (1, .ref 0), (0, .ref x_scr)], [.ref 75], h, 98, 10728)) lr_1346 rfl ?_
  refine j_Lst (c' := (1348, [(3, .int i), (2, .ref 75), (1, .ref 0), (0, .ref x_scr)], [.ref x_scr, .ref 75], h, 98, 10728)) lr_1347 rfl ?_
  refine j_Lst (c' := (1349, [(3, .int i), (2, .ref 75), (1, .ref 0), (0, .ref x_scr)], [.int i, .ref x_scr, .ref 75], h, 98, 10728)) lr_1348 rfl ?_
  refine j_Lst (c' := (1350, [(3, .int i), (2, .ref 75), (1, .ref 0), (0, .ref x_scr)], [.int 1, .int i, .ref x_scr, .ref 75], h, 98, 10728)) lr_1349 rfl ?_
  refine j_Lst (c' := (1351, [(3, .int i), (2, .ref 75), (1, .ref 0), (0, .ref x_scr)], [.int (i + 1), .ref x_scr, .ref 75], h, 98, 10728)) lr_1350 rfl ?_
  refine j_Lsl (c' := (1352, [(3, .int i), (2, .ref 75), (1, .ref 0), (0, .ref x_scr)], [.int (xs ((i + 1)).toNatClampNeg), .ref 75], h, 98, 10728)) lr_1351 rfl h1 ?_
  exact kk

set_option maxRecDepth 100000 in
theorem x_c36d (h : xH) (L : Nat) (xs : Nat → Int32) (i : Int32) (h0 : ¬ (i < 0 ∨ L ≤ (i).toNatClampNeg)) (h1 : ¬ (i + 1 < 0 ∨ L ≤ (i + 1).toNatClampNeg)) (h2 : ¬ (i + 2 < 0 ∨ L ≤ (i + 2).toNatClampNeg)) (h3 : ¬ (i + 3 < 0 ∨ L ≤ (i + 3).toNatClampNeg)) (h4 : ¬ (i + 4 < 0 ∨ L ≤ (i + 4).toNatClampNeg)) (h5 : ¬ (i + 5 < 0 ∨ L ≤ (i + 5).toNatClampNeg)) (w : Int32) {P : Option Value × xH × Nat × Nat → Prop} (kk : x_R x_mt (some (L, xs)) 10 M_law (18, [(3, .int (i + Int32.ofInt (6))), (2, .ref 75), (1, .ref 0), (0, .ref x_scr)], [], h, 98, 10728) P) : x_R x_mt (some (L, xs)) 10 M_law (1355, [(3, .int i), (2, .ref 75), (1, .ref 0), (0, .ref x_scr)], [.int w], h, 98, 10728) P := by
  refine j_Lst (c' := (1356, [(3, .int i), (2, .ref 75), (1, .ref 0), (0, .ref x_scr)], [], h, 98, 10728)) lr_1355 rfl ?_
  refine j_Lst (c' := (2368, [(3, .int i), (2, .ref 75), (1, .ref 0), (0, .ref x_scr)], [], h, 98, 10728)) lr_1356 rfl ?_
  refine j_Lst (c' := (2371, [(3, .int (i + Int32.ofInt (6))), (2, .ref 75), (1, .ref 0), (0, .ref x_scr)], [], h, 98, 10728)) lr_2368 rfl ?_
  refine j_Lst (c' := (18, [(3, .int (i + Int32.ofInt (6))), (2, .ref 75), (1, .ref 0), (0, .ref x_scr)], [], h, 98, 10728)) lr_2371 rfl ?_
  exact kk

set_option maxRecDepth 100000 in
theorem x_c37a (h : xH) (L : Nat) (xs : Nat → Int32) (i : Int32) (h0 : ¬ (i < 0 ∨ L ≤ (i).toNatClampNeg)) (h1 : ¬ (i + 1 < 0 ∨ L ≤ (i + 1).toNatClampNeg)) (h2 : ¬ (i + 2 < 0 ∨ L ≤ (i + 2).toNatClampNeg)) (h3 : ¬ (i + 3 < 0 ∨ L ≤ (i + 3).toNatClampNeg)) (h4 : ¬ (i + 4 < 0 ∨ L ≤ (i + 4).toNatClampNeg)) (h5 : ¬ (i + 5 < 0 ∨ L ≤ (i + 5).toNatClampNeg)) {P : Option Value × xH × Nat × Nat → Prop} (kk : x_R x_mt (some (L, xs)) 10 M_law (1365, [(3, .int i), (2, .ref 75), (1, .ref 0), (0, .ref x_scr)], [.int (xs ((i + 1)).toNatClampNeg), .ref 0], h, 98, 10728) P) : x_R x_mt (some (L, xs)) 10 M_law (1359, [(3, .int i), (2, .ref 75), (1, .ref 0), (0, .ref x_scr)], [], h, 98, 10728) P := by
  refine j_Lst (c' := (1360, [(3, .int i), (2, .ref 75), (1, .ref 0), (0, .ref x_scr)], [.ref 0], h, 98, 10728)) lr_1359 rfl ?_
  refine j_Lst (c' := (1361, [(3, .int i), (2, .ref 75), (1, .ref 0), (0, .ref x_scr)], [.ref x_scr, .ref 0], h, 98, 10728)) lr_1360 rfl ?_
  refine j_Lst (c' := (1362, [(3, .int i), (2, .ref 75), (1, .ref 0), (0, .ref x_scr)], [.int i, .ref x_scr, .ref 0], h, 98, 10728)) lr_1361 rfl ?_
  refine j_Lst (c' := (1363, [(3, .int i), (2, .ref 75), (1, .ref 0), (0, .ref x_scr)], [.int 1, .int i, .ref x_scr, .ref 0], h, 98, 10728)) lr_1362 rfl ?_
  refine j_Lst (c' := (1364, [(3, .int i), (2, .ref 75), (1, .ref 0), (0, .ref x_scr)], [.int (i + 1), .ref x_scr, .ref 0], h, 98, 10728)) lr_1363 rfl ?_
  refine j_Lsl (c' := (1365, [(3, .int i), (2, .ref 75), (1, .ref 0), (0, .ref x_scr)], [.int (xs ((i + 1)).toNatClampNeg), .ref 0], h, 98, 10728)) lr_1364 rfl h1 ?_
  exact kk

set_option maxRecDepth 100000 in
theorem x_c37b (h : xH) (L : Nat) (xs : Nat → Int32) (i : Int32) (h0 : ¬ (i < 0 ∨ L ≤ (i).toNatClampNeg)) (h1 : ¬ (i + 1 < 0 ∨ L ≤ (i + 1).toNatClampNeg)) (h2 : ¬ (i + 2 < 0 ∨ L ≤ (i + 2).toNatClampNeg)) (h3 : ¬ (i + 3 < 0 ∨ L ≤ (i + 3).toNatClampNeg)) (h4 : ¬ (i + 4 < 0 ∨ L ≤ (i + 4).toNatClampNeg)) (h5 : ¬ (i + 5 < 0 ∨ L ≤ (i + 5).toNatClampNeg)) (v : Int32) {P : Option Value × xH × Nat × Nat → Prop} (kk : x_R x_mt (some (L, xs)) 10 M_law (1375, [(3, .int i), (2, .ref 75), (1, .ref 0), (0, .ref x_scr)], [.int (xs ((i + 1)).toNatClampNeg), .ref 75], h, 98, 10728) P) : x_R x_mt (some (L, xs)) 10 M_law (1368, [(3, .int i), (2, .ref 75), (1, .ref 0), (0, .ref x_scr)], [.int v], h, 98, 10728) P := by
  refine j_Lst (c' := (1369, [(3, .int i), (2, .ref 75), (1, .ref 0), (0, .ref x_scr)], [], h, 98, 10728)) lr_1368 rfl ?_
  refine j_Lst (c' := (1370, [(3, .int i), (2, .ref 75), (1, .ref 0), (0, .ref x_scr)], [.ref 75], h, 98, 10728)) lr_1369 rfl ?_
  refine j_Lst (c' := (1371, [(3, .int i), (2, .ref 75), (1, .ref 0), (0, .ref x_scr)], [.ref x_scr, .ref 75], h, 98, 10728)) lr_1370 rfl ?_
  refine j_Lst (c' := (1372, [(3, .int i), (2, .ref 75), (1, .ref 0), (0, .ref x_scr)], [.int i, .ref x_scr, .ref 75], h, 98, 10728)) lr_1371 rfl ?_
  refine j_Lst (c' := (1373, [(3, .int i), (2, .ref 75), (1, .ref 0), (0, .ref x_scr)], [.int 1, .int i, .ref x_scr, .ref 75], h, 98, 10728)) lr_1372 rfl ?_
  refine j_Lst (c' := (1374, [(3, .int i), (2, .ref 75), (1, .ref 0), (0, .ref x_scr)], [.int (i + 1), .ref x_scr, .ref 75], h, 98, 10728)) lr_1373 rfl ?_
  refine j_Lsl (c' := (1375, [(3, .int i), (2, .ref 75), (1, .ref 0), (0, .ref x_scr)], [.int (xs ((i + 1)).toNatClampNeg), .ref 75], h, 98, 10728)) lr_1374 rfl h1 ?_
  exact kk

set_option maxRecDepth 100000 in
theorem x_c37d (h : xH) (L : Nat) (xs : Nat → Int32) (i : Int32) (h0 : ¬ (i < 0 ∨ L ≤ (i).toNatClampNeg)) (h1 : ¬ (i + 1 < 0 ∨ L ≤ (i + 1).toNatClampNeg)) (h2 : ¬ (i + 2 < 0 ∨ L ≤ (i + 2).toNatClampNeg)) (h3 : ¬ (i + 3 < 0 ∨ L ≤ (i + 3).toNatClampNeg)) (h4 : ¬ (i + 4 < 0 ∨ L ≤ (i + 4).toNatClampNeg)) (h5 : ¬ (i + 5 < 0 ∨ L ≤ (i + 5).toNatClampNeg)) (w : Int32) {P : Option Value × xH × Nat × Nat → Prop} (kk : x_R x_mt (some (L, xs)) 10 M_law (18, [(3, .int (i + Int32.ofInt (6))), (2, .ref 75), (1, .ref 0), (0, .ref x_scr)], [], h, 98, 10728) P) : x_R x_mt (some (L, xs)) 10 M_law (1378, [(3, .int i), (2, .ref 75), (1, .ref 0), (0, .ref x_scr)], [.int w], h, 98, 10728) P := by
  refine j_Lst (c' := (1379, [(3, .int i), (2, .ref 75), (1, .ref 0), (0, .ref x_scr)], [], h, 98, 10728)) lr_1378 rfl ?_
  refine j_Lst (c' := (2368, [(3, .int i), (2, .ref 75), (1, .ref 0), (0, .ref x_scr)], [], h, 98, 10728)) lr_1379 rfl ?_
  refine j_Lst (c' := (2371, [(3, .int (i + Int32.ofInt (6))), (2, .ref 75), (1, .ref 0), (0, .ref x_scr)], [], h, 98, 10728)) lr_2368 rfl ?_
  refine j_Lst (c' := (18, [(3, .int (i + Int32.ofInt (6))), (2, .ref 75), (1, .ref 0), (0, .ref x_scr)], [], h, 98, 10728)) lr_2371 rfl ?_
  exact kk

set_option maxRecDepth 100000 in
theorem x_c38a (h : xH) (L : Nat) (xs : Nat → Int32) (i : Int32) (h0 : ¬ (i < 0 ∨ L ≤ (i).toNatClampNeg)) (h1 : ¬ (i + 1 < 0 ∨ L ≤ (i + 1).toNatClampNeg)) (h2 : ¬ (i + 2 < 0 ∨ L ≤ (i + 2).toNatClampNeg)) (h3 : ¬ (i + 3 < 0 ∨ L ≤ (i + 3).toNatClampNeg)) (h4 : ¬ (i + 4 < 0 ∨ L ≤ (i + 4).toNatClampNeg)) (h5 : ¬ (i + 5 < 0 ∨ L ≤ (i + 5).toNatClampNeg)) {P : Option Value × xH × Nat × Nat → Prop} (kk : x_R x_mt (some (L, xs)) 10 M_law (1393, [(3, .int i), (2, .ref 75), (1, .ref 0), (0, .ref x_scr)], [.int (xs ((i + 2)).toNatClampNeg), .int (xs ((i + 1)).toNatClampNeg), .ref 0], h, 98, 10728) P) : x_R x_mt (some (L, xs)) 10 M_law (1382, [(3, .int i), (2, .ref 75), (1, .ref 0), (0, .ref x_scr)], [], h, 98, 10728) P := by
  refine j_Lst (c' := (1383, [(3, .int i), (2, .ref 75), (1, .ref 0), (0, .ref x_scr)], [.ref 0], h, 98, 10728)) lr_1382 rfl ?_
  refine j_Lst (c' := (1384, [(3, .int i), (2, .ref 75), (1, .ref 0), (0, .ref x_scr)], [.ref x_scr, .ref 0], h, 98, 10728)) lr_1383 rfl ?_
  refine j_Lst (c' := (1385, [(3, .int i), (2, .ref 75), (1, .ref 0), (0, .ref x_scr)], [.int i, .ref x_scr, .ref 0], h, 98, 10728)) lr_1384 rfl ?_
  refine j_Lst (c' := (1386, [(3, .int i), (2, .ref 75), (1, .ref 0), (0, .ref x_scr)], [.int 1, .int i, .ref x_scr, .ref 0], h, 98, 10728)) lr_1385 rfl ?_
  refine j_Lst (c' := (1387, [(3, .int i), (2, .ref 75), (1, .ref 0), (0, .ref x_scr)], [.int (i + 1), .ref x_scr, .ref 0], h, 98, 10728)) lr_1386 rfl ?_
  refine j_Lsl (c' := (1388, [(3, .int i), (2, .ref 75), (1, .ref 0), (0, .ref x_scr)], [.int (xs ((i + 1)).toNatClampNeg), .ref 0], h, 98, 10728)) lr_1387 rfl h1 ?_
  refine j_Lst (c' := (1389, [(3, .int i), (2, .ref 75), (1, .ref 0), (0, .ref x_scr)], [.ref x_scr, .int (xs ((i + 1)).toNatClampNeg), .ref 0], h, 98, 10728)) lr_1388 rfl ?_
  refine j_Lst (c' := (1390, [(3, .int i), (2, .ref 75), (1, .ref 0), (0, .ref x_scr)], [.int i, .ref x_scr, .int (xs ((i + 1)).toNatClampNeg), .ref 0], h, 98, 10728)) lr_1389 rfl ?_
  refine j_Lst (c' := (1391, [(3, .int i), (2, .ref 75), (1, .ref 0), (0, .ref x_scr)], [.int 2, .int i, .ref x_scr, .int (xs ((i + 1)).toNatClampNeg), .ref 0], h, 98, 10728)) lr_1390 rfl ?_
  refine j_Lst (c' := (1392, [(3, .int i), (2, .ref 75), (1, .ref 0), (0, .ref x_scr)], [.int (i + 2), .ref x_scr, .int (xs ((i + 1)).toNatClampNeg), .ref 0], h, 98, 10728)) lr_1391 rfl ?_
  refine j_Lsl (c' := (1393, [(3, .int i), (2, .ref 75), (1, .ref 0), (0, .ref x_scr)], [.int (xs ((i + 2)).toNatClampNeg), .int (xs ((i + 1)).toNatClampNeg), .ref 0], h, 98, 10728)) lr_1392 rfl h2 ?_
  exact kk

set_option maxRecDepth 100000 in
theorem x_c38b (h : xH) (L : Nat) (xs : Nat → Int32) (i : Int32) (h0 : ¬ (i < 0 ∨ L ≤ (i).toNatClampNeg)) (h1 : ¬ (i + 1 < 0 ∨ L ≤ (i + 1).toNatClampNeg)) (h2 : ¬ (i + 2 < 0 ∨ L ≤ (i + 2).toNatClampNeg)) (h3 : ¬ (i + 3 < 0 ∨ L ≤ (i + 3).toNatClampNeg)) (h4 : ¬ (i + 4 < 0 ∨ L ≤ (i + 4).toNatClampNeg)) (h5 : ¬ (i + 5 < 0 ∨ L ≤ (i + 5).toNatClampNeg)) (v : Int32) {P : Option Value × xH × Nat × Nat → Prop} (kk : x_R x_mt (some (L, xs)) 10 M_law (1408, [(3, .int i), (2, .ref 75), (1, .ref 0), (0, .ref x_scr)], [.int (xs ((i + 2)).toNatClampNeg), .int (xs ((i + 1)).toNatClampNeg), .ref 75], h, 98, 10728) P) : x_R x_mt (some (L, xs)) 10 M_law (1396, [(3, .int i), (2, .ref 75), (1, .ref 0), (0, .ref x_scr)], [.int v], h, 98, 10728) P := by
  refine j_Lst (c' := (1397, [(3, .int i), (2, .ref 75), (1, .ref 0), (0, .ref x_scr)], [], h, 98, 10728)) lr_1396 rfl ?_
  refine j_Lst (c' := (1398, [(3, .int i), (2, .ref 75), (1, .ref 0), (0, .ref x_scr)], [.ref 75], h, 98, 10728)) lr_1397 rfl ?_
  refine j_Lst (c' := (1399, [(3, .int i), (2, .ref 75), (1, .ref 0), (0, .ref x_scr)], [.ref x_scr, .ref 75], h, 98, 10728)) lr_1398 rfl ?_
  refine j_Lst (c' := (1400, [(3, .int i), (2, .ref 75), (1, .ref 0), (0, .ref x_scr)], [.int i, .ref x_scr, .ref 75], h, 98, 10728)) lr_1399 rfl ?_
  refine j_Lst (c' := (1401, [(3, .int i), (2, .ref 75), (1, .ref 0), (0, .ref x_scr)], [.int 1, .int i, .ref x_scr, .ref 75], h, 98, 10728)) lr_1400 rfl ?_
  refine j_Lst (c' := (1402, [(3, .int i), (2, .ref 75), (1, .ref 0), (0, .ref x_scr)], [.int (i + 1), .ref x_scr, .ref 75], h, 98, 10728)) lr_1401 rfl ?_
  refine j_Lsl (c' := (1403, [(3, .int i), (2, .ref 75), (1, .ref 0), (0, .ref x_scr)], [.int (xs ((i + 1)).toNatClampNeg), .ref 75], h, 98, 10728)) lr_1402 rfl h1 ?_
  refine j_Lst (c' := (1404, [(3, .int i), (2, .ref 75), (1, .ref 0), (0, .ref x_scr)], [.ref x_scr, .int (xs ((i + 1)).toNatClampNeg), .ref 75], h, 98, 10728)) lr_1403 rfl ?_
  refine j_Lst (c' := (1405, [(3, .int i), (2, .ref 75), (1, .ref 0), (0, .ref x_scr)], [.int i, .ref x_scr, .int (xs ((i + 1)).toNatClampNeg), .ref 75], h, 98, 10728)) lr_1404 rfl ?_
  refine j_Lst (c' := (1406, [(3, .int i), (2, .ref 75), (1, .ref 0), (0, .ref x_scr)], [.int 2, .int i, .ref x_scr, .int (xs ((i + 1)).toNatClampNeg), .ref 75], h, 98, 10728)) lr_1405 rfl ?_
  refine j_Lst (c' := (1407, [(3, .int i), (2, .ref 75), (1, .ref 0), (0, .ref x_scr)], [.int (i + 2), .ref x_scr, .int (xs ((i + 1)).toNatClampNeg), .ref 75], h, 98, 10728)) lr_1406 rfl ?_
  refine j_Lsl (c' := (1408, [(3, .int i), (2, .ref 75), (1, .ref 0), (0, .ref x_scr)], [.int (xs ((i + 2)).toNatClampNeg), .int (xs ((i + 1)).toNatClampNeg), .ref 75], h, 98, 10728)) lr_1407 rfl h2 ?_
  exact kk

set_option maxRecDepth 100000 in
theorem x_c38d (h : xH) (L : Nat) (xs : Nat → Int32) (i : Int32) (h0 : ¬ (i < 0 ∨ L ≤ (i).toNatClampNeg)) (h1 : ¬ (i + 1 < 0 ∨ L ≤ (i + 1).toNatClampNeg)) (h2 : ¬ (i + 2 < 0 ∨ L ≤ (i + 2).toNatClampNeg)) (h3 : ¬ (i + 3 < 0 ∨ L ≤ (i + 3).toNatClampNeg)) (h4 : ¬ (i + 4 < 0 ∨ L ≤ (i + 4).toNatClampNeg)) (h5 : ¬ (i + 5 < 0 ∨ L ≤ (i + 5).toNatClampNeg)) (w : Int32) {P : Option Value × xH × Nat × Nat → Prop} (kk : x_R x_mt (some (L, xs)) 10 M_law (18, [(3, .int (i + Int32.ofInt (6))), (2, .ref 75), (1, .ref 0), (0, .ref x_scr)], [], h, 98, 10728) P) : x_R x_mt (some (L, xs)) 10 M_law (1411, [(3, .int i), (2, .ref 75), (1, .ref 0), (0, .ref x_scr)], [.int w], h, 98, 10728) P := by
  refine j_Lst (c' := (1412, [(3, .int i), (2, .ref 75), (1, .ref 0), (0, .ref x_scr)], [], h, 98, 10728)) lr_1411 rfl ?_
  refine j_Lst (c' := (2368, [(3, .int i), (2, .ref 75), (1, .ref 0), (0, .ref x_scr)], [], h, 98, 10728)) lr_1412 rfl ?_
  refine j_Lst (c' := (2371, [(3, .int (i + Int32.ofInt (6))), (2, .ref 75), (1, .ref 0), (0, .ref x_scr)], [], h, 98, 10728)) lr_2368 rfl ?_
  refine j_Lst (c' := (18, [(3, .int (i + Int32.ofInt (6))), (2, .ref 75), (1, .ref 0), (0, .ref x_scr)], [], h, 98, 10728)) lr_2371 rfl ?_
  exact kk

set_option maxRecDepth 100000 in
theorem x_c39a (h : xH) (L : Nat) (xs : Nat → Int32) (i : Int32) (h0 : ¬ (i < 0 ∨ L ≤ (i).toNatClampNeg)) (h1 : ¬ (i + 1 < 0 ∨ L ≤ (i + 1).toNatClampNeg)) (h2 : ¬ (i + 2 < 0 ∨ L ≤ (i + 2).toNatClampNeg)) (h3 : ¬ (i + 3 < 0 ∨ L ≤ (i + 3).toNatClampNeg)) (h4 : ¬ (i + 4 < 0 ∨ L ≤ (i + 4).toNatClampNeg)) (h5 : ¬ (i + 5 < 0 ∨ L ≤ (i + 5).toNatClampNeg)) {P : Option Value × xH × Nat × Nat → Prop} (kk : x_R x_mt (some (L, xs)) 10 M_law (1421, [(3, .int i), (2, .ref 75), (1, .ref 0), (0, .ref x_scr)], [.int (xs ((i + 1)).toNatClampNeg), .ref 0], h, 98, 10728) P) : x_R x_mt (some (L, xs)) 10 M_law (1415, [(3, .int i), (2, .ref 75), (1, .ref 0), (0, .ref x_scr)], [], h, 98, 10728) P := by
  refine j_Lst (c' := (1416, [(3, .int i), (2, .ref 75), (1, .ref 0), (0, .ref x_scr)], [.ref 0], h, 98, 10728)) lr_1415 rfl ?_
  refine j_Lst (c' := (1417, [(3, .int i), (2, .ref 75), (1, .ref 0), (0, .ref x_scr)], [.ref x_scr, .ref 0], h, 98, 10728)) lr_1416 rfl ?_
  refine j_Lst (c' := (1418, [(3, .int i), (2, .ref 75), (1, .ref 0), (0, .ref x_scr)], [.int i, .ref x_scr, .ref 0], h, 98, 10728)) lr_1417 rfl ?_
  refine j_Lst (c' := (1419, [(3, .int i), (2, .ref 75), (1, .ref 0), (0, .ref x_scr)], [.int 1, .int i, .ref x_scr, .ref 0], h, 98, 10728)) lr_1418 rfl ?_
  refine j_Lst (c' := (1420, [(3, .int i), (2, .ref 75), (1, .ref 0), (0, .ref x_scr)], [.int (i + 1), .ref x_scr, .ref 0], h, 98, 10728)) lr_1419 rfl ?_
  refine j_Lsl (c' := (1421, [(3, .int i), (2, .ref 75), (1, .ref 0), (0, .ref x_scr)], [.int (xs ((i + 1)).toNatClampNeg), .ref 0], h, 98, 10728)) lr_1420 rfl h1 ?_
  exact kk

set_option maxRecDepth 100000 in
theorem x_c39b (h : xH) (L : Nat) (xs : Nat → Int32) (i : Int32) (h0 : ¬ (i < 0 ∨ L ≤ (i).toNatClampNeg)) (h1 : ¬ (i + 1 < 0 ∨ L ≤ (i + 1).toNatClampNeg)) (h2 : ¬ (i + 2 < 0 ∨ L ≤ (i + 2).toNatClampNeg)) (h3 : ¬ (i + 3 < 0 ∨ L ≤ (i + 3).toNatClampNeg)) (h4 : ¬ (i + 4 < 0 ∨ L ≤ (i + 4).toNatClampNeg)) (h5 : ¬ (i + 5 < 0 ∨ L ≤ (i + 5).toNatClampNeg)) (v : Int32) {P : Option Value × xH × Nat × Nat → Prop} (kk : x_R x_mt (some (L, xs)) 10 M_law (1431, [(3, .int i), (2, .ref 75), (1, .ref 0), (0, .ref x_scr)], [.int (xs ((i + 1)).toNatClampNeg), .ref 75], h, 98, 10728) P) : x_R x_mt (some (L, xs)) 10 M_law (1424, [(3, .int i), (2, .ref 75), (1, .ref 0), (0, .ref x_scr)], [.int v], h, 98, 10728) P := by
  refine j_Lst (c' := (1425, [(3, .int i), (2, .ref 75), (1, .ref 0), (0, .ref x_scr)], [], h, 98, 10728)) lr_1424 rfl ?_
  refine j_Lst (c' := (1426, [(3, .int i), (2, .ref 75), (1, .ref 0), (0, .ref x_scr)], [.ref 75], h, 98, 10728)) lr_1425 rfl ?_
  refine j_Lst (c' := (1427, [(3, .int i), (2, .ref 75), (1, .ref 0), (0, .ref x_scr)], [.ref x_scr, .ref 75], h, 98, 10728)) lr_1426 rfl ?_
  refine j_Lst (c' := (1428, [(3, .int i), (2, .ref 75), (1, .ref 0), (0, .ref x_scr)], [.int i, .ref x_scr, .ref 75], h, 98, 10728)) lr_1427 rfl ?_
  refine j_Lst (c' := (1429, [(3, .int i), (2, .ref 75), (1, .ref 0), (0, .ref x_scr)], [.int 1, .int i, .ref x_scr, .ref 75], h, 98, 10728)) lr_1428 rfl ?_
  refine j_Lst (c' := (1430, [(3, .int i), (2, .ref 75), (1, .ref 0), (0, .ref x_scr)], [.int (i + 1), .ref x_scr, .ref 75], h, 98, 10728)) lr_1429 rfl ?_
  refine j_Lsl (c' := (1431, [(3, .int i), (2, .ref 75), (1, .ref 0), (0, .ref x_scr)], [.int (xs ((i + 1)).toNatClampNeg), .ref 75], h, 98, 10728)) lr_1430 rfl h1 ?_
  exact kk

set_option maxRecDepth 100000 in
theorem x_c39d (h : xH) (L : Nat) (xs : Nat → Int32) (i : Int32) (h0 : ¬ (i < 0 ∨ L ≤ (i).toNatClampNeg)) (h1 : ¬ (i + 1 < 0 ∨ L ≤ (i + 1).toNatClampNeg)) (h2 : ¬ (i + 2 < 0 ∨ L ≤ (i + 2).toNatClampNeg)) (h3 : ¬ (i + 3 < 0 ∨ L ≤ (i + 3).toNatClampNeg)) (h4 : ¬ (i + 4 < 0 ∨ L ≤ (i + 4).toNatClampNeg)) (h5 : ¬ (i + 5 < 0 ∨ L ≤ (i + 5).toNatClampNeg)) (w : Int32) {P : Option Value × xH × Nat × Nat → Prop} (kk : x_R x_mt (some (L, xs)) 10 M_law (18, [(3, .int (i + Int32.ofInt (6))), (2, .ref 75), (1, .ref 0), (0, .ref x_scr)], [], h, 98, 10728) P) : x_R x_mt (some (L, xs)) 10 M_law (1434, [(3, .int i), (2, .ref 75), (1, .ref 0), (0, .ref x_scr)], [.int w], h, 98, 10728) P := by
  refine j_Lst (c' := (1435, [(3, .int i), (2, .ref 75), (1, .ref 0), (0, .ref x_scr)], [], h, 98, 10728)) lr_1434 rfl ?_
  refine j_Lst (c' := (2368, [(3, .int i), (2, .ref 75), (1, .ref 0), (0, .ref x_scr)], [], h, 98, 10728)) lr_1435 rfl ?_
  refine j_Lst (c' := (2371, [(3, .int (i + Int32.ofInt (6))), (2, .ref 75), (1, .ref 0), (0, .ref x_scr)], [], h, 98, 10728)) lr_2368 rfl ?_
  refine j_Lst (c' := (18, [(3, .int (i + Int32.ofInt (6))), (2, .ref 75), (1, .ref 0), (0, .ref x_scr)], [], h, 98, 10728)) lr_2371 rfl ?_
  exact kk

set_option maxRecDepth 100000 in
theorem x_c40a (h : xH) (L : Nat) (xs : Nat → Int32) (i : Int32) (h0 : ¬ (i < 0 ∨ L ≤ (i).toNatClampNeg)) (h1 : ¬ (i + 1 < 0 ∨ L ≤ (i + 1).toNatClampNeg)) (h2 : ¬ (i + 2 < 0 ∨ L ≤ (i + 2).toNatClampNeg)) (h3 : ¬ (i + 3 < 0 ∨ L ≤ (i + 3).toNatClampNeg)) (h4 : ¬ (i + 4 < 0 ∨ L ≤ (i + 4).toNatClampNeg)) (h5 : ¬ (i + 5 < 0 ∨ L ≤ (i + 5).toNatClampNeg)) {P : Option Value × xH × Nat × Nat → Prop} (kk : x_R x_mt (some (L, xs)) 10 M_law (1444, [(3, .int i), (2, .ref 75), (1, .ref 0), (0, .ref x_scr)], [.int (xs ((i + 1)).toNatClampNeg), .ref 0], h, 98, 10728) P) : x_R x_mt (some (L, xs)) 10 M_law (1438, [(3, .int i), (2, .ref 75), (1, .ref 0), (0, .ref x_scr)], [], h, 98, 10728) P := by
  refine j_Lst (c' := (1439, [(3, .int i), (2, .ref 75), (1, .ref 0), (0, .ref x_scr)], [.ref 0], h, 98, 10728)) lr_1438 rfl ?_
  refine j_Lst (c' := (1440, [(3, .int i), (2, .ref 75), (1, .ref 0), (0, .ref x_scr)], [.ref x_scr, .ref 0], h, 98, 10728)) lr_1439 rfl ?_
  refine j_Lst (c' := (1441, [(3, .int i), (2, .ref 75), (1, .ref 0), (0, .ref x_scr)], [.int i, .ref x_scr, .ref 0], h, 98, 10728)) lr_1440 rfl ?_
  refine j_Lst (c' := (1442, [(3, .int i), (2, .ref 75), (1, .ref 0), (0, .ref x_scr)], [.int 1, .int i, .ref x_scr, .ref 0], h, 98, 10728)) lr_1441 rfl ?_
  refine j_Lst (c' := (1443, [(3, .int i), (2, .ref 75), (1, .ref 0), (0, .ref x_scr)], [.int (i + 1), .ref x_scr, .ref 0], h, 98, 10728)) lr_1442 rfl ?_
  refine j_Lsl (c' := (1444, [(3, .int i), (2, .ref 75), (1, .ref 0), (0, .ref x_scr)], [.int (xs ((i + 1)).toNatClampNeg), .ref 0], h, 98, 10728)) lr_1443 rfl h1 ?_
  exact kk

set_option maxRecDepth 100000 in
theorem x_c40b (h : xH) (L : Nat) (xs : Nat → Int32) (i : Int32) (h0 : ¬ (i < 0 ∨ L ≤ (i).toNatClampNeg)) (h1 : ¬ (i + 1 < 0 ∨ L ≤ (i + 1).toNatClampNeg)) (h2 : ¬ (i + 2 < 0 ∨ L ≤ (i + 2).toNatClampNeg)) (h3 : ¬ (i + 3 < 0 ∨ L ≤ (i + 3).toNatClampNeg)) (h4 : ¬ (i + 4 < 0 ∨ L ≤ (i + 4).toNatClampNeg)) (h5 : ¬ (i + 5 < 0 ∨ L ≤ (i + 5).toNatClampNeg)) (v : Int32) {P : Option Value × xH × Nat × Nat → Prop} (kk : x_R x_mt (some (L, xs)) 10 M_law (1454, [(3, .int i), (2, .ref 75), (1, .ref 0), (0, .ref x_scr)], [.int (xs ((i + 1)).toNatClampNeg), .ref 75], h, 98, 10728) P) : x_R x_mt (some (L, xs)) 10 M_law (1447, [(3, .int i), (2, .ref 75), (1, .ref 0), (0, .ref x_scr)], [.int v], h, 98, 10728) P := by
  refine j_Lst (c' := (1448, [(3, .int i), (2, .ref 75), (1, .ref 0), (0, .ref x_scr)], [], h, 98, 10728)) lr_1447 rfl ?_
  refine j_Lst (c' := (1449, [(3, .int i), (2, .ref 75), (1, .ref 0), (0, .ref x_scr)], [.ref 75], h, 98, 10728)) lr_1448 rfl ?_
  refine j_Lst (c' := (1450, [(3, .int i), (2, .ref 75), (1, .ref 0), (0, .ref x_scr)], [.ref x_scr, .ref 75], h, 98, 10728)) lr_1449 rfl ?_
  refine j_Lst (c' := (1451, [(3, .int i), (2, .ref 75), (1, .ref 0), (0, .ref x_scr)], [.int i, .ref x_scr, .ref 75], h, 98, 10728)) lr_1450 rfl ?_
  refine j_Lst (c' := (1452, [(3, .int i), (2, .ref 75), (1, .ref 0), (0, .ref x_scr)], [.int 1, .int i, .ref x_scr, .ref 75], h, 98, 10728)) lr_1451 rfl ?_
  refine j_Lst (c' := (1453, [(3, .int i), (2, .ref 75), (1, .ref 0), (0, .ref x_scr)], [.int (i + 1), .ref x_scr, .ref 75], h, 98, 10728)) lr_1452 rfl ?_
  refine j_Lsl (c' := (1454, [(3, .int i), (2, .ref 75), (1, .ref 0), (0, .ref x_scr)], [.int (xs ((i + 1)).toNatClampNeg), .ref 75], h, 98, 10728)) lr_1453 rfl h1 ?_
  exact kk

set_option maxRecDepth 100000 in
theorem x_c40d (h : xH) (L : Nat) (xs : Nat → Int32) (i : Int32) (h0 : ¬ (i < 0 ∨ L ≤ (i).toNatClampNeg)) (h1 : ¬ (i + 1 < 0 ∨ L ≤ (i + 1).toNatClampNeg)) (h2 : ¬ (i + 2 < 0 ∨ L ≤ (i + 2).toNatClampNeg)) (h3 : ¬ (i + 3 < 0 ∨ L ≤ (i + 3).toNatClampNeg)) (h4 : ¬ (i + 4 < 0 ∨ L ≤ (i + 4).toNatClampNeg)) (h5 : ¬ (i + 5 < 0 ∨ L ≤ (i + 5).toNatClampNeg)) (w : Int32) {P : Option Value × xH × Nat × Nat → Prop} (kk : x_R x_mt (some (L, xs)) 10 M_law (18, [(3, .int (i + Int32.ofInt (6))), (2, .ref 75), (1, .ref 0), (0, .ref x_scr)], [], h, 98, 10728) P) : x_R x_mt (some (L, xs)) 10 M_law (1457, [(3, .int i), (2, .ref 75), (1, .ref 0), (0, .ref x_scr)], [.int w], h, 98, 10728) P := by
  refine j_Lst (c' := (1458, [(3, .int i), (2, .ref 75), (1, .ref 0), (0, .ref x_scr)], [], h, 98, 10728)) lr_1457 rfl ?_
  refine j_Lst (c' := (2368, [(3, .int i), (2, .ref 75), (1, .ref 0), (0, .ref x_scr)], [], h, 98, 10728)) lr_1458 rfl ?_
  refine j_Lst (c' := (2371, [(3, .int (i + Int32.ofInt (6))), (2, .ref 75), (1, .ref 0), (0, .ref x_scr)], [], h, 98, 10728)) lr_2368 rfl ?_
  refine j_Lst (c' := (18, [(3, .int (i + Int32.ofInt (6))), (2, .ref 75), (1, .ref 0), (0, .ref x_scr)], [], h, 98, 10728)) lr_2371 rfl ?_
  exact kk

set_option maxRecDepth 100000 in
theorem x_c41a (h : xH) (L : Nat) (xs : Nat → Int32) (i : Int32) (h0 : ¬ (i < 0 ∨ L ≤ (i).toNatClampNeg)) (h1 : ¬ (i + 1 < 0 ∨ L ≤ (i + 1).toNatClampNeg)) (h2 : ¬ (i + 2 < 0 ∨ L ≤ (i + 2).toNatClampNeg)) (h3 : ¬ (i + 3 < 0 ∨ L ≤ (i + 3).toNatClampNeg)) (h4 : ¬ (i + 4 < 0 ∨ L ≤ (i + 4).toNatClampNeg)) (h5 : ¬ (i + 5 < 0 ∨ L ≤ (i + 5).toNatClampNeg)) {P : Option Value × xH × Nat × Nat → Prop} (kk : x_R x_mt (some (L, xs)) 10 M_law (1462, [(3, .int i), (2, .ref 75), (1, .ref 0), (0, .ref x_scr)], [.ref 0], h, 98, 10728) P) : x_R x_mt (some (L, xs)) 10 M_law (1461, [(3, .int i), (2, .ref 75), (1, .ref 0), (0, .ref x_scr)], [], h, 98, 10728) P := by
  refine j_Lst (c' := (1462, [(3, .int i), (2, .ref 75), (1, .ref 0), (0, .ref x_scr)], [.ref 0], h, 98, 10728)) lr_1461 rfl ?_
  exact kk

set_option maxRecDepth 100000 in
theorem x_c41b (h : xH) (L : Nat) (xs : Nat → Int32) (i : Int32) (h0 : ¬ (i < 0 ∨ L ≤ (i).toNatClampNeg)) (h1 : ¬ (i + 1 < 0 ∨ L ≤ (i + 1).toNatClampNeg)) (h2 : ¬ (i + 2 < 0 ∨ L ≤ (i + 2).toNatClampNeg)) (h3 : ¬ (i + 3 < 0 ∨ L ≤ (i + 3).toNatClampNeg)) (h4 : ¬ (i + 4 < 0 ∨ L ≤ (i + 4).toNatClampNeg)) (h5 : ¬ (i + 5 < 0 ∨ L ≤ (i + 5).toNatClampNeg)) (v : Int32) {P : Option Value × xH × Nat × Nat → Prop} (kk : x_R x_mt (some (L, xs)) 10 M_law (1467, [(3, .int i), (2, .ref 75), (1, .ref 0), (0, .ref x_scr)], [.ref 75], h, 98, 10728) P) : x_R x_mt (some (L, xs)) 10 M_law (1465, [(3, .int i), (2, .ref 75), (1, .ref 0), (0, .ref x_scr)], [.int v], h, 98, 10728) P := by
  refine j_Lst (c' := (1466, [(3, .int i), (2, .ref 75), (1, .ref 0), (0, .ref x_scr)], [], h, 98, 10728)) lr_1465 rfl ?_
  refine j_Lst (c' := (1467, [(3, .int i), (2, .ref 75), (1, .ref 0), (0, .ref x_scr)], [.ref 75], h, 98, 10728)) lr_1466 rfl ?_
  exact kk

set_option maxRecDepth 100000 in
theorem x_c41d (h : xH) (L : Nat) (xs : Nat → Int32) (i : Int32) (h0 : ¬ (i < 0 ∨ L ≤ (i).toNatClampNeg)) (h1 : ¬ (i + 1 < 0 ∨ L ≤ (i + 1).toNatClampNeg)) (h2 : ¬ (i + 2 < 0 ∨ L ≤ (i + 2).toNatClampNeg)) (h3 : ¬ (i + 3 < 0 ∨ L ≤ (i + 3).toNatClampNeg)) (h4 : ¬ (i + 4 < 0 ∨ L ≤ (i + 4).toNatClampNeg)) (h5 : ¬ (i + 5 < 0 ∨ L ≤ (i + 5).toNatClampNeg)) (w : Int32) {P : Option Value × xH × Nat × Nat → Prop} (kk : x_R x_mt (some (L, xs)) 10 M_law (18, [(3, .int (i + Int32.ofInt (6))), (2, .ref 75), (1, .ref 0), (0, .ref x_scr)], [], h, 98, 10728) P) : x_R x_mt (some (L, xs)) 10 M_law (1470, [(3, .int i), (2, .ref 75), (1, .ref 0), (0, .ref x_scr)], [.int w], h, 98, 10728) P := by
  refine j_Lst (c' := (1471, [(3, .int i), (2, .ref 75), (1, .ref 0), (0, .ref x_scr)], [], h, 98, 10728)) lr_1470 rfl ?_
  refine j_Lst (c' := (2368, [(3, .int i), (2, .ref 75), (1, .ref 0), (0, .ref x_scr)], [], h, 98, 10728)) lr_1471 rfl ?_
  refine j_Lst (c' := (2371, [(3, .int (i + Int32.ofInt (6))), (2, .ref 75), (1, .ref 0), (0, .ref x_scr)], [], h, 98, 10728)) lr_2368 rfl ?_
  refine j_Lst (c' := (18, [(3, .int (i + Int32.ofInt (6))), (2, .ref 75), (1, .ref 0), (0, .ref x_scr)], [], h, 98, 10728)) lr_2371 rfl ?_
  exact kk

set_option maxRecDepth 100000 in
theorem x_c42a (h : xH) (L : Nat) (xs : Nat → Int32) (i : Int32) (h0 : ¬ (i < 0 ∨ L ≤ (i).toNatClampNeg)) (h1 : ¬ (i + 1 < 0 ∨ L ≤ (i + 1).toNatClampNeg)) (h2 : ¬ (i + 2 < 0 ∨ L ≤ (i + 2).toNatClampNeg)) (h3 : ¬ (i + 3 < 0 ∨ L ≤ (i + 3).toNatClampNeg)) (h4 : ¬ (i + 4 < 0 ∨ L ≤ (i + 4).toNatClampNeg)) (h5 : ¬ (i + 5 < 0 ∨ L ≤ (i + 5).toNatClampNeg)) {P : Option Value × xH × Nat × Nat → Prop} (kk : x_R x_mt (some (L, xs)) 10 M_law (1480, [(3, .int i), (2, .ref 75), (1, .ref 0), (0, .ref x_scr)], [.int (xs ((i + 1)).toNatClampNeg), .ref 0], h, 98, 10728) P) : x_R x_mt (some (L, xs)) 10 M_law (1474, [(3, .int i), (2, .ref 75), (1, .ref 0), (0, .ref x_scr)], [], h, 98, 10728) P := by
  refine j_Lst (c' := (1475, [(3, .int i), (2, .ref 75), (1, .ref 0), (0, .ref x_scr)], [.ref 0], h, 98, 10728)) lr_1474 rfl ?_
  refine j_Lst (c' := (1476, [(3, .int i), (2, .ref 75), (1, .ref 0), (0, .ref x_scr)], [.ref x_scr, .ref 0], h, 98, 10728)) lr_1475 rfl ?_
  refine j_Lst (c' := (1477, [(3, .int i), (2, .ref 75), (1, .ref 0), (0, .ref x_scr)], [.int i, .ref x_scr, .ref 0], h, 98, 10728)) lr_1476 rfl ?_
  refine j_Lst (c' := (1478, [(3, .int i), (2, .ref 75), (1, .ref 0), (0, .ref x_scr)], [.int 1, .int i, .ref x_scr, .ref 0], h, 98, 10728)) lr_1477 rfl ?_
  refine j_Lst (c' := (1479, [(3, .int i), (2, .ref 75), (1, .ref 0), (0, .ref x_scr)], [.int (i + 1), .ref x_scr, .ref 0], h, 98, 10728)) lr_1478 rfl ?_
  refine j_Lsl (c' := (1480, [(3, .int i), (2, .ref 75), (1, .ref 0), (0, .ref x_scr)], [.int (xs ((i + 1)).toNatClampNeg), .ref 0], h, 98, 10728)) lr_1479 rfl h1 ?_
  exact kk

set_option maxRecDepth 100000 in
theorem x_c42b (h : xH) (L : Nat) (xs : Nat → Int32) (i : Int32) (h0 : ¬ (i < 0 ∨ L ≤ (i).toNatClampNeg)) (h1 : ¬ (i + 1 < 0 ∨ L ≤ (i + 1).toNatClampNeg)) (h2 : ¬ (i + 2 < 0 ∨ L ≤ (i + 2).toNatClampNeg)) (h3 : ¬ (i + 3 < 0 ∨ L ≤ (i + 3).toNatClampNeg)) (h4 : ¬ (i + 4 < 0 ∨ L ≤ (i + 4).toNatClampNeg)) (h5 : ¬ (i + 5 < 0 ∨ L ≤ (i + 5).toNatClampNeg)) (v : Int32) {P : Option Value × xH × Nat × Nat → Prop} (kk : x_R x_mt (some (L, xs)) 10 M_law (1490, [(3, .int i), (2, .ref 75), (1, .ref 0), (0, .ref x_scr)], [.int (xs ((i + 1)).toNatClampNeg), .ref 75], h, 98, 10728) P) : x_R x_mt (some (L, xs)) 10 M_law (1483, [(3, .int i), (2, .ref 75), (1, .ref 0), (0, .ref x_scr)], [.int v], h, 98, 10728) P := by
  refine j_Lst (c' := (1484, [(3, .int i), (2, .ref 75), (1, .ref 0), (0, .ref x_scr)], [], h, 98, 10728)) lr_1483 rfl ?_
  refine j_Lst (c' := (1485, [(3, .int i), (2, .ref 75), (1, .ref 0), (0, .ref x_scr)], [.ref 75], h, 98, 10728)) lr_1484 rfl ?_
  refine j_Lst (c' := (1486, [(3, .int i), (2, .ref 75), (1, .ref 0), (0, .ref x_scr)], [.ref x_scr, .ref 75], h, 98, 10728)) lr_1485 rfl ?_
  refine j_Lst (c' := (1487, [(3, .int i), (2, .ref 75), (1, .ref 0), (0, .ref x_scr)], [.int i, .ref x_scr, .ref 75], h, 98, 10728)) lr_1486 rfl ?_
  refine j_Lst (c' := (1488, [(3, .int i), (2, .ref 75), (1, .ref 0), (0, .ref x_scr)], [.int 1, .int i, .ref x_scr, .ref 75], h, 98, 10728)) lr_1487 rfl ?_
  refine j_Lst (c' := (1489, [(3, .int i), (2, .ref 75), (1, .ref 0), (0, .ref x_scr)], [.int (i + 1), .ref x_scr, .ref 75], h, 98, 10728)) lr_1488 rfl ?_
  refine j_Lsl (c' := (1490, [(3, .int i), (2, .ref 75), (1, .ref 0), (0, .ref x_scr)], [.int (xs ((i + 1)).toNatClampNeg), .ref 75], h, 98, 10728)) lr_1489 rfl h1 ?_
  exact kk

set_option maxRecDepth 100000 in
theorem x_c42d (h : xH) (L : Nat) (xs : Nat → Int32) (i : Int32) (h0 : ¬ (i < 0 ∨ L ≤ (i).toNatClampNeg)) (h1 : ¬ (i + 1 < 0 ∨ L ≤ (i + 1).toNatClampNeg)) (h2 : ¬ (i + 2 < 0 ∨ L ≤ (i + 2).toNatClampNeg)) (h3 : ¬ (i + 3 < 0 ∨ L ≤ (i + 3).toNatClampNeg)) (h4 : ¬ (i + 4 < 0 ∨ L ≤ (i + 4).toNatClampNeg)) (h5 : ¬ (i + 5 < 0 ∨ L ≤ (i + 5).toNatClampNeg)) (w : Int32) {P : Option Value × xH × Nat × Nat → Prop} (kk : x_R x_mt (some (L, xs)) 10 M_law (18, [(3, .int (i + Int32.ofInt (6))), (2, .ref 75), (1, .ref 0), (0, .ref x_scr)], [], h, 98, 10728) P) : x_R x_mt (some (L, xs)) 10 M_law (1493, [(3, .int i), (2, .ref 75), (1, .ref 0), (0, .ref x_scr)], [.int w], h, 98, 10728) P := by
  refine j_Lst (c' := (1494, [(3, .int i), (2, .ref 75), (1, .ref 0), (0, .ref x_scr)], [], h, 98, 10728)) lr_1493 rfl ?_
  refine j_Lst (c' := (2368, [(3, .int i), (2, .ref 75), (1, .ref 0), (0, .ref x_scr)], [], h, 98, 10728)) lr_1494 rfl ?_
  refine j_Lst (c' := (2371, [(3, .int (i + Int32.ofInt (6))), (2, .ref 75), (1, .ref 0), (0, .ref x_scr)], [], h, 98, 10728)) lr_2368 rfl ?_
  refine j_Lst (c' := (18, [(3, .int (i + Int32.ofInt (6))), (2, .ref 75), (1, .ref 0), (0, .ref x_scr)], [], h, 98, 10728)) lr_2371 rfl ?_
  exact kk

set_option maxRecDepth 100000 in
theorem x_c43a (h : xH) (L : Nat) (xs : Nat → Int32) (i : Int32) (h0 : ¬ (i < 0 ∨ L ≤ (i).toNatClampNeg)) (h1 : ¬ (i + 1 < 0 ∨ L ≤ (i + 1).toNatClampNeg)) (h2 : ¬ (i + 2 < 0 ∨ L ≤ (i + 2).toNatClampNeg)) (h3 : ¬ (i + 3 < 0 ∨ L ≤ (i + 3).toNatClampNeg)) (h4 : ¬ (i + 4 < 0 ∨ L ≤ (i + 4).toNatClampNeg)) (h5 : ¬ (i + 5 < 0 ∨ L ≤ (i + 5).toNatClampNeg)) {P : Option Value × xH × Nat × Nat → Prop} (kk : x_R x_mt (some (L, xs)) 10 M_law (1508, [(3, .int i), (2, .ref 75), (1, .ref 0), (0, .ref x_scr)], [.int (xs ((i + 2)).toNatClampNeg), .int (xs ((i + 1)).toNatClampNeg), .ref 0], h, 98, 10728) P) : x_R x_mt (some (L, xs)) 10 M_law (1497, [(3, .int i), (2, .ref 75), (1, .ref 0), (0, .ref x_scr)], [], h, 98, 10728) P := by
  refine j_Lst (c' := (1498, [(3, .int i), (2, .ref 75), (1, .ref 0), (0, .ref x_scr)], [.ref 0], h, 98, 10728)) lr_1497 rfl ?_
  refine j_Lst (c' := (1499, [(3, .int i), (2, .ref 75), (1, .ref 0), (0, .ref x_scr)], [.ref x_scr, .ref 0], h, 98, 10728)) lr_1498 rfl ?_
  refine j_Lst (c' := (1500, [(3, .int i), (2, .ref 75), (1, .ref 0), (0, .ref x_scr)], [.int i, .ref x_scr, .ref 0], h, 98, 10728)) lr_1499 rfl ?_
  refine j_Lst (c' := (1501, [(3, .int i), (2, .ref 75), (1, .ref 0), (0, .ref x_scr)], [.int 1, .int i, .ref x_scr, .ref 0], h, 98, 10728)) lr_1500 rfl ?_
  refine j_Lst (c' := (1502, [(3, .int i), (2, .ref 75), (1, .ref 0), (0, .ref x_scr)], [.int (i + 1), .ref x_scr, .ref 0], h, 98, 10728)) lr_1501 rfl ?_
  refine j_Lsl (c' := (1503, [(3, .int i), (2, .ref 75), (1, .ref 0), (0, .ref x_scr)], [.int (xs ((i + 1)).toNatClampNeg), .ref 0], h, 98, 10728)) lr_1502 rfl h1 ?_
  refine j_Lst (c' := (1504, [(3, .int i), (2, .ref 75), (1, .ref 0), (0, .ref x_scr)], [.ref x_scr, .int (xs ((i + 1)).toNatClampNeg), .ref 0], h, 98, 10728)) lr_1503 rfl ?_
  refine j_Lst (c' := (1505, [(3, .int i), (2, .ref 75), (1, .ref 0), (0, .ref x_scr)], [.int i, .ref x_scr, .int (xs ((i + 1)).toNatClampNeg), .ref 0], h, 98, 10728)) lr_1504 rfl ?_
  refine j_Lst (c' := (1506, [(3, .int i), (2, .ref 75), (1, .ref 0), (0, .ref x_scr)], [.int 2, .int i, .ref x_scr, .int (xs ((i + 1)).toNatClampNeg), .ref 0], h, 98, 10728)) lr_1505 rfl ?_
  refine j_Lst (c' := (1507, [(3, .int i), (2, .ref 75), (1, .ref 0), (0, .ref x_scr)], [.int (i + 2), .ref x_scr, .int (xs ((i + 1)).toNatClampNeg), .ref 0], h, 98, 10728)) lr_1506 rfl ?_
  refine j_Lsl (c' := (1508, [(3, .int i), (2, .ref 75), (1, .ref 0), (0, .ref x_scr)], [.int (xs ((i + 2)).toNatClampNeg), .int (xs ((i + 1)).toNatClampNeg), .ref 0], h, 98, 10728)) lr_1507 rfl h2 ?_
  exact kk

set_option maxRecDepth 100000 in
theorem x_c43b (h : xH) (L : Nat) (xs : Nat → Int32) (i : Int32) (h0 : ¬ (i < 0 ∨ L ≤ (i).toNatClampNeg)) (h1 : ¬ (i + 1 < 0 ∨ L ≤ (i + 1).toNatClampNeg)) (h2 : ¬ (i + 2 < 0 ∨ L ≤ (i + 2).toNatClampNeg)) (h3 : ¬ (i + 3 < 0 ∨ L ≤ (i + 3).toNatClampNeg)) (h4 : ¬ (i + 4 < 0 ∨ L ≤ (i + 4).toNatClampNeg)) (h5 : ¬ (i + 5 < 0 ∨ L ≤ (i + 5).toNatClampNeg)) (v : Int32) {P : Option Value × xH × Nat × Nat → Prop} (kk : x_R x_mt (some (L, xs)) 10 M_law (1523, [(3, .int i), (2, .ref 75), (1, .ref 0), (0, .ref x_scr)], [.int (xs ((i + 2)).toNatClampNeg), .int (xs ((i + 1)).toNatClampNeg), .ref 75], h, 98, 10728) P) : x_R x_mt (some (L, xs)) 10 M_law (1511, [(3, .int i), (2, .ref 75), (1, .ref 0), (0, .ref x_scr)], [.int v], h, 98, 10728) P := by
  refine j_Lst (c' := (1512, [(3, .int i), (2, .ref 75), (1, .ref 0), (0, .ref x_scr)], [], h, 98, 10728)) lr_1511 rfl ?_
  refine j_Lst (c' := (1513, [(3, .int i), (2, .ref 75), (1, .ref 0), (0, .ref x_scr)], [.ref 75], h, 98, 10728)) lr_1512 rfl ?_
  refine j_Lst (c' := (1514, [(3, .int i), (2, .ref 75), (1, .ref 0), (0, .ref x_scr)], [.ref x_scr, .ref 75], h, 98, 10728)) lr_1513 rfl ?_
  refine j_Lst (c' := (1515, [(3, .int i), (2, .ref 75), (1, .ref 0), (0, .ref x_scr)], [.int i, .ref x_scr, .ref 75], h, 98, 10728)) lr_1514 rfl ?_
  refine j_Lst (c' := (1516, [(3, .int i), (2, .ref 75), (1, .ref 0), (0, .ref x_scr)], [.int 1, .int i, .ref x_scr, .ref 75], h, 98, 10728)) lr_1515 rfl ?_
  refine j_Lst (c' := (1517, [(3, .int i), (2, .ref 75), (1, .ref 0), (0, .ref x_scr)], [.int (i + 1), .ref x_scr, .ref 75], h, 98, 10728)) lr_1516 rfl ?_
  refine j_Lsl (c' := (1518, [(3, .int i), (2, .ref 75), (1, .ref 0), (0, .ref x_scr)], [.int (xs ((i + 1)).toNatClampNeg), .ref 75], h, 98, 10728)) lr_1517 rfl h1 ?_
  refine j_Lst (c' := (1519, [(3, .int i), (2, .ref 75), (1, .ref 0), (0, .ref x_scr)], [.ref x_scr, .int (xs ((i + 1)).toNatClampNeg), .ref 75], h, 98, 10728)) lr_1518 rfl ?_
  refine j_Lst (c' := (1520, [(3, .int i), (2, .ref 75), (1, .ref 0), (0, .ref x_scr)], [.int i, .ref x_scr, .int (xs ((i + 1)).toNatClampNeg), .ref 75], h, 98, 10728)) lr_1519 rfl ?_
  refine j_Lst (c' := (1521, [(3, .int i), (2, .ref 75), (1, .ref 0), (0, .ref x_scr)], [.int 2, .int i, .ref x_scr, .int (xs ((i + 1)).toNatClampNeg), .ref 75], h, 98, 10728)) lr_1520 rfl ?_
  refine j_Lst (c' := (1522, [(3, .int i), (2, .ref 75), (1, .ref 0), (0, .ref x_scr)], [.int (i + 2), .ref x_scr, .int (xs ((i + 1)).toNatClampNeg), .ref 75], h, 98, 10728)) lr_1521 rfl ?_
  refine j_Lsl (c' := (1523, [(3, .int i), (2, .ref 75), (1, .ref 0), (0, .ref x_scr)], [.int (xs ((i + 2)).toNatClampNeg), .int (xs ((i + 1)).toNatClampNeg), .ref 75], h, 98, 10728)) lr_1522 rfl h2 ?_
  exact kk

set_option maxRecDepth 100000 in
theorem x_c43d (h : xH) (L : Nat) (xs : Nat → Int32) (i : Int32) (h0 : ¬ (i < 0 ∨ L ≤ (i).toNatClampNeg)) (h1 : ¬ (i + 1 < 0 ∨ L ≤ (i + 1).toNatClampNeg)) (h2 : ¬ (i + 2 < 0 ∨ L ≤ (i + 2).toNatClampNeg)) (h3 : ¬ (i + 3 < 0 ∨ L ≤ (i + 3).toNatClampNeg)) (h4 : ¬ (i + 4 < 0 ∨ L ≤ (i + 4).toNatClampNeg)) (h5 : ¬ (i + 5 < 0 ∨ L ≤ (i + 5).toNatClampNeg)) (w : Int32) {P : Option Value × xH × Nat × Nat → Prop} (kk : x_R x_mt (some (L, xs)) 10 M_law (18, [(3, .int (i + Int32.ofInt (6))), (2, .ref 75), (1, .ref 0), (0, .ref x_scr)], [], h, 98, 10728) P) : x_R x_mt (some (L, xs)) 10 M_law (1526, [(3, .int i), (2, .ref 75), (1, .ref 0), (0, .ref x_scr)], [.int w], h, 98, 10728) P := by
  refine j_Lst (c' := (1527, [(3, .int i), (2, .ref 75), (1, .ref 0), (0, .ref x_scr)], [], h, 98, 10728)) lr_1526 rfl ?_
  refine j_Lst (c' := (2368, [(3, .int i), (2, .ref 75), (1, .ref 0), (0, .ref x_scr)], [], h, 98, 10728)) lr_1527 rfl ?_
  refine j_Lst (c' := (2371, [(3, .int (i + Int32.ofInt (6))), (2, .ref 75), (1, .ref 0), (0, .ref x_scr)], [], h, 98, 10728)) lr_2368 rfl ?_
  refine j_Lst (c' := (18, [(3, .int (i + Int32.ofInt (6))), (2, .ref 75), (1, .ref 0), (0, .ref x_scr)], [], h, 98, 10728)) lr_2371 rfl ?_
  exact kk

set_option maxRecDepth 100000 in
theorem x_c44a (h : xH) (L : Nat) (xs : Nat → Int32) (i : Int32) (h0 : ¬ (i < 0 ∨ L ≤ (i).toNatClampNeg)) (h1 : ¬ (i + 1 < 0 ∨ L ≤ (i + 1).toNatClampNeg)) (h2 : ¬ (i + 2 < 0 ∨ L ≤ (i + 2).toNatClampNeg)) (h3 : ¬ (i + 3 < 0 ∨ L ≤ (i + 3).toNatClampNeg)) (h4 : ¬ (i + 4 < 0 ∨ L ≤ (i + 4).toNatClampNeg)) (h5 : ¬ (i + 5 < 0 ∨ L ≤ (i + 5).toNatClampNeg)) {P : Option Value × xH × Nat × Nat → Prop} (kk : x_R x_mt (some (L, xs)) 10 M_law (1536, [(3, .int i), (2, .ref 75), (1, .ref 0), (0, .ref x_scr)], [.int (xs ((i + 1)).toNatClampNeg), .ref 0], h, 98, 10728) P) : x_R x_mt (some (L, xs)) 10 M_law (1530, [(3, .int i), (2, .ref 75), (1, .ref 0), (0, .ref x_scr)], [], h, 98, 10728) P := by
  refine j_Lst (c' := (1531, [(3, .int i), (2, .ref 75), (1, .ref 0), (0, .ref x_scr)], [.ref 0], h, 98, 10728)) lr_1530 rfl ?_
  refine j_Lst (c' := (1532, [(3, .int i), (2, .ref 75), (1, .ref 0), (0, .ref x_scr)], [.ref x_scr, .ref 0], h, 98, 10728)) lr_1531 rfl ?_
  refine j_Lst (c' := (1533, [(3, .int i), (2, .ref 75), (1, .ref 0), (0, .ref x_scr)], [.int i, .ref x_scr, .ref 0], h, 98, 10728)) lr_1532 rfl ?_
  refine j_Lst (c' := (1534, [(3, .int i), (2, .ref 75), (1, .ref 0), (0, .ref x_scr)], [.int 1, .int i, .ref x_scr, .ref 0], h, 98, 10728)) lr_1533 rfl ?_
  refine j_Lst (c' := (1535, [(3, .int i), (2, .ref 75), (1, .ref 0), (0, .ref x_scr)], [.int (i + 1), .ref x_scr, .ref 0], h, 98, 10728)) lr_1534 rfl ?_
  refine j_Lsl (c' := (1536, [(3, .int i), (2, .ref 75), (1, .ref 0), (0, .ref x_scr)], [.int (xs ((i + 1)).toNatClampNeg), .ref 0], h, 98, 10728)) lr_1535 rfl h1 ?_
  exact kk

set_option maxRecDepth 100000 in
theorem x_c44b (h : xH) (L : Nat) (xs : Nat → Int32) (i : Int32) (h0 : ¬ (i < 0 ∨ L ≤ (i).toNatClampNeg)) (h1 : ¬ (i + 1 < 0 ∨ L ≤ (i + 1).toNatClampNeg)) (h2 : ¬ (i + 2 < 0 ∨ L ≤ (i + 2).toNatClampNeg)) (h3 : ¬ (i + 3 < 0 ∨ L ≤ (i + 3).toNatClampNeg)) (h4 : ¬ (i + 4 < 0 ∨ L ≤ (i + 4).toNatClampNeg)) (h5 : ¬ (i + 5 < 0 ∨ L ≤ (i + 5).toNatClampNeg)) (v : Int32) {P : Option Value × xH × Nat × Nat → Prop} (kk : x_R x_mt (some (L, xs)) 10 M_law (1546, [(3, .int i), (2, .ref 75), (1, .ref 0), (0, .ref x_scr)], [.int (xs ((i + 1)).toNatClampNeg), .ref 75], h, 98, 10728) P) : x_R x_mt (some (L, xs)) 10 M_law (1539, [(3, .int i), (2, .ref 75), (1, .ref 0), (0, .ref x_scr)], [.int v], h, 98, 10728) P := by
  refine j_Lst (c' := (1540, [(3, .int i), (2, .ref 75), (1, .ref 0), (0, .ref x_scr)], [], h, 98, 10728)) lr_1539 rfl ?_
  refine j_Lst (c' := (1541, [(3, .int i), (2, .ref 75), (1, .ref 0), (0, .ref x_scr)], [.ref 75], h, 98, 10728)) lr_1540 rfl ?_
  refine j_Lst (c' := (1542, [(3, .int i), (2, .ref 75), (1, .ref 0), (0, .ref x_scr)], [.ref x_scr, .ref 75], h, 98, 10728)) lr_1541 rfl ?_
  refine j_Lst (c' := (1543, [(3, .int i), (2, .ref 75), (1, .ref 0), (0, .ref x_scr)], [.int i, .ref x_scr, .ref 75], h, 98, 10728)) lr_1542 rfl ?_
  refine j_Lst (c' := (1544, [(3, .int i), (2, .ref 75), (1, .ref 0), (0, .ref x_scr)], [.int 1, .int i, .ref x_scr, .ref 75], h, 98, 10728)) lr_1543 rfl ?_
  refine j_Lst (c' := (1545, [(3, .int i), (2, .ref 75), (1, .ref 0), (0, .ref x_scr)], [.int (i + 1), .ref x_scr, .ref 75], h, 98, 10728)) lr_1544 rfl ?_
  refine j_Lsl (c' := (1546, [(3, .int i), (2, .ref 75), (1, .ref 0), (0, .ref x_scr)], [.int (xs ((i + 1)).toNatClampNeg), .ref 75], h, 98, 10728)) lr_1545 rfl h1 ?_
  exact kk

set_option maxRecDepth 100000 in
theorem x_c44d (h : xH) (L : Nat) (xs : Nat → Int32) (i : Int32) (h0 : ¬ (i < 0 ∨ L ≤ (i).toNatClampNeg)) (h1 : ¬ (i + 1 < 0 ∨ L ≤ (i + 1).toNatClampNeg)) (h2 : ¬ (i + 2 < 0 ∨ L ≤ (i + 2).toNatClampNeg)) (h3 : ¬ (i + 3 < 0 ∨ L ≤ (i + 3).toNatClampNeg)) (h4 : ¬ (i + 4 < 0 ∨ L ≤ (i + 4).toNatClampNeg)) (h5 : ¬ (i + 5 < 0 ∨ L ≤ (i + 5).toNatClampNeg)) (w : Int32) {P : Option Value × xH × Nat × Nat → Prop} (kk : x_R x_mt (some (L, xs)) 10 M_law (18, [(3, .int (i + Int32.ofInt (6))), (2, .ref 75), (1, .ref 0), (0, .ref x_scr)], [], h, 98, 10728) P) : x_R x_mt (some (L, xs)) 10 M_law (1549, [(3, .int i), (2, .ref 75), (1, .ref 0), (0, .ref x_scr)], [.int w], h, 98, 10728) P := by
  refine j_Lst (c' := (1550, [(3, .int i), (2, .ref 75), (1, .ref 0), (0, .ref x_scr)], [], h, 98, 10728)) lr_1549 rfl ?_
  refine j_Lst (c' := (2368, [(3, .int i), (2, .ref 75), (1, .ref 0), (0, .ref x_scr)], [], h, 98, 10728)) lr_1550 rfl ?_
  refine j_Lst (c' := (2371, [(3, .int (i + Int32.ofInt (6))), (2, .ref 75), (1, .ref 0), (0, .ref x_scr)], [], h, 98, 10728)) lr_2368 rfl ?_
  refine j_Lst (c' := (18, [(3, .int (i + Int32.ofInt (6))), (2, .ref 75), (1, .ref 0), (0, .ref x_scr)], [], h, 98, 10728)) lr_2371 rfl ?_
  exact kk

set_option maxRecDepth 100000 in
theorem x_c45a (h : xH) (L : Nat) (xs : Nat → Int32) (i : Int32) (h0 : ¬ (i < 0 ∨ L ≤ (i).toNatClampNeg)) (h1 : ¬ (i + 1 < 0 ∨ L ≤ (i + 1).toNatClampNeg)) (h2 : ¬ (i + 2 < 0 ∨ L ≤ (i + 2).toNatClampNeg)) (h3 : ¬ (i + 3 < 0 ∨ L ≤ (i + 3).toNatClampNeg)) (h4 : ¬ (i + 4 < 0 ∨ L ≤ (i + 4).toNatClampNeg)) (h5 : ¬ (i + 5 < 0 ∨ L ≤ (i + 5).toNatClampNeg)) {P : Option Value × xH × Nat × Nat → Prop} (kk : x_R x_mt (some (L, xs)) 10 M_law (1569, [(3, .int i), (2, .ref 75), (1, .ref 0), (0, .ref x_scr)], [.int (xs ((i + 3)).toNatClampNeg), .int (xs ((i + 2)).toNatClampNeg), .int (xs ((i + 1)).toNatClampNeg), .ref 0], h, 98, 10728) P) : x_R x_mt (some (L, xs)) 10 M_law (1553, [(3, .int i), (2, .ref 75), (1, .ref 0), (0, .ref x_scr)], [], h, 98, 10728) P := by
  refine j_Lst (c' := (1554, [(3, .int i), (2, .ref 75), (1, .ref 0), (0, .ref x_scr)], [.ref 0], h, 98, 10728)) lr_1553 rfl ?_
  refine j_Lst (c' := (1555, [(3, .int i), (2, .ref 75), (1, .ref 0), (0, .ref x_scr)], [.ref x_scr, .ref 0], h, 98, 10728)) lr_1554 rfl ?_
  refine j_Lst (c' := (1556, [(3, .int i), (2, .ref 75), (1, .ref 0), (0, .ref x_scr)], [.int i, .ref x_scr, .ref 0], h, 98, 10728)) lr_1555 rfl ?_
  refine j_Lst (c' := (1557, [(3, .int i), (2, .ref 75), (1, .ref 0), (0, .ref x_scr)], [.int 1, .int i, .ref x_scr, .ref 0], h, 98, 10728)) lr_1556 rfl ?_
  refine j_Lst (c' := (1558, [(3, .int i), (2, .ref 75), (1, .ref 0), (0, .ref x_scr)], [.int (i + 1), .ref x_scr, .ref 0], h, 98, 10728)) lr_1557 rfl ?_
  refine j_Lsl (c' := (1559, [(3, .int i), (2, .ref 75), (1, .ref 0), (0, .ref x_scr)], [.int (xs ((i + 1)).toNatClampNeg), .ref 0], h, 98, 10728)) lr_1558 rfl h1 ?_
  refine j_Lst (c' := (1560, [(3, .int i), (2, .ref 75), (1, .ref 0), (0, .ref x_scr)], [.ref x_scr, .int (xs ((i + 1)).toNatClampNeg), .ref 0], h, 98, 10728)) lr_1559 rfl ?_
  refine j_Lst (c' := (1561, [(3, .int i), (2, .ref 75), (1, .ref 0), (0, .ref x_scr)], [.int i, .ref x_scr, .int (xs ((i + 1)).toNatClampNeg), .ref 0], h, 98, 10728)) lr_1560 rfl ?_
  refine j_Lst (c' := (1562, [(3, .int i), (2, .ref 75), (1, .ref 0), (0, .ref x_scr)], [.int 2, .int i, .ref x_scr, .int (xs ((i + 1)).toNatClampNeg), .ref 0], h, 98, 10728)) lr_1561 rfl ?_
  refine j_Lst (c' := (1563, [(3, .int i), (2, .ref 75), (1, .ref 0), (0, .ref x_scr)], [.int (i + 2), .ref x_scr, .int (xs ((i + 1)).toNatClampNeg), .ref 0], h, 98, 10728)) lr_1562 rfl ?_
  refine j_Lsl (c' := (1564, [(3, .int i), (2, .ref 75), (1, .ref 0), (0, .ref x_scr)], [.int (xs ((i + 2)).toNatClampNeg), .int (xs ((i + 1)).toNatClampNeg), .ref 0], h, 98, 10728)) lr_1563 rfl h2 ?_
  refine j_Lst (c' := (1565, [(3, .int i), (2, .ref 75), (1, .ref 0), (0, .ref x_scr)], [.ref x_scr, .int (xs ((i + 2)).toNatClampNeg), .int (xs ((i + 1)).toNatClampNeg), .ref 0], h, 98, 10728)) lr_1564 rfl ?_
  refine j_Lst (c' := (1566, [(3, .int i), (2, .ref 75), (1, .ref 0), (0, .ref x_scr)], [.int i, .ref x_scr, .int (xs ((i + 2)).toNatClampNeg), .int (xs ((i + 1)).toNatClampNeg), .ref 0], h, 98, 10728)) lr_1565 rfl ?_
  refine j_Lst (c' := (1567, [(3, .int i), (2, .ref 75), (1, .ref 0), (0, .ref x_scr)], [.int 3, .int i, .ref x_scr, .int (xs ((i + 2)).toNatClampNeg), .int (xs ((i + 1)).toNatClampNeg), .ref 0], h, 98, 10728)) lr_1566 rfl ?_
  refine j_Lst (c' := (1568, [(3, .int i), (2, .ref 75), (1, .ref 0), (0, .ref x_scr)], [.int (i + 3), .ref x_scr, .int (xs ((i + 2)).toNatClampNeg), .int (xs ((i + 1)).toNatClampNeg), .ref 0], h, 98, 10728)) lr_1567 rfl ?_
  refine j_Lsl (c' := (1569, [(3, .int i), (2, .ref 75), (1, .ref 0), (0, .ref x_scr)], [.int (xs ((i + 3)).toNatClampNeg), .int (xs ((i + 2)).toNatClampNeg), .int (xs ((i + 1)).toNatClampNeg), .ref 0], h, 98, 10728)) lr_1568 rfl h3 ?_
  exact kk

set_option maxRecDepth 100000 in
theorem x_c45b (h : xH) (L : Nat) (xs : Nat → Int32) (i : Int32) (h0 : ¬ (i < 0 ∨ L ≤ (i).toNatClampNeg)) (h1 : ¬ (i + 1 < 0 ∨ L ≤ (i + 1).toNatClampNeg)) (h2 : ¬ (i + 2 < 0 ∨ L ≤ (i + 2).toNatClampNeg)) (h3 : ¬ (i + 3 < 0 ∨ L ≤ (i + 3).toNatClampNeg)) (h4 : ¬ (i + 4 < 0 ∨ L ≤ (i + 4).toNatClampNeg)) (h5 : ¬ (i + 5 < 0 ∨ L ≤ (i + 5).toNatClampNeg)) (v : Int32) {P : Option Value × xH × Nat × Nat → Prop} (kk : x_R x_mt (some (L, xs)) 10 M_law (1589, [(3, .int i), (2, .ref 75), (1, .ref 0), (0, .ref x_scr)], [.int (xs ((i + 3)).toNatClampNeg), .int (xs ((i + 2)).toNatClampNeg), .int (xs ((i + 1)).toNatClampNeg), .ref 75], h, 98, 10728) P) : x_R x_mt (some (L, xs)) 10 M_law (1572, [(3, .int i), (2, .ref 75), (1, .ref 0), (0, .ref x_scr)], [.int v], h, 98, 10728) P := by
  refine j_Lst (c' := (1573, [(3, .int i), (2, .ref 75), (1, .ref 0), (0, .ref x_scr)], [], h, 98, 10728)) lr_1572 rfl ?_
  refine j_Lst (c' := (1574, [(3, .int i), (2, .ref 75), (1, .ref 0), (0, .ref x_scr)], [.ref 75], h, 98, 10728)) lr_1573 rfl ?_
  refine j_Lst (c' := (1575, [(3, .int i), (2, .ref 75), (1, .ref 0), (0, .ref x_scr)], [.ref x_scr, .ref 75], h, 98, 10728)) lr_1574 rfl ?_
  refine j_Lst (c' := (1576, [(3, .int i), (2, .ref 75), (1, .ref 0), (0, .ref x_scr)], [.int i, .ref x_scr, .ref 75], h, 98, 10728)) lr_1575 rfl ?_
  refine j_Lst (c' := (1577, [(3, .int i), (2, .ref 75), (1, .ref 0), (0, .ref x_scr)], [.int 1, .int i, .ref x_scr, .ref 75], h, 98, 10728)) lr_1576 rfl ?_
  refine j_Lst (c' := (1578, [(3, .int i), (2, .ref 75), (1, .ref 0), (0, .ref x_scr)], [.int (i + 1), .ref x_scr, .ref 75], h, 98, 10728)) lr_1577 rfl ?_
  refine j_Lsl (c' := (1579, [(3, .int i), (2, .ref 75), (1, .ref 0), (0, .ref x_scr)], [.int (xs ((i + 1)).toNatClampNeg), .ref 75], h, 98, 10728)) lr_1578 rfl h1 ?_
  refine j_Lst (c' := (1580, [(3, .int i), (2, .ref 75), (1, .ref 0), (0, .ref x_scr)], [.ref x_scr, .int (xs ((i + 1)).toNatClampNeg), .ref 75], h, 98, 10728)) lr_1579 rfl ?_
  refine j_Lst (c' := (1581, [(3, .int i), (2, .ref 75), (1, .ref 0), (0, .ref x_scr)], [.int i, .ref x_scr, .int (xs ((i + 1)).toNatClampNeg), .ref 75], h, 98, 10728)) lr_1580 rfl ?_
  refine j_Lst (c' := (1582, [(3, .int i), (2, .ref 75), (1, .ref 0), (0, .ref x_scr)], [.int 2, .int i, .ref x_scr, .int (xs ((i + 1)).toNatClampNeg), .ref 75], h, 98, 10728)) lr_1581 rfl ?_
  refine j_Lst (c' := (1583, [(3, .int i), (2, .ref 75), (1, .ref 0), (0, .ref x_scr)], [.int (i + 2), .ref x_scr, .int (xs ((i + 1)).toNatClampNeg), .ref 75], h, 98, 10728)) lr_1582 rfl ?_
  refine j_Lsl (c' := (1584, [(3, .int i), (2, .ref 75), (1, .ref 0), (0, .ref x_scr)], [.int (xs ((i + 2)).toNatClampNeg), .int (xs ((i + 1)).toNatClampNeg), .ref 75], h, 98, 10728)) lr_1583 rfl h2 ?_
  refine j_Lst (c' := (1585, [(3, .int i), (2, .ref 75), (1, .ref 0), (0, .ref x_scr)], [.ref x_scr, .int (xs ((i + 2)).toNatClampNeg), .int (xs ((i + 1)).toNatClampNeg), .ref 75], h, 98, 10728)) lr_1584 rfl ?_
  refine j_Lst (c' := (1586, [(3, .int i), (2, .ref 75), (1, .ref 0), (0, .ref x_scr)], [.int i, .ref x_scr, .int (xs ((i + 2)).toNatClampNeg), .int (xs ((i + 1)).toNatClampNeg), .ref 75], h, 98, 10728)) lr_1585 rfl ?_
  refine j_Lst (c' := (1587, [(3, .int i), (2, .ref 75), (1, .ref 0), (0, .ref x_scr)], [.int 3, .int i, .ref x_scr, .int (xs ((i + 2)).toNatClampNeg), .int (xs ((i + 1)).toNatClampNeg), .ref 75], h, 98, 10728)) lr_1586 rfl ?_
  refine j_Lst (c' := (1588, [(3, .int i), (2, .ref 75), (1, .ref 0), (0, .ref x_scr)], [.int (i + 3), .ref x_scr, .int (xs ((i + 2)).toNatClampNeg), .int (xs ((i + 1)).toNatClampNeg), .ref 75], h, 98, 10728)) lr_1587 rfl ?_
  refine j_Lsl (c' := (1589, [(3, .int i), (2, .ref 75), (1, .ref 0), (0, .ref x_scr)], [.int (xs ((i + 3)).toNatClampNeg), .int (xs ((i + 2)).toNatClampNeg), .int (xs ((i + 1)).toNatClampNeg), .ref 75], h, 98, 10728)) lr_1588 rfl h3 ?_
  exact kk

set_option maxRecDepth 100000 in
theorem x_c45d (h : xH) (L : Nat) (xs : Nat → Int32) (i : Int32) (h0 : ¬ (i < 0 ∨ L ≤ (i).toNatClampNeg)) (h1 : ¬ (i + 1 < 0 ∨ L ≤ (i + 1).toNatClampNeg)) (h2 : ¬ (i + 2 < 0 ∨ L ≤ (i + 2).toNatClampNeg)) (h3 : ¬ (i + 3 < 0 ∨ L ≤ (i + 3).toNatClampNeg)) (h4 : ¬ (i + 4 < 0 ∨ L ≤ (i + 4).toNatClampNeg)) (h5 : ¬ (i + 5 < 0 ∨ L ≤ (i + 5).toNatClampNeg)) (w : Int32) {P : Option Value × xH × Nat × Nat → Prop} (kk : x_R x_mt (some (L, xs)) 10 M_law (18, [(3, .int (i + Int32.ofInt (6))), (2, .ref 75), (1, .ref 0), (0, .ref x_scr)], [], h, 98, 10728) P) : x_R x_mt (some (L, xs)) 10 M_law (1592, [(3, .int i), (2, .ref 75), (1, .ref 0), (0, .ref x_scr)], [.int w], h, 98, 10728) P := by
  refine j_Lst (c' := (1593, [(3, .int i), (2, .ref 75), (1, .ref 0), (0, .ref x_scr)], [], h, 98, 10728)) lr_1592 rfl ?_
  refine j_Lst (c' := (2368, [(3, .int i), (2, .ref 75), (1, .ref 0), (0, .ref x_scr)], [], h, 98, 10728)) lr_1593 rfl ?_
  refine j_Lst (c' := (2371, [(3, .int (i + Int32.ofInt (6))), (2, .ref 75), (1, .ref 0), (0, .ref x_scr)], [], h, 98, 10728)) lr_2368 rfl ?_
  refine j_Lst (c' := (18, [(3, .int (i + Int32.ofInt (6))), (2, .ref 75), (1, .ref 0), (0, .ref x_scr)], [], h, 98, 10728)) lr_2371 rfl ?_
  exact kk

set_option maxRecDepth 100000 in
theorem x_c46a (h : xH) (L : Nat) (xs : Nat → Int32) (i : Int32) (h0 : ¬ (i < 0 ∨ L ≤ (i).toNatClampNeg)) (h1 : ¬ (i + 1 < 0 ∨ L ≤ (i + 1).toNatClampNeg)) (h2 : ¬ (i + 2 < 0 ∨ L ≤ (i + 2).toNatClampNeg)) (h3 : ¬ (i + 3 < 0 ∨ L ≤ (i + 3).toNatClampNeg)) (h4 : ¬ (i + 4 < 0 ∨ L ≤ (i + 4).toNatClampNeg)) (h5 : ¬ (i + 5 < 0 ∨ L ≤ (i + 5).toNatClampNeg)) {P : Option Value × xH × Nat × Nat → Prop} (kk : x_R x_mt (some (L, xs)) 10 M_law (1602, [(3, .int i), (2, .ref 75), (1, .ref 0), (0, .ref x_scr)], [.int (xs ((i + 1)).toNatClampNeg), .ref 0], h, 98, 10728) P) : x_R x_mt (some (L, xs)) 10 M_law (1596, [(3, .int i), (2, .ref 75), (1, .ref 0), (0, .ref x_scr)], [], h, 98, 10728) P := by
  refine j_Lst (c' := (1597, [(3, .int i), (2, .ref 75), (1, .ref 0), (0, .ref x_scr)], [.ref 0], h, 98, 10728)) lr_1596 rfl ?_
  refine j_Lst (c' := (1598, [(3, .int i), (2, .ref 75), (1, .ref 0), (0, .ref x_scr)], [.ref x_scr, .ref 0], h, 98, 10728)) lr_1597 rfl ?_
  refine j_Lst (c' := (1599, [(3, .int i), (2, .ref 75), (1, .ref 0), (0, .ref x_scr)], [.int i, .ref x_scr, .ref 0], h, 98, 10728)) lr_1598 rfl ?_
  refine j_Lst (c' := (1600, [(3, .int i), (2, .ref 75), (1, .ref 0), (0, .ref x_scr)], [.int 1, .int i, .ref x_scr, .ref 0], h, 98, 10728)) lr_1599 rfl ?_
  refine j_Lst (c' := (1601, [(3, .int i), (2, .ref 75), (1, .ref 0), (0, .ref x_scr)], [.int (i + 1), .ref x_scr, .ref 0], h, 98, 10728)) lr_1600 rfl ?_
  refine j_Lsl (c' := (1602, [(3, .int i), (2, .ref 75), (1, .ref 0), (0, .ref x_scr)], [.int (xs ((i + 1)).toNatClampNeg), .ref 0], h, 98, 10728)) lr_1601 rfl h1 ?_
  exact kk

set_option maxRecDepth 100000 in
theorem x_c46b (h : xH) (L : Nat) (xs : Nat → Int32) (i : Int32) (h0 : ¬ (i < 0 ∨ L ≤ (i).toNatClampNeg)) (h1 : ¬ (i + 1 < 0 ∨ L ≤ (i + 1).toNatClampNeg)) (h2 : ¬ (i + 2 < 0 ∨ L ≤ (i + 2).toNatClampNeg)) (h3 : ¬ (i + 3 < 0 ∨ L ≤ (i + 3).toNatClampNeg)) (h4 : ¬ (i + 4 < 0 ∨ L ≤ (i + 4).toNatClampNeg)) (h5 : ¬ (i + 5 < 0 ∨ L ≤ (i + 5).toNatClampNeg)) (v : Int32) {P : Option Value × xH × Nat × Nat → Prop} (kk : x_R x_mt (some (L, xs)) 10 M_law (1612, [(3, .int i), (2, .ref 75), (1, .ref 0), (0, .ref x_scr)], [.int (xs ((i + 1)).toNatClampNeg), .ref 75], h, 98, 10728) P) : x_R x_mt (some (L, xs)) 10 M_law (1605, [(3, .int i), (2, .ref 75), (1, .ref 0), (0, .ref x_scr)], [.int v], h, 98, 10728) P := by
  refine j_Lst (c' := (1606, [(3, .int i), (2, .ref 75), (1, .ref 0), (0, .ref x_scr)], [], h, 98, 10728)) lr_1605 rfl ?_
  refine j_Lst (c' := (1607, [(3, .int i), (2, .ref 75), (1, .ref 0), (0, .ref x_scr)], [.ref 75], h, 98, 10728)) lr_1606 rfl ?_
  refine j_Lst (c' := (1608, [(3, .int i), (2, .ref 75), (1, .ref 0), (0, .ref x_scr)], [.ref x_scr, .ref 75], h, 98, 10728)) lr_1607 rfl ?_
  refine j_Lst (c' := (1609, [(3, .int i), (2, .ref 75), (1, .ref 0), (0, .ref x_scr)], [.int i, .ref x_scr, .ref 75], h, 98, 10728)) lr_1608 rfl ?_
  refine j_Lst (c' := (1610, [(3, .int i), (2, .ref 75), (1, .ref 0), (0, .ref x_scr)], [.int 1, .int i, .ref x_scr, .ref 75], h, 98, 10728)) lr_1609 rfl ?_
  refine j_Lst (c' := (1611, [(3, .int i), (2, .ref 75), (1, .ref 0), (0, .ref x_scr)], [.int (i + 1), .ref x_scr, .ref 75], h, 98, 10728)) lr_1610 rfl ?_
  refine j_Lsl (c' := (1612, [(3, .int i), (2, .ref 75), (1, .ref 0), (0, .ref x_scr)], [.int (xs ((i + 1)).toNatClampNeg), .ref 75], h, 98, 10728)) lr_1611 rfl h1 ?_
  exact kk

set_option maxRecDepth 100000 in
theorem x_c46d (h : xH) (L : Nat) (xs : Nat → Int32) (i : Int32) (h0 : ¬ (i < 0 ∨ L ≤ (i).toNatClampNeg)) (h1 : ¬ (i + 1 < 0 ∨ L ≤ (i + 1).toNatClampNeg)) (h2 : ¬ (i + 2 < 0 ∨ L ≤ (i + 2).toNatClampNeg)) (h3 : ¬ (i + 3 < 0 ∨ L ≤ (i + 3).toNatClampNeg)) (h4 : ¬ (i + 4 < 0 ∨ L ≤ (i + 4).toNatClampNeg)) (h5 : ¬ (i + 5 < 0 ∨ L ≤ (i + 5).toNatClampNeg)) (w : Int32) {P : Option Value × xH × Nat × Nat → Prop} (kk : x_R x_mt (some (L, xs)) 10 M_law (18, [(3, .int (i + Int32.ofInt (6))), (2, .ref 75), (1, .ref 0), (0, .ref x_scr)], [], h, 98, 10728) P) : x_R x_mt (some (L, xs)) 10 M_law (1615, [(3, .int i), (2, .ref 75), (1, .ref 0), (0, .ref x_scr)], [.int w], h, 98, 10728) P := by
  refine j_Lst (c' := (1616, [(3, .int i), (2, .ref 75), (1, .ref 0), (0, .ref x_scr)], [], h, 98, 10728)) lr_1615 rfl ?_
  refine j_Lst (c' := (2368, [(3, .int i), (2, .ref 75), (1, .ref 0), (0, .ref x_scr)], [], h, 98, 10728)) lr_1616 rfl ?_
  refine j_Lst (c' := (2371, [(3, .int (i + Int32.ofInt (6))), (2, .ref 75), (1, .ref 0), (0, .ref x_scr)], [], h, 98, 10728)) lr_2368 rfl ?_
  refine j_Lst (c' := (18, [(3, .int (i + Int32.ofInt (6))), (2, .ref 75), (1, .ref 0), (0, .ref x_scr)], [], h, 98, 10728)) lr_2371 rfl ?_
  exact kk

set_option maxRecDepth 100000 in
theorem x_c47a (h : xH) (L : Nat) (xs : Nat → Int32) (i : Int32) (h0 : ¬ (i < 0 ∨ L ≤ (i).toNatClampNeg)) (h1 : ¬ (i + 1 < 0 ∨ L ≤ (i + 1).toNatClampNeg)) (h2 : ¬ (i + 2 < 0 ∨ L ≤ (i + 2).toNatClampNeg)) (h3 : ¬ (i + 3 < 0 ∨ L ≤ (i + 3).toNatClampNeg)) (h4 : ¬ (i + 4 < 0 ∨ L ≤ (i + 4).toNatClampNeg)) (h5 : ¬ (i + 5 < 0 ∨ L ≤ (i + 5).toNatClampNeg)) {P : Option Value × xH × Nat × Nat → Prop} (kk : x_R x_mt (some (L, xs)) 10 M_law (1625, [(3, .int i), (2, .ref 75), (1, .ref 0), (0, .ref x_scr)], [.int (xs ((i + 1)).toNatClampNeg), .ref 0], h, 98, 10728) P) : x_R x_mt (some (L, xs)) 10 M_law (1619, [(3, .int i), (2, .ref 75), (1, .ref 0), (0, .ref x_scr)], [], h, 98, 10728) P := by
  refine j_Lst (c' := (1620, [(3, .int i), (2, .ref 75), (1, .ref 0), (0, .ref x_scr)], [.ref 0], h, 98, 10728)) lr_1619 rfl ?_
  refine j_Lst (c' := (1621, [(3, .int i), (2, .ref 75), (1, .ref 0), (0, .ref x_scr)], [.ref x_scr, .ref 0], h, 98, 10728)) lr_1620 rfl ?_
  refine j_Lst (c' := (1622, [(3, .int i), (2, .ref 75), (1, .ref 0), (0, .ref x_scr)], [.int i, .ref x_scr, .ref 0], h, 98, 10728)) lr_1621 rfl ?_
  refine j_Lst (c' := (1623, [(3, .int i), (2, .ref 75), (1, .ref 0), (0, .ref x_scr)], [.int 1, .int i, .ref x_scr, .ref 0], h, 98, 10728)) lr_1622 rfl ?_
  refine j_Lst (c' := (1624, [(3, .int i), (2, .ref 75), (1, .ref 0), (0, .ref x_scr)], [.int (i + 1), .ref x_scr, .ref 0], h, 98, 10728)) lr_1623 rfl ?_
  refine j_Lsl (c' := (1625, [(3, .int i), (2, .ref 75), (1, .ref 0), (0, .ref x_scr)], [.int (xs ((i + 1)).toNatClampNeg), .ref 0], h, 98, 10728)) lr_1624 rfl h1 ?_
  exact kk

set_option maxRecDepth 100000 in
theorem x_c47b (h : xH) (L : Nat) (xs : Nat → Int32) (i : Int32) (h0 : ¬ (i < 0 ∨ L ≤ (i).toNatClampNeg)) (h1 : ¬ (i + 1 < 0 ∨ L ≤ (i + 1).toNatClampNeg)) (h2 : ¬ (i + 2 < 0 ∨ L ≤ (i + 2).toNatClampNeg)) (h3 : ¬ (i + 3 < 0 ∨ L ≤ (i + 3).toNatClampNeg)) (h4 : ¬ (i + 4 < 0 ∨ L ≤ (i + 4).toNatClampNeg)) (h5 : ¬ (i + 5 < 0 ∨ L ≤ (i + 5).toNatClampNeg)) (v : Int32) {P : Option Value × xH × Nat × Nat → Prop} (kk : x_R x_mt (some (L, xs)) 10 M_law (1635, [(3, .int i), (2, .ref 75), (1, .ref 0), (0, .ref x_scr)], [.int (xs ((i + 1)).toNatClampNeg), .ref 75], h, 98, 10728) P) : x_R x_mt (some (L, xs)) 10 M_law (1628, [(3, .int i), (2, .ref 75), (1, .ref 0), (0, .ref x_scr)], [.int v], h, 98, 10728) P := by
  refine j_Lst (c' := (1629, [(3, .int i), (2, .ref 75), (1, .ref 0), (0, .ref x_scr)], [], h, 98, 10728)) lr_1628 rfl ?_
  refine j_Lst (c' := (1630, [(3, .int i), (2, .ref 75), (1, .ref 0), (0, .ref x_scr)], [.ref 75], h, 98, 10728)) lr_1629 rfl ?_
  refine j_Lst (c' := (1631, [(3, .int i), (2, .ref 75), (1, .ref 0), (0, .ref x_scr)], [.ref x_scr, .ref 75], h, 98, 10728)) lr_1630 rfl ?_
  refine j_Lst (c' := (1632, [(3, .int i), (2, .ref 75), (1, .ref 0), (0, .ref x_scr)], [.int i, .ref x_scr, .ref 75], h, 98, 10728)) lr_1631 rfl ?_
  refine j_Lst (c' := (1633, [(3, .int i), (2, .ref 75), (1, .ref 0), (0, .ref x_scr)], [.int 1, .int i, .ref x_scr, .ref 75], h, 98, 10728)) lr_1632 rfl ?_
  refine j_Lst (c' := (1634, [(3, .int i), (2, .ref 75), (1, .ref 0), (0, .ref x_scr)], [.int (i + 1), .ref x_scr, .ref 75], h, 98, 10728)) lr_1633 rfl ?_
  refine j_Lsl (c' := (1635, [(3, .int i), (2, .ref 75), (1, .ref 0), (0, .ref x_scr)], [.int (xs ((i + 1)).toNatClampNeg), .ref 75], h, 98, 10728)) lr_1634 rfl h1 ?_
  exact kk

set_option maxRecDepth 100000 in
theorem x_c47d (h : xH) (L : Nat) (xs : Nat → Int32) (i : Int32) (h0 : ¬ (i < 0 ∨ L ≤ (i).toNatClampNeg)) (h1 : ¬ (i + 1 < 0 ∨ L ≤ (i + 1).toNatClampNeg)) (h2 : ¬ (i + 2 < 0 ∨ L ≤ (i + 2).toNatClampNeg)) (h3 : ¬ (i + 3 < 0 ∨ L ≤ (i + 3).toNatClampNeg)) (h4 : ¬ (i + 4 < 0 ∨ L ≤ (i + 4).toNatClampNeg)) (h5 : ¬ (i + 5 < 0 ∨ L ≤ (i + 5).toNatClampNeg)) (w : Int32) {P : Option Value × xH × Nat × Nat → Prop} (kk : x_R x_mt (some (L, xs)) 10 M_law (18, [(3, .int (i + Int32.ofInt (6))), (2, .ref 75), (1, .ref 0), (0, .ref x_scr)], [], h, 98, 10728) P) : x_R x_mt (some (L, xs)) 10 M_law (1638, [(3, .int i), (2, .ref 75), (1, .ref 0), (0, .ref x_scr)], [.int w], h, 98, 10728) P := by
  refine j_Lst (c' := (1639, [(3, .int i), (2, .ref 75), (1, .ref 0), (0, .ref x_scr)], [], h, 98, 10728)) lr_1638 rfl ?_
  refine j_Lst (c' := (2368, [(3, .int i), (2, .ref 75), (1, .ref 0), (0, .ref x_scr)], [], h, 98, 10728)) lr_1639 rfl ?_
  refine j_Lst (c' := (2371, [(3, .int (i + Int32.ofInt (6))), (2, .ref 75), (1, .ref 0), (0, .ref x_scr)], [], h, 98, 10728)) lr_2368 rfl ?_
  refine j_Lst (c' := (18, [(3, .int (i + Int32.ofInt (6))), (2, .ref 75), (1, .ref 0), (0, .ref x_scr)], [], h, 98, 10728)) lr_2371 rfl ?_
  exact kk

set_option maxRecDepth 100000 in
theorem x_c48a (h : xH) (L : Nat) (xs : Nat → Int32) (i : Int32) (h0 : ¬ (i < 0 ∨ L ≤ (i).toNatClampNeg)) (h1 : ¬ (i + 1 < 0 ∨ L ≤ (i + 1).toNatClampNeg)) (h2 : ¬ (i + 2 < 0 ∨ L ≤ (i + 2).toNatClampNeg)) (h3 : ¬ (i + 3 < 0 ∨ L ≤ (i + 3).toNatClampNeg)) (h4 : ¬ (i + 4 < 0 ∨ L ≤ (i + 4).toNatClampNeg)) (h5 : ¬ (i + 5 < 0 ∨ L ≤ (i + 5).toNatClampNeg)) {P : Option Value × xH × Nat × Nat → Prop} (kk : x_R x_mt (some (L, xs)) 10 M_law (1648, [(3, .int i), (2, .ref 75), (1, .ref 0), (0, .ref x_scr)], [.int (xs ((i + 1)).toNatClampNeg), .ref 0], h, 98, 10728) P) : x_R x_mt (some (L, xs)) 10 M_law (1642, [(3, .int i), (2, .ref 75), (1, .ref 0), (0, .ref x_scr)], [], h, 98, 10728) P := by
  refine j_Lst (c' := (1643, [(3, .int i), (2, .ref 75), (1, .ref 0), (0, .ref x_scr)], [.ref 0], h, 98, 10728)) lr_1642 rfl ?_
  refine j_Lst (c' := (1644, [(3, .int i), (2, .ref 75), (1, .ref 0), (0, .ref x_scr)], [.ref x_scr, .ref 0], h, 98, 10728)) lr_1643 rfl ?_
  refine j_Lst (c' := (1645, [(3, .int i), (2, .ref 75), (1, .ref 0), (0, .ref x_scr)], [.int i, .ref x_scr, .ref 0], h, 98, 10728)) lr_1644 rfl ?_
  refine j_Lst (c' := (1646, [(3, .int i), (2, .ref 75), (1, .ref 0), (0, .ref x_scr)], [.int 1, .int i, .ref x_scr, .ref 0], h, 98, 10728)) lr_1645 rfl ?_
  refine j_Lst (c' := (1647, [(3, .int i), (2, .ref 75), (1, .ref 0), (0, .ref x_scr)], [.int (i + 1), .ref x_scr, .ref 0], h, 98, 10728)) lr_1646 rfl ?_
  refine j_Lsl (c' := (1648, [(3, .int i), (2, .ref 75), (1, .ref 0), (0, .ref x_scr)], [.int (xs ((i + 1)).toNatClampNeg), .ref 0], h, 98, 10728)) lr_1647 rfl h1 ?_
  exact kk

set_option maxRecDepth 100000 in
theorem x_c48b (h : xH) (L : Nat) (xs : Nat → Int32) (i : Int32) (h0 : ¬ (i < 0 ∨ L ≤ (i).toNatClampNeg)) (h1 : ¬ (i + 1 < 0 ∨ L ≤ (i + 1).toNatClampNeg)) (h2 : ¬ (i + 2 < 0 ∨ L ≤ (i + 2).toNatClampNeg)) (h3 : ¬ (i + 3 < 0 ∨ L ≤ (i + 3).toNatClampNeg)) (h4 : ¬ (i + 4 < 0 ∨ L ≤ (i + 4).toNatClampNeg)) (h5 : ¬ (i + 5 < 0 ∨ L ≤ (i + 5).toNatClampNeg)) (v : Int32) {P : Option Value × xH × Nat × Nat → Prop} (kk : x_R x_mt (some (L, xs)) 10 M_law (1658, [(3, .int i), (2, .ref 75), (1, .ref 0), (0, .ref x_scr)], [.int (xs ((i + 1)).toNatClampNeg), .ref 75], h, 98, 10728) P) : x_R x_mt (some (L, xs)) 10 M_law (1651, [(3, .int i), (2, .ref 75), (1, .ref 0), (0, .ref x_scr)], [.int v], h, 98, 10728) P := by
  refine j_Lst (c' := (1652, [(3, .int i), (2, .ref 75), (1, .ref 0), (0, .ref x_scr)], [], h, 98, 10728)) lr_1651 rfl ?_
  refine j_Lst (c' := (1653, [(3, .int i), (2, .ref 75), (1, .ref 0), (0, .ref x_scr)], [.ref 75], h, 98, 10728)) lr_1652 rfl ?_
  refine j_Lst (c' := (1654, [(3, .int i), (2, .ref 75), (1, .ref 0), (0, .ref x_scr)], [.ref x_scr, .ref 75], h, 98, 10728)) lr_1653 rfl ?_
  refine j_Lst (c' := (1655, [(3, .int i), (2, .ref 75), (1, .ref 0), (0, .ref x_scr)], [.int i, .ref x_scr, .ref 75], h, 98, 10728)) lr_1654 rfl ?_
  refine j_Lst (c' := (1656, [(3, .int i), (2, .ref 75), (1, .ref 0), (0, .ref x_scr)], [.int 1, .int i, .ref x_scr, .ref 75], h, 98, 10728)) lr_1655 rfl ?_
  refine j_Lst (c' := (1657, [(3, .int i), (2, .ref 75), (1, .ref 0), (0, .ref x_scr)], [.int (i + 1), .ref x_scr, .ref 75], h, 98, 10728)) lr_1656 rfl ?_
  refine j_Lsl (c' := (1658, [(3, .int i), (2, .ref 75), (1, .ref 0), (0, .ref x_scr)], [.int (xs ((i + 1)).toNatClampNeg), .ref 75], h, 98, 10728)) lr_1657 rfl h1 ?_
  exact kk

set_option maxRecDepth 100000 in
theorem x_c48d (h : xH) (L : Nat) (xs : Nat → Int32) (i : Int32) (h0 : ¬ (i < 0 ∨ L ≤ (i).toNatClampNeg)) (h1 : ¬ (i + 1 < 0 ∨ L ≤ (i + 1).toNatClampNeg)) (h2 : ¬ (i + 2 < 0 ∨ L ≤ (i + 2).toNatClampNeg)) (h3 : ¬ (i + 3 < 0 ∨ L ≤ (i + 3).toNatClampNeg)) (h4 : ¬ (i + 4 < 0 ∨ L ≤ (i + 4).toNatClampNeg)) (h5 : ¬ (i + 5 < 0 ∨ L ≤ (i + 5).toNatClampNeg)) (w : Int32) {P : Option Value × xH × Nat × Nat → Prop} (kk : x_R x_mt (some (L, xs)) 10 M_law (18, [(3, .int (i + Int32.ofInt (6))), (2, .ref 75), (1, .ref 0), (0, .ref x_scr)], [], h, 98, 10728) P) : x_R x_mt (some (L, xs)) 10 M_law (1661, [(3, .int i), (2, .ref 75), (1, .ref 0), (0, .ref x_scr)], [.int w], h, 98, 10728) P := by
  refine j_Lst (c' := (1662, [(3, .int i), (2, .ref 75), (1, .ref 0), (0, .ref x_scr)], [], h, 98, 10728)) lr_1661 rfl ?_
  refine j_Lst (c' := (2368, [(3, .int i), (2, .ref 75), (1, .ref 0), (0, .ref x_scr)], [], h, 98, 10728)) lr_1662 rfl ?_
  refine j_Lst (c' := (2371, [(3, .int (i + Int32.ofInt (6))), (2, .ref 75), (1, .ref 0), (0, .ref x_scr)], [], h, 98, 10728)) lr_2368 rfl ?_
  refine j_Lst (c' := (18, [(3, .int (i + Int32.ofInt (6))), (2, .ref 75), (1, .ref 0), (0, .ref x_scr)], [], h, 98, 10728)) lr_2371 rfl ?_
  exact kk

set_option maxRecDepth 100000 in
theorem x_c49a (h : xH) (L : Nat) (xs : Nat → Int32) (i : Int32) (h0 : ¬ (i < 0 ∨ L ≤ (i).toNatClampNeg)) (h1 : ¬ (i + 1 < 0 ∨ L ≤ (i + 1).toNatClampNeg)) (h2 : ¬ (i + 2 < 0 ∨ L ≤ (i + 2).toNatClampNeg)) (h3 : ¬ (i + 3 < 0 ∨ L ≤ (i + 3).toNatClampNeg)) (h4 : ¬ (i + 4 < 0 ∨ L ≤ (i + 4).toNatClampNeg)) (h5 : ¬ (i + 5 < 0 ∨ L ≤ (i + 5).toNatClampNeg)) {P : Option Value × xH × Nat × Nat → Prop} (kk : x_R x_mt (some (L, xs)) 10 M_law (1671, [(3, .int i), (2, .ref 75), (1, .ref 0), (0, .ref x_scr)], [.int (xs ((i + 1)).toNatClampNeg), .ref 0], h, 98, 10728) P) : x_R x_mt (some (L, xs)) 10 M_law (1665, [(3, .int i), (2, .ref 75), (1, .ref 0), (0, .ref x_scr)], [], h, 98, 10728) P := by
  refine j_Lst (c' := (1666, [(3, .int i), (2, .ref 75), (1, .ref 0), (0, .ref x_scr)], [.ref 0], h, 98, 10728)) lr_1665 rfl ?_
  refine j_Lst (c' := (1667, [(3, .int i), (2, .ref 75), (1, .ref 0), (0, .ref x_scr)], [.ref x_scr, .ref 0], h, 98, 10728)) lr_1666 rfl ?_
  refine j_Lst (c' := (1668, [(3, .int i), (2, .ref 75), (1, .ref 0), (0, .ref x_scr)], [.int i, .ref x_scr, .ref 0], h, 98, 10728)) lr_1667 rfl ?_
  refine j_Lst (c' := (1669, [(3, .int i), (2, .ref 75), (1, .ref 0), (0, .ref x_scr)], [.int 1, .int i, .ref x_scr, .ref 0], h, 98, 10728)) lr_1668 rfl ?_
  refine j_Lst (c' := (1670, [(3, .int i), (2, .ref 75), (1, .ref 0), (0, .ref x_scr)], [.int (i + 1), .ref x_scr, .ref 0], h, 98, 10728)) lr_1669 rfl ?_
  refine j_Lsl (c' := (1671, [(3, .int i), (2, .ref 75), (1, .ref 0), (0, .ref x_scr)], [.int (xs ((i + 1)).toNatClampNeg), .ref 0], h, 98, 10728)) lr_1670 rfl h1 ?_
  exact kk

set_option maxRecDepth 100000 in
theorem x_c49b (h : xH) (L : Nat) (xs : Nat → Int32) (i : Int32) (h0 : ¬ (i < 0 ∨ L ≤ (i).toNatClampNeg)) (h1 : ¬ (i + 1 < 0 ∨ L ≤ (i + 1).toNatClampNeg)) (h2 : ¬ (i + 2 < 0 ∨ L ≤ (i + 2).toNatClampNeg)) (h3 : ¬ (i + 3 < 0 ∨ L ≤ (i + 3).toNatClampNeg)) (h4 : ¬ (i + 4 < 0 ∨ L ≤ (i + 4).toNatClampNeg)) (h5 : ¬ (i + 5 < 0 ∨ L ≤ (i + 5).toNatClampNeg)) (v : Int32) {P : Option Value × xH × Nat × Nat → Prop} (kk : x_R x_mt (some (L, xs)) 10 M_law (1681, [(3, .int i), (2, .ref 75), (1, .ref 0), (0, .ref x_scr)], [.int (xs ((i + 1)).toNatClampNeg), .ref 75], h, 98, 10728) P) : x_R x_mt (some (L, xs)) 10 M_law (1674, [(3, .int i), (2, .ref 75), (1, .ref 0), (0, .ref x_scr)], [.int v], h, 98, 10728) P := by
  refine j_Lst (c' := (1675, [(3, .int i), (2, .ref 75), (1, .ref 0), (0, .ref x_scr)], [], h, 98, 10728)) lr_1674 rfl ?_
  refine j_Lst (c' := (1676, [(3, .int i), (2, .ref 75), (1, .ref 0), (0, .ref x_scr)], [.ref 75], h, 98, 10728)) lr_1675 rfl ?_
  refine j_Lst (c' := (1677, [(3, .int i), (2, .ref 75), (1, .ref 0), (0, .ref x_scr)], [.ref x_scr, .ref 75], h, 98, 10728)) lr_1676 rfl ?_
  refine j_Lst (c' := (1678, [(3, .int i), (2, .ref 75), (1, .ref 0), (0, .ref x_scr)], [.int i, .ref x_scr, .ref 75], h, 98, 10728)) lr_1677 rfl ?_
  refine j_Lst (c' := (1679, [(3, .int i), (2, .ref 75), (1, .ref 0), (0, .ref x_scr)], [.int 1, .int i, .ref x_scr, .ref 75], h, 98, 10728)) lr_1678 rfl ?_
  refine j_Lst (c' := (1680, [(3, .int i), (2, .ref 75), (1, .ref 0), (0, .ref x_scr)], [.int (i + 1), .ref x_scr, .ref 75], h, 98, 10728)) lr_1679 rfl ?_
  refine j_Lsl (c' := (1681, [(3, .int i), (2, .ref 75), (1, .ref 0), (0, .ref x_scr)], [.int (xs ((i + 1)).toNatClampNeg), .ref 75], h, 98, 10728)) lr_1680 rfl h1 ?_
  exact kk

set_option maxRecDepth 100000 in
theorem x_c49d (h : xH) (L : Nat) (xs : Nat → Int32) (i : Int32) (h0 : ¬ (i < 0 ∨ L ≤ (i).toNatClampNeg)) (h1 : ¬ (i + 1 < 0 ∨ L ≤ (i + 1).toNatClampNeg)) (h2 : ¬ (i + 2 < 0 ∨ L ≤ (i + 2).toNatClampNeg)) (h3 : ¬ (i + 3 < 0 ∨ L ≤ (i + 3).toNatClampNeg)) (h4 : ¬ (i + 4 < 0 ∨ L ≤ (i + 4).toNatClampNeg)) (h5 : ¬ (i + 5 < 0 ∨ L ≤ (i + 5).toNatClampNeg)) (w : Int32) {P : Option Value × xH × Nat × Nat → Prop} (kk : x_R x_mt (some (L, xs)) 10 M_law (18, [(3, .int (i + Int32.ofInt (6))), (2, .ref 75), (1, .ref 0), (0, .ref x_scr)], [], h, 98, 10728) P) : x_R x_mt (some (L, xs)) 10 M_law (1684, [(3, .int i), (2, .ref 75), (1, .ref 0), (0, .ref x_scr)], [.int w], h, 98, 10728) P := by
  refine j_Lst (c' := (1685, [(3, .int i), (2, .ref 75), (1, .ref 0), (0, .ref x_scr)], [], h, 98, 10728)) lr_1684 rfl ?_
  refine j_Lst (c' := (2368, [(3, .int i), (2, .ref 75), (1, .ref 0), (0, .ref x_scr)], [], h, 98, 10728)) lr_1685 rfl ?_
  refine j_Lst (c' := (2371, [(3, .int (i + Int32.ofInt (6))), (2, .ref 75), (1, .ref 0), (0, .ref x_scr)], [], h, 98, 10728)) lr_2368 rfl ?_
  refine j_Lst (c' := (18, [(3, .int (i + Int32.ofInt (6))), (2, .ref 75), (1, .ref 0), (0, .ref x_scr)], [], h, 98, 10728)) lr_2371 rfl ?_
  exact kk

set_option maxRecDepth 100000 in
theorem x_c50a (h : xH) (L : Nat) (xs : Nat → Int32) (i : Int32) (h0 : ¬ (i < 0 ∨ L ≤ (i).toNatClampNeg)) (h1 : ¬ (i + 1 < 0 ∨ L ≤ (i + 1).toNatClampNeg)) (h2 : ¬ (i + 2 < 0 ∨ L ≤ (i + 2).toNatClampNeg)) (h3 : ¬ (i + 3 < 0 ∨ L ≤ (i + 3).toNatClampNeg)) (h4 : ¬ (i + 4 < 0 ∨ L ≤ (i + 4).toNatClampNeg)) (h5 : ¬ (i + 5 < 0 ∨ L ≤ (i + 5).toNatClampNeg)) {P : Option Value × xH × Nat × Nat → Prop} (kk : x_R x_mt (some (L, xs)) 10 M_law (1699, [(3, .int i), (2, .ref 75), (1, .ref 0), (0, .ref x_scr)], [.int (xs ((i + 2)).toNatClampNeg), .int (xs ((i + 1)).toNatClampNeg), .ref 0], h, 98, 10728) P) : x_R x_mt (some (L, xs)) 10 M_law (1688, [(3, .int i), (2, .ref 75), (1, .ref 0), (0, .ref x_scr)], [], h, 98, 10728) P := by
  refine j_Lst (c' := (1689, [(3, .int i), (2, .ref 75), (1, .ref 0), (0, .ref x_scr)], [.ref 0], h, 98, 10728)) lr_1688 rfl ?_
  refine j_Lst (c' := (1690, [(3, .int i), (2, .ref 75), (1, .ref 0), (0, .ref x_scr)], [.ref x_scr, .ref 0], h, 98, 10728)) lr_1689 rfl ?_
  refine j_Lst (c' := (1691, [(3, .int i), (2, .ref 75), (1, .ref 0), (0, .ref x_scr)], [.int i, .ref x_scr, .ref 0], h, 98, 10728)) lr_1690 rfl ?_
  refine j_Lst (c' := (1692, [(3, .int i), (2, .ref 75), (1, .ref 0), (0, .ref x_scr)], [.int 1, .int i, .ref x_scr, .ref 0], h, 98, 10728)) lr_1691 rfl ?_
  refine j_Lst (c' := (1693, [(3, .int i), (2, .ref 75), (1, .ref 0), (0, .ref x_scr)], [.int (i + 1), .ref x_scr, .ref 0], h, 98, 10728)) lr_1692 rfl ?_
  refine j_Lsl (c' := (1694, [(3, .int i), (2, .ref 75), (1, .ref 0), (0, .ref x_scr)], [.int (xs ((i + 1)).toNatClampNeg), .ref 0], h, 98, 10728)) lr_1693 rfl h1 ?_
  refine j_Lst (c' := (1695, [(3, .int i), (2, .ref 75), (1, .ref 0), (0, .ref x_scr)], [.ref x_scr, .int (xs ((i + 1)).toNatClampNeg), .ref 0], h, 98, 10728)) lr_1694 rfl ?_
  refine j_Lst (c' := (1696, [(3, .int i), (2, .ref 75), (1, .ref 0), (0, .ref x_scr)], [.int i, .ref x_scr, .int (xs ((i + 1)).toNatClampNeg), .ref 0], h, 98, 10728)) lr_1695 rfl ?_
  refine j_Lst (c' := (1697, [(3, .int i), (2, .ref 75), (1, .ref 0), (0, .ref x_scr)], [.int 2, .int i, .ref x_scr, .int (xs ((i + 1)).toNatClampNeg), .ref 0], h, 98, 10728)) lr_1696 rfl ?_
  refine j_Lst (c' := (1698, [(3, .int i), (2, .ref 75), (1, .ref 0), (0, .ref x_scr)], [.int (i + 2), .ref x_scr, .int (xs ((i + 1)).toNatClampNeg), .ref 0], h, 98, 10728)) lr_1697 rfl ?_
  refine j_Lsl (c' := (1699, [(3, .int i), (2, .ref 75), (1, .ref 0), (0, .ref x_scr)], [.int (xs ((i + 2)).toNatClampNeg), .int (xs ((i + 1)).toNatClampNeg), .ref 0], h, 98, 10728)) lr_1698 rfl h2 ?_
  exact kk

set_option maxRecDepth 100000 in
theorem x_c50b (h : xH) (L : Nat) (xs : Nat → Int32) (i : Int32) (h0 : ¬ (i < 0 ∨ L ≤ (i).toNatClampNeg)) (h1 : ¬ (i + 1 < 0 ∨ L ≤ (i + 1).toNatClampNeg)) (h2 : ¬ (i + 2 < 0 ∨ L ≤ (i + 2).toNatClampNeg)) (h3 : ¬ (i + 3 < 0 ∨ L ≤ (i + 3).toNatClampNeg)) (h4 : ¬ (i + 4 < 0 ∨ L ≤ (i + 4).toNatClampNeg)) (h5 : ¬ (i + 5 < 0 ∨ L ≤ (i + 5).toNatClampNeg)) (v : Int32) {P : Option Value × xH × Nat × Nat → Prop} (kk : x_R x_mt (some (L, xs)) 10 M_law (1714, [(3, .int i), (2, .ref 75), (1, .ref 0), (0, .ref x_scr)], [.int (xs ((i + 2)).toNatClampNeg), .int (xs ((i + 1)).toNatClampNeg), .ref 75], h, 98, 10728) P) : x_R x_mt (some (L, xs)) 10 M_law (1702, [(3, .int i), (2, .ref 75), (1, .ref 0), (0, .ref x_scr)], [.int v], h, 98, 10728) P := by
  refine j_Lst (c' := (1703, [(3, .int i), (2, .ref 75), (1, .ref 0), (0, .ref x_scr)], [], h, 98, 10728)) lr_1702 rfl ?_
  refine j_Lst (c' := (1704, [(3, .int i), (2, .ref 75), (1, .ref 0), (0, .ref x_scr)], [.ref 75], h, 98, 10728)) lr_1703 rfl ?_
  refine j_Lst (c' := (1705, [(3, .int i), (2, .ref 75), (1, .ref 0), (0, .ref x_scr)], [.ref x_scr, .ref 75], h, 98, 10728)) lr_1704 rfl ?_
  refine j_Lst (c' := (1706, [(3, .int i), (2, .ref 75), (1, .ref 0), (0, .ref x_scr)], [.int i, .ref x_scr, .ref 75], h, 98, 10728)) lr_1705 rfl ?_
  refine j_Lst (c' := (1707, [(3, .int i), (2, .ref 75), (1, .ref 0), (0, .ref x_scr)], [.int 1, .int i, .ref x_scr, .ref 75], h, 98, 10728)) lr_1706 rfl ?_
  refine j_Lst (c' := (1708, [(3, .int i), (2, .ref 75), (1, .ref 0), (0, .ref x_scr)], [.int (i + 1), .ref x_scr, .ref 75], h, 98, 10728)) lr_1707 rfl ?_
  refine j_Lsl (c' := (1709, [(3, .int i), (2, .ref 75), (1, .ref 0), (0, .ref x_scr)], [.int (xs ((i + 1)).toNatClampNeg), .ref 75], h, 98, 10728)) lr_1708 rfl h1 ?_
  refine j_Lst (c' := (1710, [(3, .int i), (2, .ref 75), (1, .ref 0), (0, .ref x_scr)], [.ref x_scr, .int (xs ((i + 1)).toNatClampNeg), .ref 75], h, 98, 10728)) lr_1709 rfl ?_
  refine j_Lst (c' := (1711, [(3, .int i), (2, .ref 75), (1, .ref 0), (0, .ref x_scr)], [.int i, .ref x_scr, .int (xs ((i + 1)).toNatClampNeg), .ref 75], h, 98, 10728)) lr_1710 rfl ?_
  refine j_Lst (c' := (1712, [(3, .int i), (2, .ref 75), (1, .ref 0), (0, .ref x_scr)], [.int 2, .int i, .ref x_scr, .int (xs ((i + 1)).toNatClampNeg), .ref 75], h, 98, 10728)) lr_1711 rfl ?_
  refine j_Lst (c' := (1713, [(3, .int i), (2, .ref 75), (1, .ref 0), (0, .ref x_scr)], [.int (i + 2), .ref x_scr, .int (xs ((i + 1)).toNatClampNeg), .ref 75], h, 98, 10728)) lr_1712 rfl ?_
  refine j_Lsl (c' := (1714, [(3, .int i), (2, .ref 75), (1, .ref 0), (0, .ref x_scr)], [.int (xs ((i + 2)).toNatClampNeg), .int (xs ((i + 1)).toNatClampNeg), .ref 75], h, 98, 10728)) lr_1713 rfl h2 ?_
  exact kk

set_option maxRecDepth 100000 in
theorem x_c50d (h : xH) (L : Nat) (xs : Nat → Int32) (i : Int32) (h0 : ¬ (i < 0 ∨ L ≤ (i).toNatClampNeg)) (h1 : ¬ (i + 1 < 0 ∨ L ≤ (i + 1).toNatClampNeg)) (h2 : ¬ (i + 2 < 0 ∨ L ≤ (i + 2).toNatClampNeg)) (h3 : ¬ (i + 3 < 0 ∨ L ≤ (i + 3).toNatClampNeg)) (h4 : ¬ (i + 4 < 0 ∨ L ≤ (i + 4).toNatClampNeg)) (h5 : ¬ (i + 5 < 0 ∨ L ≤ (i + 5).toNatClampNeg)) (w : Int32) {P : Option Value × xH × Nat × Nat → Prop} (kk : x_R x_mt (some (L, xs)) 10 M_law (18, [(3, .int (i + Int32.ofInt (6))), (2, .ref 75), (1, .ref 0), (0, .ref x_scr)], [], h, 98, 10728) P) : x_R x_mt (some (L, xs)) 10 M_law (1717, [(3, .int i), (2, .ref 75), (1, .ref 0), (0, .ref x_scr)], [.int w], h, 98, 10728) P := by
  refine j_Lst (c' := (1718, [(3, .int i), (2, .ref 75), (1, .ref 0), (0, .ref x_scr)], [], h, 98, 10728)) lr_1717 rfl ?_
  refine j_Lst (c' := (2368, [(3, .int i), (2, .ref 75), (1, .ref 0), (0, .ref x_scr)], [], h, 98, 10728)) lr_1718 rfl ?_
  refine j_Lst (c' := (2371, [(3, .int (i + Int32.ofInt (6))), (2, .ref 75), (1, .ref 0), (0, .ref x_scr)], [], h, 98, 10728)) lr_2368 rfl ?_
  refine j_Lst (c' := (18, [(3, .int (i + Int32.ofInt (6))), (2, .ref 75), (1, .ref 0), (0, .ref x_scr)], [], h, 98, 10728)) lr_2371 rfl ?_
  exact kk

set_option maxRecDepth 100000 in
theorem x_c51a (h : xH) (L : Nat) (xs : Nat → Int32) (i : Int32) (h0 : ¬ (i < 0 ∨ L ≤ (i).toNatClampNeg)) (h1 : ¬ (i + 1 < 0 ∨ L ≤ (i + 1).toNatClampNeg)) (h2 : ¬ (i + 2 < 0 ∨ L ≤ (i + 2).toNatClampNeg)) (h3 : ¬ (i + 3 < 0 ∨ L ≤ (i + 3).toNatClampNeg)) (h4 : ¬ (i + 4 < 0 ∨ L ≤ (i + 4).toNatClampNeg)) (h5 : ¬ (i + 5 < 0 ∨ L ≤ (i + 5).toNatClampNeg)) {P : Option Value × xH × Nat × Nat → Prop} (kk : x_R x_mt (some (L, xs)) 10 M_law (1727, [(3, .int i), (2, .ref 75), (1, .ref 0), (0, .ref x_scr)], [.int (xs ((i + 1)).toNatClampNeg), .ref 0], h, 98, 10728) P) : x_R x_mt (some (L, xs)) 10 M_law (1721, [(3, .int i), (2, .ref 75), (1, .ref 0), (0, .ref x_scr)], [], h, 98, 10728) P := by
  refine j_Lst (c' := (1722, [(3, .int i), (2, .ref 75), (1, .ref 0), (0, .ref x_scr)], [.ref 0], h, 98, 10728)) lr_1721 rfl ?_
  refine j_Lst (c' := (1723, [(3, .int i), (2, .ref 75), (1, .ref 0), (0, .ref x_scr)], [.ref x_scr, .ref 0], h, 98, 10728)) lr_1722 rfl ?_
  refine j_Lst (c' := (1724, [(3, .int i), (2, .ref 75), (1, .ref 0), (0, .ref x_scr)], [.int i, .ref x_scr, .ref 0], h, 98, 10728)) lr_1723 rfl ?_
  refine j_Lst (c' := (1725, [(3, .int i), (2, .ref 75), (1, .ref 0), (0, .ref x_scr)], [.int 1, .int i, .ref x_scr, .ref 0], h, 98, 10728)) lr_1724 rfl ?_
  refine j_Lst (c' := (1726, [(3, .int i), (2, .ref 75), (1, .ref 0), (0, .ref x_scr)], [.int (i + 1), .ref x_scr, .ref 0], h, 98, 10728)) lr_1725 rfl ?_
  refine j_Lsl (c' := (1727, [(3, .int i), (2, .ref 75), (1, .ref 0), (0, .ref x_scr)], [.int (xs ((i + 1)).toNatClampNeg), .ref 0], h, 98, 10728)) lr_1726 rfl h1 ?_
  exact kk

set_option maxRecDepth 100000 in
theorem x_c51b (h : xH) (L : Nat) (xs : Nat → Int32) (i : Int32) (h0 : ¬ (i < 0 ∨ L ≤ (i).toNatClampNeg)) (h1 : ¬ (i + 1 < 0 ∨ L ≤ (i + 1).toNatClampNeg)) (h2 : ¬ (i + 2 < 0 ∨ L ≤ (i + 2).toNatClampNeg)) (h3 : ¬ (i + 3 < 0 ∨ L ≤ (i + 3).toNatClampNeg)) (h4 : ¬ (i + 4 < 0 ∨ L ≤ (i + 4).toNatClampNeg)) (h5 : ¬ (i + 5 < 0 ∨ L ≤ (i + 5).toNatClampNeg)) (v : Int32) {P : Option Value × xH × Nat × Nat → Prop} (kk : x_R x_mt (some (L, xs)) 10 M_law (1737, [(3, .int i), (2, .ref 75), (1, .ref 0), (0, .ref x_scr)], [.int (xs ((i + 1)).toNatClampNeg), .ref 75], h, 98, 10728) P) : x_R x_mt (some (L, xs)) 10 M_law (1730, [(3, .int i), (2, .ref 75), (1, .ref 0), (0, .ref x_scr)], [.int v], h, 98, 10728) P := by
  refine j_Lst (c' := (1731, [(3, .int i), (2, .ref 75), (1, .ref 0), (0, .ref x_scr)], [], h, 98, 10728)) lr_1730 rfl ?_
  refine j_Lst (c' := (1732, [(3, .int i), (2, .ref 75), (1, .ref 0), (0, .ref x_scr)], [.ref 75], h, 98, 10728)) lr_1731 rfl ?_
  refine j_Lst (c' := (1733, [(3, .int i), (2, .ref 75), (1, .ref 0), (0, .ref x_scr)], [.ref x_scr, .ref 75], h, 98, 10728)) lr_1732 rfl ?_
  refine j_Lst (c' := (1734, [(3, .int i), (2, .ref 75), (1, .ref 0), (0, .ref x_scr)], [.int i, .ref x_scr, .ref 75], h, 98, 10728)) lr_1733 rfl ?_
  refine j_Lst (c' := (1735, [(3, .int i), (2, .ref 75), (1, .ref 0), (0, .ref x_scr)], [.int 1, .int i, .ref x_scr, .ref 75], h, 98, 10728)) lr_1734 rfl ?_
  refine j_Lst (c' := (1736, [(3, .int i), (2, .ref 75), (1, .ref 0), (0, .ref x_scr)], [.int (i + 1), .ref x_scr, .ref 75], h, 98, 10728)) lr_1735 rfl ?_
  refine j_Lsl (c' := (1737, [(3, .int i), (2, .ref 75), (1, .ref 0), (0, .ref x_scr)], [.int (xs ((i + 1)).toNatClampNeg), .ref 75], h, 98, 10728)) lr_1736 rfl h1 ?_
  exact kk

set_option maxRecDepth 100000 in
theorem x_c51d (h : xH) (L : Nat) (xs : Nat → Int32) (i : Int32) (h0 : ¬ (i < 0 ∨ L ≤ (i).toNatClampNeg)) (h1 : ¬ (i + 1 < 0 ∨ L ≤ (i + 1).toNatClampNeg)) (h2 : ¬ (i + 2 < 0 ∨ L ≤ (i + 2).toNatClampNeg)) (h3 : ¬ (i + 3 < 0 ∨ L ≤ (i + 3).toNatClampNeg)) (h4 : ¬ (i + 4 < 0 ∨ L ≤ (i + 4).toNatClampNeg)) (h5 : ¬ (i + 5 < 0 ∨ L ≤ (i + 5).toNatClampNeg)) (w : Int32) {P : Option Value × xH × Nat × Nat → Prop} (kk : x_R x_mt (some (L, xs)) 10 M_law (18, [(3, .int (i + Int32.ofInt (6))), (2, .ref 75), (1, .ref 0), (0, .ref x_scr)], [], h, 98, 10728) P) : x_R x_mt (some (L, xs)) 10 M_law (1740, [(3, .int i), (2, .ref 75), (1, .ref 0), (0, .ref x_scr)], [.int w], h, 98, 10728) P := by
  refine j_Lst (c' := (1741, [(3, .int i), (2, .ref 75), (1, .ref 0), (0, .ref x_scr)], [], h, 98, 10728)) lr_1740 rfl ?_
  refine j_Lst (c' := (2368, [(3, .int i), (2, .ref 75), (1, .ref 0), (0, .ref x_scr)], [], h, 98, 10728)) lr_1741 rfl ?_
  refine j_Lst (c' := (2371, [(3, .int (i + Int32.ofInt (6))), (2, .ref 75), (1, .ref 0), (0, .ref x_scr)], [], h, 98, 10728)) lr_2368 rfl ?_
  refine j_Lst (c' := (18, [(3, .int (i + Int32.ofInt (6))), (2, .ref 75), (1, .ref 0), (0, .ref x_scr)], [], h, 98, 10728)) lr_2371 rfl ?_
  exact kk

set_option maxRecDepth 100000 in
theorem x_c52a (h : xH) (L : Nat) (xs : Nat → Int32) (i : Int32) (h0 : ¬ (i < 0 ∨ L ≤ (i).toNatClampNeg)) (h1 : ¬ (i + 1 < 0 ∨ L ≤ (i + 1).toNatClampNeg)) (h2 : ¬ (i + 2 < 0 ∨ L ≤ (i + 2).toNatClampNeg)) (h3 : ¬ (i + 3 < 0 ∨ L ≤ (i + 3).toNatClampNeg)) (h4 : ¬ (i + 4 < 0 ∨ L ≤ (i + 4).toNatClampNeg)) (h5 : ¬ (i + 5 < 0 ∨ L ≤ (i + 5).toNatClampNeg)) {P : Option Value × xH × Nat × Nat → Prop} (kk : x_R x_mt (some (L, xs)) 10 M_law (1745, [(3, .int i), (2, .ref 75), (1, .ref 0), (0, .ref x_scr)], [.ref 0], h, 98, 10728) P) : x_R x_mt (some (L, xs)) 10 M_law (1744, [(3, .int i), (2, .ref 75), (1, .ref 0), (0, .ref x_scr)], [], h, 98, 10728) P := by
  refine j_Lst (c' := (1745, [(3, .int i), (2, .ref 75), (1, .ref 0), (0, .ref x_scr)], [.ref 0], h, 98, 10728)) lr_1744 rfl ?_
  exact kk

set_option maxRecDepth 100000 in
theorem x_c52b (h : xH) (L : Nat) (xs : Nat → Int32) (i : Int32) (h0 : ¬ (i < 0 ∨ L ≤ (i).toNatClampNeg)) (h1 : ¬ (i + 1 < 0 ∨ L ≤ (i + 1).toNatClampNeg)) (h2 : ¬ (i + 2 < 0 ∨ L ≤ (i + 2).toNatClampNeg)) (h3 : ¬ (i + 3 < 0 ∨ L ≤ (i + 3).toNatClampNeg)) (h4 : ¬ (i + 4 < 0 ∨ L ≤ (i + 4).toNatClampNeg)) (h5 : ¬ (i + 5 < 0 ∨ L ≤ (i + 5).toNatClampNeg)) (v : Int32) {P : Option Value × xH × Nat × Nat → Prop} (kk : x_R x_mt (some (L, xs)) 10 M_law (1750, [(3, .int i), (2, .ref 75), (1, .ref 0), (0, .ref x_scr)], [.ref 75], h, 98, 10728) P) : x_R x_mt (some (L, xs)) 10 M_law (1748, [(3, .int i), (2, .ref 75), (1, .ref 0), (0, .ref x_scr)], [.int v], h, 98, 10728) P := by
  refine j_Lst (c' := (1749, [(3, .int i), (2, .ref 75), (1, .ref 0), (0, .ref x_scr)], [], h, 98, 10728)) lr_1748 rfl ?_
  refine j_Lst (c' := (1750, [(3, .int i), (2, .ref 75), (1, .ref 0), (0, .ref x_scr)], [.ref 75], h, 98, 10728)) lr_1749 rfl ?_
  exact kk

set_option maxRecDepth 100000 in
theorem x_c52d (h : xH) (L : Nat) (xs : Nat → Int32) (i : Int32) (h0 : ¬ (i < 0 ∨ L ≤ (i).toNatClampNeg)) (h1 : ¬ (i + 1 < 0 ∨ L ≤ (i + 1).toNatClampNeg)) (h2 : ¬ (i + 2 < 0 ∨ L ≤ (i + 2).toNatClampNeg)) (h3 : ¬ (i + 3 < 0 ∨ L ≤ (i + 3).toNatClampNeg)) (h4 : ¬ (i + 4 < 0 ∨ L ≤ (i + 4).toNatClampNeg)) (h5 : ¬ (i + 5 < 0 ∨ L ≤ (i + 5).toNatClampNeg)) (w : Int32) {P : Option Value × xH × Nat × Nat → Prop} (kk : x_R x_mt (some (L, xs)) 10 M_law (18, [(3, .int (i + Int32.ofInt (6))), (2, .ref 75), (1, .ref 0), (0, .ref x_scr)], [], h, 98, 10728) P) : x_R x_mt (some (L, xs)) 10 M_law (1753, [(3, .int i), (2, .ref 75), (1, .ref 0), (0, .ref x_scr)], [.int w], h, 98, 10728) P := by
  refine j_Lst (c' := (1754, [(3, .int i), (2, .ref 75), (1, .ref 0), (0, .ref x_scr)], [], h, 98, 10728)) lr_1753 rfl ?_
  refine j_Lst (c' := (2368, [(3, .int i), (2, .ref 75), (1, .ref 0), (0, .ref x_scr)], [], h, 98, 10728)) lr_1754 rfl ?_
  refine j_Lst (c' := (2371, [(3, .int (i + Int32.ofInt (6))), (2, .ref 75), (1, .ref 0), (0, .ref x_scr)], [], h, 98, 10728)) lr_2368 rfl ?_
  refine j_Lst (c' := (18, [(3, .int (i + Int32.ofInt (6))), (2, .ref 75), (1, .ref 0), (0, .ref x_scr)], [], h, 98, 10728)) lr_2371 rfl ?_
  exact kk

set_option maxRecDepth 100000 in
theorem x_c53a (h : xH) (L : Nat) (xs : Nat → Int32) (i : Int32) (h0 : ¬ (i < 0 ∨ L ≤ (i).toNatClampNeg)) (h1 : ¬ (i + 1 < 0 ∨ L ≤ (i + 1).toNatClampNeg)) (h2 : ¬ (i + 2 < 0 ∨ L ≤ (i + 2).toNatClampNeg)) (h3 : ¬ (i + 3 < 0 ∨ L ≤ (i + 3).toNatClampNeg)) (h4 : ¬ (i + 4 < 0 ∨ L ≤ (i + 4).toNatClampNeg)) (h5 : ¬ (i + 5 < 0 ∨ L ≤ (i + 5).toNatClampNeg)) {P : Option Value × xH × Nat × Nat → Prop} (kk : x_R x_mt (some (L, xs)) 10 M_law (1758, [(3, .int i), (2, .ref 75), (1, .ref 0), (0, .ref x_scr)], [.ref 0], h, 98, 10728) P) : x_R x_mt (some (L, xs)) 10 M_law (1757, [(3, .int i), (2, .ref 75), (1, .ref 0), (0, .ref x_scr)], [], h, 98, 10728) P := by
  refine j_Lst (c' := (1758, [(3, .int i), (2, .ref 75), (1, .ref 0), (0, .ref x_scr)], [.ref 0], h, 98, 10728)) lr_1757 rfl ?_
  exact kk

set_option maxRecDepth 100000 in
theorem x_c53b (h : xH) (L : Nat) (xs : Nat → Int32) (i : Int32) (h0 : ¬ (i < 0 ∨ L ≤ (i).toNatClampNeg)) (h1 : ¬ (i + 1 < 0 ∨ L ≤ (i + 1).toNatClampNeg)) (h2 : ¬ (i + 2 < 0 ∨ L ≤ (i + 2).toNatClampNeg)) (h3 : ¬ (i + 3 < 0 ∨ L ≤ (i + 3).toNatClampNeg)) (h4 : ¬ (i + 4 < 0 ∨ L ≤ (i + 4).toNatClampNeg)) (h5 : ¬ (i + 5 < 0 ∨ L ≤ (i + 5).toNatClampNeg)) (v : Int32) {P : Option Value × xH × Nat × Nat → Prop} (kk : x_R x_mt (some (L, xs)) 10 M_law (1763, [(3, .int i), (2, .ref 75), (1, .ref 0), (0, .ref x_scr)], [.ref 75], h, 98, 10728) P) : x_R x_mt (some (L, xs)) 10 M_law (1761, [(3, .int i), (2, .ref 75), (1, .ref 0), (0, .ref x_scr)], [.int v], h, 98, 10728) P := by
  refine j_Lst (c' := (1762, [(3, .int i), (2, .ref 75), (1, .ref 0), (0, .ref x_scr)], [], h, 98, 10728)) lr_1761 rfl ?_
  refine j_Lst (c' := (1763, [(3, .int i), (2, .ref 75), (1, .ref 0), (0, .ref x_scr)], [.ref 75], h, 98, 10728)) lr_1762 rfl ?_
  exact kk

set_option maxRecDepth 100000 in
theorem x_c53d (h : xH) (L : Nat) (xs : Nat → Int32) (i : Int32) (h0 : ¬ (i < 0 ∨ L ≤ (i).toNatClampNeg)) (h1 : ¬ (i + 1 < 0 ∨ L ≤ (i + 1).toNatClampNeg)) (h2 : ¬ (i + 2 < 0 ∨ L ≤ (i + 2).toNatClampNeg)) (h3 : ¬ (i + 3 < 0 ∨ L ≤ (i + 3).toNatClampNeg)) (h4 : ¬ (i + 4 < 0 ∨ L ≤ (i + 4).toNatClampNeg)) (h5 : ¬ (i + 5 < 0 ∨ L ≤ (i + 5).toNatClampNeg)) (w : Int32) {P : Option Value × xH × Nat × Nat → Prop} (kk : x_R x_mt (some (L, xs)) 10 M_law (18, [(3, .int (i + Int32.ofInt (6))), (2, .ref 75), (1, .ref 0), (0, .ref x_scr)], [], h, 98, 10728) P) : x_R x_mt (some (L, xs)) 10 M_law (1766, [(3, .int i), (2, .ref 75), (1, .ref 0), (0, .ref x_scr)], [.int w], h, 98, 10728) P := by
  refine j_Lst (c' := (1767, [(3, .int i), (2, .ref 75), (1, .ref 0), (0, .ref x_scr)], [], h, 98, 10728)) lr_1766 rfl ?_
  refine j_Lst (c' := (2368, [(3, .int i), (2, .ref 75), (1, .ref 0), (0, .ref x_scr)], [], h, 98, 10728)) lr_1767 rfl ?_
  refine j_Lst (c' := (2371, [(3, .int (i + Int32.ofInt (6))), (2, .ref 75), (1, .ref 0), (0, .ref x_scr)], [], h, 98, 10728)) lr_2368 rfl ?_
  refine j_Lst (c' := (18, [(3, .int (i + Int32.ofInt (6))), (2, .ref 75), (1, .ref 0), (0, .ref x_scr)], [], h, 98, 10728)) lr_2371 rfl ?_
  exact kk

set_option maxRecDepth 100000 in
theorem x_c54a (h : xH) (L : Nat) (xs : Nat → Int32) (i : Int32) (h0 : ¬ (i < 0 ∨ L ≤ (i).toNatClampNeg)) (h1 : ¬ (i + 1 < 0 ∨ L ≤ (i + 1).toNatClampNeg)) (h2 : ¬ (i + 2 < 0 ∨ L ≤ (i + 2).toNatClampNeg)) (h3 : ¬ (i + 3 < 0 ∨ L ≤ (i + 3).toNatClampNeg)) (h4 : ¬ (i + 4 < 0 ∨ L ≤ (i + 4).toNatClampNeg)) (h5 : ¬ (i + 5 < 0 ∨ L ≤ (i + 5).toNatClampNeg)) {P : Option Value × xH × Nat × Nat → Prop} (kk : x_R x_mt (some (L, xs)) 10 M_law (1776, [(3, .int i), (2, .ref 75), (1, .ref 0), (0, .ref x_scr)], [.int (xs ((i + 1)).toNatClampNeg), .ref 0], h, 98, 10728) P) : x_R x_mt (some (L, xs)) 10 M_law (1770, [(3, .int i), (2, .ref 75), (1, .ref 0), (0, .ref x_scr)], [], h, 98, 10728) P := by
  refine j_Lst (c' := (1771, [(3, .int i), (2, .ref 75), (1, .ref 0), (0, .ref x_scr)], [.ref 0], h, 98, 10728)) lr_1770 rfl ?_
  refine j_Lst (c' := (1772, [(3, .int i), (2, .ref 75), (1, .ref 0), (0, .ref x_scr)], [.ref x_scr, .ref 0], h, 98, 10728)) lr_1771 rfl ?_
  refine j_Lst (c' := (1773, [(3, .int i), (2, .ref 75), (1, .ref 0), (0, .ref x_scr)], [.int i, .ref x_scr, .ref 0], h, 98, 10728)) lr_1772 rfl ?_
  refine j_Lst (c' := (1774, [(3, .int i), (2, .ref 75), (1, .ref 0), (0, .ref x_scr)], [.int 1, .int i, .ref x_scr, .ref 0], h, 98, 10728)) lr_1773 rfl ?_
  refine j_Lst (c' := (1775, [(3, .int i), (2, .ref 75), (1, .ref 0), (0, .ref x_scr)], [.int (i + 1), .ref x_scr, .ref 0], h, 98, 10728)) lr_1774 rfl ?_
  refine j_Lsl (c' := (1776, [(3, .int i), (2, .ref 75), (1, .ref 0), (0, .ref x_scr)], [.int (xs ((i + 1)).toNatClampNeg), .ref 0], h, 98, 10728)) lr_1775 rfl h1 ?_
  exact kk

set_option maxRecDepth 100000 in
theorem x_c54b (h : xH) (L : Nat) (xs : Nat → Int32) (i : Int32) (h0 : ¬ (i < 0 ∨ L ≤ (i).toNatClampNeg)) (h1 : ¬ (i + 1 < 0 ∨ L ≤ (i + 1).toNatClampNeg)) (h2 : ¬ (i + 2 < 0 ∨ L ≤ (i + 2).toNatClampNeg)) (h3 : ¬ (i + 3 < 0 ∨ L ≤ (i + 3).toNatClampNeg)) (h4 : ¬ (i + 4 < 0 ∨ L ≤ (i + 4).toNatClampNeg)) (h5 : ¬ (i + 5 < 0 ∨ L ≤ (i + 5).toNatClampNeg)) (v : Int32) {P : Option Value × xH × Nat × Nat → Prop} (kk : x_R x_mt (some (L, xs)) 10 M_law (1786, [(3, .int i), (2, .ref 75), (1, .ref 0), (0, .ref x_scr)], [.int (xs ((i + 1)).toNatClampNeg), .ref 75], h, 98, 10728) P) : x_R x_mt (some (L, xs)) 10 M_law (1779, [(3, .int i), (2, .ref 75), (1, .ref 0), (0, .ref x_scr)], [.int v], h, 98, 10728) P := by
  refine j_Lst (c' := (1780, [(3, .int i), (2, .ref 75), (1, .ref 0), (0, .ref x_scr)], [], h, 98, 10728)) lr_1779 rfl ?_
  refine j_Lst (c' := (1781, [(3, .int i), (2, .ref 75), (1, .ref 0), (0, .ref x_scr)], [.ref 75], h, 98, 10728)) lr_1780 rfl ?_
  refine j_Lst (c' := (1782, [(3, .int i), (2, .ref 75), (1, .ref 0), (0, .ref x_scr)], [.ref x_scr, .ref 75], h, 98, 10728)) lr_1781 rfl ?_
  refine j_Lst (c' := (1783, [(3, .int i), (2, .ref 75), (1, .ref 0), (0, .ref x_scr)], [.int i, .ref x_scr, .ref 75], h, 98, 10728)) lr_1782 rfl ?_
  refine j_Lst (c' := (1784, [(3, .int i), (2, .ref 75), (1, .ref 0), (0, .ref x_scr)], [.int 1, .int i, .ref x_scr, .ref 75], h, 98, 10728)) lr_1783 rfl ?_
  refine j_Lst (c' := (1785, [(3, .int i), (2, .ref 75), (1, .ref 0), (0, .ref x_scr)], [.int (i + 1), .ref x_scr, .ref 75], h, 98, 10728)) lr_1784 rfl ?_
  refine j_Lsl (c' := (1786, [(3, .int i), (2, .ref 75), (1, .ref 0), (0, .ref x_scr)], [.int (xs ((i + 1)).toNatClampNeg), .ref 75], h, 98, 10728)) lr_1785 rfl h1 ?_
  exact kk

set_option maxRecDepth 100000 in
theorem x_c54d (h : xH) (L : Nat) (xs : Nat → Int32) (i : Int32) (h0 : ¬ (i < 0 ∨ L ≤ (i).toNatClampNeg)) (h1 : ¬ (i + 1 < 0 ∨ L ≤ (i + 1).toNatClampNeg)) (h2 : ¬ (i + 2 < 0 ∨ L ≤ (i + 2).toNatClampNeg)) (h3 : ¬ (i + 3 < 0 ∨ L ≤ (i + 3).toNatClampNeg)) (h4 : ¬ (i + 4 < 0 ∨ L ≤ (i + 4).toNatClampNeg)) (h5 : ¬ (i + 5 < 0 ∨ L ≤ (i + 5).toNatClampNeg)) (w : Int32) {P : Option Value × xH × Nat × Nat → Prop} (kk : x_R x_mt (some (L, xs)) 10 M_law (18, [(3, .int (i + Int32.ofInt (6))), (2, .ref 75), (1, .ref 0), (0, .ref x_scr)], [], h, 98, 10728) P) : x_R x_mt (some (L, xs)) 10 M_law (1789, [(3, .int i), (2, .ref 75), (1, .ref 0), (0, .ref x_scr)], [.int w], h, 98, 10728) P := by
  refine j_Lst (c' := (1790, [(3, .int i), (2, .ref 75), (1, .ref 0), (0, .ref x_scr)], [], h, 98, 10728)) lr_1789 rfl ?_
  refine j_Lst (c' := (2368, [(3, .int i), (2, .ref 75), (1, .ref 0), (0, .ref x_scr)], [], h, 98, 10728)) lr_1790 rfl ?_
  refine j_Lst (c' := (2371, [(3, .int (i + Int32.ofInt (6))), (2, .ref 75), (1, .ref 0), (0, .ref x_scr)], [], h, 98, 10728)) lr_2368 rfl ?_
  refine j_Lst (c' := (18, [(3, .int (i + Int32.ofInt (6))), (2, .ref 75), (1, .ref 0), (0, .ref x_scr)], [], h, 98, 10728)) lr_2371 rfl ?_
  exact kk

set_option maxRecDepth 100000 in
theorem x_c55a (h : xH) (L : Nat) (xs : Nat → Int32) (i : Int32) (h0 : ¬ (i < 0 ∨ L ≤ (i).toNatClampNeg)) (h1 : ¬ (i + 1 < 0 ∨ L ≤ (i + 1).toNatClampNeg)) (h2 : ¬ (i + 2 < 0 ∨ L ≤ (i + 2).toNatClampNeg)) (h3 : ¬ (i + 3 < 0 ∨ L ≤ (i + 3).toNatClampNeg)) (h4 : ¬ (i + 4 < 0 ∨ L ≤ (i + 4).toNatClampNeg)) (h5 : ¬ (i + 5 < 0 ∨ L ≤ (i + 5).toNatClampNeg)) {P : Option Value × xH × Nat × Nat → Prop} (kk : x_R x_mt (some (L, xs)) 10 M_law (1804, [(3, .int i), (2, .ref 75), (1, .ref 0), (0, .ref x_scr)], [.int (xs ((i + 2)).toNatClampNeg), .int (xs ((i + 1)).toNatClampNeg), .ref 0], h, 98, 10728) P) : x_R x_mt (some (L, xs)) 10 M_law (1793, [(3, .int i), (2, .ref 75), (1, .ref 0), (0, .ref x_scr)], [], h, 98, 10728) P := by
  refine j_Lst (c' := (1794, [(3, .int i), (2, .ref 75), (1, .ref 0), (0, .ref x_scr)], [.ref 0], h, 98, 10728)) lr_1793 rfl ?_
  refine j_Lst (c' := (1795, [(3, .int i), (2, .ref 75), (1, .ref 0), (0, .ref x_scr)], [.ref x_scr, .ref 0], h, 98, 10728)) lr_1794 rfl ?_
  refine j_Lst (c' := (1796, [(3, .int i), (2, .ref 75), (1, .ref 0), (0, .ref x_scr)], [.int i, .ref x_scr, .ref 0], h, 98, 10728)) lr_1795 rfl ?_
  refine j_Lst (c' := (1797, [(3, .int i), (2, .ref 75), (1, .ref 0), (0, .ref x_scr)], [.int 1, .int i, .ref x_scr, .ref 0], h, 98, 10728)) lr_1796 rfl ?_
  refine j_Lst (c' := (1798, [(3, .int i), (2, .ref 75), (1, .ref 0), (0, .ref x_scr)], [.int (i + 1), .ref x_scr, .ref 0], h, 98, 10728)) lr_1797 rfl ?_
  refine j_Lsl (c' := (1799, [(3, .int i), (2, .ref 75), (1, .ref 0), (0, .ref x_scr)], [.int (xs ((i + 1)).toNatClampNeg), .ref 0], h, 98, 10728)) lr_1798 rfl h1 ?_
  refine j_Lst (c' := (1800, [(3, .int i), (2, .ref 75), (1, .ref 0), (0, .ref x_scr)], [.ref x_scr, .int (xs ((i + 1)).toNatClampNeg), .ref 0], h, 98, 10728)) lr_1799 rfl ?_
  refine j_Lst (c' := (1801, [(3, .int i), (2, .ref 75), (1, .ref 0), (0, .ref x_scr)], [.int i, .ref x_scr, .int (xs ((i + 1)).toNatClampNeg), .ref 0], h, 98, 10728)) lr_1800 rfl ?_
  refine j_Lst (c' := (1802, [(3, .int i), (2, .ref 75), (1, .ref 0), (0, .ref x_scr)], [.int 2, .int i, .ref x_scr, .int (xs ((i + 1)).toNatClampNeg), .ref 0], h, 98, 10728)) lr_1801 rfl ?_
  refine j_Lst (c' := (1803, [(3, .int i), (2, .ref 75), (1, .ref 0), (0, .ref x_scr)], [.int (i + 2), .ref x_scr, .int (xs ((i + 1)).toNatClampNeg), .ref 0], h, 98, 10728)) lr_1802 rfl ?_
  refine j_Lsl (c' := (1804, [(3, .int i), (2, .ref 75), (1, .ref 0), (0, .ref x_scr)], [.int (xs ((i + 2)).toNatClampNeg), .int (xs ((i + 1)).toNatClampNeg), .ref 0], h, 98, 10728)) lr_1803 rfl h2 ?_
  exact kk

set_option maxRecDepth 100000 in
theorem x_c55b (h : xH) (L : Nat) (xs : Nat → Int32) (i : Int32) (h0 : ¬ (i < 0 ∨ L ≤ (i).toNatClampNeg)) (h1 : ¬ (i + 1 < 0 ∨ L ≤ (i + 1).toNatClampNeg)) (h2 : ¬ (i + 2 < 0 ∨ L ≤ (i + 2).toNatClampNeg)) (h3 : ¬ (i + 3 < 0 ∨ L ≤ (i + 3).toNatClampNeg)) (h4 : ¬ (i + 4 < 0 ∨ L ≤ (i + 4).toNatClampNeg)) (h5 : ¬ (i + 5 < 0 ∨ L ≤ (i + 5).toNatClampNeg)) (v : Int32) {P : Option Value × xH × Nat × Nat → Prop} (kk : x_R x_mt (some (L, xs)) 10 M_law (1819, [(3, .int i), (2, .ref 75), (1, .ref 0), (0, .ref x_scr)], [.int (xs ((i + 2)).toNatClampNeg), .int (xs ((i + 1)).toNatClampNeg), .ref 75], h, 98, 10728) P) : x_R x_mt (some (L, xs)) 10 M_law (1807, [(3, .int i), (2, .ref 75), (1, .ref 0), (0, .ref x_scr)], [.int v], h, 98, 10728) P := by
  refine j_Lst (c' := (1808, [(3, .int i), (2, .ref 75), (1, .ref 0), (0, .ref x_scr)], [], h, 98, 10728)) lr_1807 rfl ?_
  refine j_Lst (c' := (1809, [(3, .int i), (2, .ref 75), (1, .ref 0), (0, .ref x_scr)], [.ref 75], h, 98, 10728)) lr_1808 rfl ?_
  refine j_Lst (c' := (1810, [(3, .int i), (2, .ref 75), (1, .ref 0), (0, .ref x_scr)], [.ref x_scr, .ref 75], h, 98, 10728)) lr_1809 rfl ?_
  refine j_Lst (c' := (1811, [(3, .int i), (2, .ref 75), (1, .ref 0), (0, .ref x_scr)], [.int i, .ref x_scr, .ref 75], h, 98, 10728)) lr_1810 rfl ?_
  refine j_Lst (c' := (1812, [(3, .int i), (2, .ref 75), (1, .ref 0), (0, .ref x_scr)], [.int 1, .int i, .ref x_scr, .ref 75], h, 98, 10728)) lr_1811 rfl ?_
  refine j_Lst (c' := (1813, [(3, .int i), (2, .ref 75), (1, .ref 0), (0, .ref x_scr)], [.int (i + 1), .ref x_scr, .ref 75], h, 98, 10728)) lr_1812 rfl ?_
  refine j_Lsl (c' := (1814, [(3, .int i), (2, .ref 75), (1, .ref 0), (0, .ref x_scr)], [.int (xs ((i + 1)).toNatClampNeg), .ref 75], h, 98, 10728)) lr_1813 rfl h1 ?_
  refine j_Lst (c' := (1815, [(3, .int i), (2, .ref 75), (1, .ref 0), (0, .ref x_scr)], [.ref x_scr, .int (xs ((i + 1)).toNatClampNeg), .ref 75], h, 98, 10728)) lr_1814 rfl ?_
  refine j_Lst (c' := (1816, [(3, .int i), (2, .ref 75), (1, .ref 0), (0, .ref x_scr)], [.int i, .ref x_scr, .int (xs ((i + 1)).toNatClampNeg), .ref 75], h, 98, 10728)) lr_1815 rfl ?_
  refine j_Lst (c' := (1817, [(3, .int i), (2, .ref 75), (1, .ref 0), (0, .ref x_scr)], [.int 2, .int i, .ref x_scr, .int (xs ((i + 1)).toNatClampNeg), .ref 75], h, 98, 10728)) lr_1816 rfl ?_
  refine j_Lst (c' := (1818, [(3, .int i), (2, .ref 75), (1, .ref 0), (0, .ref x_scr)], [.int (i + 2), .ref x_scr, .int (xs ((i + 1)).toNatClampNeg), .ref 75], h, 98, 10728)) lr_1817 rfl ?_
  refine j_Lsl (c' := (1819, [(3, .int i), (2, .ref 75), (1, .ref 0), (0, .ref x_scr)], [.int (xs ((i + 2)).toNatClampNeg), .int (xs ((i + 1)).toNatClampNeg), .ref 75], h, 98, 10728)) lr_1818 rfl h2 ?_
  exact kk

set_option maxRecDepth 100000 in
theorem x_c55d (h : xH) (L : Nat) (xs : Nat → Int32) (i : Int32) (h0 : ¬ (i < 0 ∨ L ≤ (i).toNatClampNeg)) (h1 : ¬ (i + 1 < 0 ∨ L ≤ (i + 1).toNatClampNeg)) (h2 : ¬ (i + 2 < 0 ∨ L ≤ (i + 2).toNatClampNeg)) (h3 : ¬ (i + 3 < 0 ∨ L ≤ (i + 3).toNatClampNeg)) (h4 : ¬ (i + 4 < 0 ∨ L ≤ (i + 4).toNatClampNeg)) (h5 : ¬ (i + 5 < 0 ∨ L ≤ (i + 5).toNatClampNeg)) (w : Int32) {P : Option Value × xH × Nat × Nat → Prop} (kk : x_R x_mt (some (L, xs)) 10 M_law (18, [(3, .int (i + Int32.ofInt (6))), (2, .ref 75), (1, .ref 0), (0, .ref x_scr)], [], h, 98, 10728) P) : x_R x_mt (some (L, xs)) 10 M_law (1822, [(3, .int i), (2, .ref 75), (1, .ref 0), (0, .ref x_scr)], [.int w], h, 98, 10728) P := by
  refine j_Lst (c' := (1823, [(3, .int i), (2, .ref 75), (1, .ref 0), (0, .ref x_scr)], [], h, 98, 10728)) lr_1822 rfl ?_
  refine j_Lst (c' := (2368, [(3, .int i), (2, .ref 75), (1, .ref 0), (0, .ref x_scr)], [], h, 98, 10728)) lr_1823 rfl ?_
  refine j_Lst (c' := (2371, [(3, .int (i + Int32.ofInt (6))), (2, .ref 75), (1, .ref 0), (0, .ref x_scr)], [], h, 98, 10728)) lr_2368 rfl ?_
  refine j_Lst (c' := (18, [(3, .int (i + Int32.ofInt (6))), (2, .ref 75), (1, .ref 0), (0, .ref x_scr)], [], h, 98, 10728)) lr_2371 rfl ?_
  exact kk

set_option maxRecDepth 100000 in
theorem x_c56a (h : xH) (L : Nat) (xs : Nat → Int32) (i : Int32) (h0 : ¬ (i < 0 ∨ L ≤ (i).toNatClampNeg)) (h1 : ¬ (i + 1 < 0 ∨ L ≤ (i + 1).toNatClampNeg)) (h2 : ¬ (i + 2 < 0 ∨ L ≤ (i + 2).toNatClampNeg)) (h3 : ¬ (i + 3 < 0 ∨ L ≤ (i + 3).toNatClampNeg)) (h4 : ¬ (i + 4 < 0 ∨ L ≤ (i + 4).toNatClampNeg)) (h5 : ¬ (i + 5 < 0 ∨ L ≤ (i + 5).toNatClampNeg)) {P : Option Value × xH × Nat × Nat → Prop} (kk : x_R x_mt (some (L, xs)) 10 M_law (1837, [(3, .int i), (2, .ref 75), (1, .ref 0), (0, .ref x_scr)], [.int (xs ((i + 2)).toNatClampNeg), .int (xs ((i + 1)).toNatClampNeg), .ref 0], h, 98, 10728) P) : x_R x_mt (some (L, xs)) 10 M_law (1826, [(3, .int i), (2, .ref 75), (1, .ref 0), (0, .ref x_scr)], [], h, 98, 10728) P := by
  refine j_Lst (c' := (1827, [(3, .int i), (2, .ref 75), (1, .ref 0), (0, .ref x_scr)], [.ref 0], h, 98, 10728)) lr_1826 rfl ?_
  refine j_Lst (c' := (1828, [(3, .int i), (2, .ref 75), (1, .ref 0), (0, .ref x_scr)], [.ref x_scr, .ref 0], h, 98, 10728)) lr_1827 rfl ?_
  refine j_Lst (c' := (1829, [(3, .int i), (2, .ref 75), (1, .ref 0), (0, .ref x_scr)], [.int i, .ref x_scr, .ref 0], h, 98, 10728)) lr_1828 rfl ?_
  refine j_Lst (c' := (1830, [(3, .int i), (2, .ref 75), (1, .ref 0), (0, .ref x_scr)], [.int 1, .int i, .ref x_scr, .ref 0], h, 98, 10728)) lr_1829 rfl ?_
  refine j_Lst (c' := (1831, [(3, .int i), (2, .ref 75), (1, .ref 0), (0, .ref x_scr)], [.int (i + 1), .ref x_scr, .ref 0], h, 98, 10728)) lr_1830 rfl ?_
  refine j_Lsl (c' := (1832, [(3, .int i), (2, .ref 75), (1, .ref 0), (0, .ref x_scr)], [.int (xs ((i + 1)).toNatClampNeg), .ref 0], h, 98, 10728)) lr_1831 rfl h1 ?_
  refine j_Lst (c' := (1833, [(3, .int i), (2, .ref 75), (1, .ref 0), (0, .ref x_scr)], [.ref x_scr, .int (xs ((i + 1)).toNatClampNeg), .ref 0], h, 98, 10728)) lr_1832 rfl ?_
  refine j_Lst (c' := (1834, [(3, .int i), (2, .ref 75), (1, .ref 0), (0, .ref x_scr)], [.int i, .ref x_scr, .int (xs ((i + 1)).toNatClampNeg), .ref 0], h, 98, 10728)) lr_1833 rfl ?_
  refine j_Lst (c' := (1835, [(3, .int i), (2, .ref 75), (1, .ref 0), (0, .ref x_scr)], [.int 2, .int i, .ref x_scr, .int (xs ((i + 1)).toNatClampNeg), .ref 0], h, 98, 10728)) lr_1834 rfl ?_
  refine j_Lst (c' := (1836, [(3, .int i), (2, .ref 75), (1, .ref 0), (0, .ref x_scr)], [.int (i + 2), .ref x_scr, .int (xs ((i + 1)).toNatClampNeg), .ref 0], h, 98, 10728)) lr_1835 rfl ?_
  refine j_Lsl (c' := (1837, [(3, .int i), (2, .ref 75), (1, .ref 0), (0, .ref x_scr)], [.int (xs ((i + 2)).toNatClampNeg), .int (xs ((i + 1)).toNatClampNeg), .ref 0], h, 98, 10728)) lr_1836 rfl h2 ?_
  exact kk

set_option maxRecDepth 100000 in
theorem x_c56b (h : xH) (L : Nat) (xs : Nat → Int32) (i : Int32) (h0 : ¬ (i < 0 ∨ L ≤ (i).toNatClampNeg)) (h1 : ¬ (i + 1 < 0 ∨ L ≤ (i + 1).toNatClampNeg)) (h2 : ¬ (i + 2 < 0 ∨ L ≤ (i + 2).toNatClampNeg)) (h3 : ¬ (i + 3 < 0 ∨ L ≤ (i + 3).toNatClampNeg)) (h4 : ¬ (i + 4 < 0 ∨ L ≤ (i + 4).toNatClampNeg)) (h5 : ¬ (i + 5 < 0 ∨ L ≤ (i + 5).toNatClampNeg)) (v : Int32) {P : Option Value × xH × Nat × Nat → Prop} (kk : x_R x_mt (some (L, xs)) 10 M_law (1852, [(3, .int i), (2, .ref 75), (1, .ref 0), (0, .ref x_scr)], [.int (xs ((i + 2)).toNatClampNeg), .int (xs ((i + 1)).toNatClampNeg), .ref 75], h, 98, 10728) P) : x_R x_mt (some (L, xs)) 10 M_law (1840, [(3, .int i), (2, .ref 75), (1, .ref 0), (0, .ref x_scr)], [.int v], h, 98, 10728) P := by
  refine j_Lst (c' := (1841, [(3, .int i), (2, .ref 75), (1, .ref 0), (0, .ref x_scr)], [], h, 98, 10728)) lr_1840 rfl ?_
  refine j_Lst (c' := (1842, [(3, .int i), (2, .ref 75), (1, .ref 0), (0, .ref x_scr)], [.ref 75], h, 98, 10728)) lr_1841 rfl ?_
  refine j_Lst (c' := (1843, [(3, .int i), (2, .ref 75), (1, .ref 0), (0, .ref x_scr)], [.ref x_scr, .ref 75], h, 98, 10728)) lr_1842 rfl ?_
  refine j_Lst (c' := (1844, [(3, .int i), (2, .ref 75), (1, .ref 0), (0, .ref x_scr)], [.int i, .ref x_scr, .ref 75], h, 98, 10728)) lr_1843 rfl ?_
  refine j_Lst (c' := (1845, [(3, .int i), (2, .ref 75), (1, .ref 0), (0, .ref x_scr)], [.int 1, .int i, .ref x_scr, .ref 75], h, 98, 10728)) lr_1844 rfl ?_
  refine j_Lst (c' := (1846, [(3, .int i), (2, .ref 75), (1, .ref 0), (0, .ref x_scr)], [.int (i + 1), .ref x_scr, .ref 75], h, 98, 10728)) lr_1845 rfl ?_
  refine j_Lsl (c' := (1847, [(3, .int i), (2, .ref 75), (1, .ref 0), (0, .ref x_scr)], [.int (xs ((i + 1)).toNatClampNeg), .ref 75], h, 98, 10728)) lr_1846 rfl h1 ?_
  refine j_Lst (c' := (1848, [(3, .int i), (2, .ref 75), (1, .ref 0), (0, .ref x_scr)], [.ref x_scr, .int (xs ((i + 1)).toNatClampNeg), .ref 75], h, 98, 10728)) lr_1847 rfl ?_
  refine j_Lst (c' := (1849, [(3, .int i), (2, .ref 75), (1, .ref 0), (0, .ref x_scr)], [.int i, .ref x_scr, .int (xs ((i + 1)).toNatClampNeg), .ref 75], h, 98, 10728)) lr_1848 rfl ?_
  refine j_Lst (c' := (1850, [(3, .int i), (2, .ref 75), (1, .ref 0), (0, .ref x_scr)], [.int 2, .int i, .ref x_scr, .int (xs ((i + 1)).toNatClampNeg), .ref 75], h, 98, 10728)) lr_1849 rfl ?_
  refine j_Lst (c' := (1851, [(3, .int i), (2, .ref 75), (1, .ref 0), (0, .ref x_scr)], [.int (i + 2), .ref x_scr, .int (xs ((i + 1)).toNatClampNeg), .ref 75], h, 98, 10728)) lr_1850 rfl ?_
  refine j_Lsl (c' := (1852, [(3, .int i), (2, .ref 75), (1, .ref 0), (0, .ref x_scr)], [.int (xs ((i + 2)).toNatClampNeg), .int (xs ((i + 1)).toNatClampNeg), .ref 75], h, 98, 10728)) lr_1851 rfl h2 ?_
  exact kk

set_option maxRecDepth 100000 in
theorem x_c56d (h : xH) (L : Nat) (xs : Nat → Int32) (i : Int32) (h0 : ¬ (i < 0 ∨ L ≤ (i).toNatClampNeg)) (h1 : ¬ (i + 1 < 0 ∨ L ≤ (i + 1).toNatClampNeg)) (h2 : ¬ (i + 2 < 0 ∨ L ≤ (i + 2).toNatClampNeg)) (h3 : ¬ (i + 3 < 0 ∨ L ≤ (i + 3).toNatClampNeg)) (h4 : ¬ (i + 4 < 0 ∨ L ≤ (i + 4).toNatClampNeg)) (h5 : ¬ (i + 5 < 0 ∨ L ≤ (i + 5).toNatClampNeg)) (w : Int32) {P : Option Value × xH × Nat × Nat → Prop} (kk : x_R x_mt (some (L, xs)) 10 M_law (18, [(3, .int (i + Int32.ofInt (6))), (2, .ref 75), (1, .ref 0), (0, .ref x_scr)], [], h, 98, 10728) P) : x_R x_mt (some (L, xs)) 10 M_law (1855, [(3, .int i), (2, .ref 75), (1, .ref 0), (0, .ref x_scr)], [.int w], h, 98, 10728) P := by
  refine j_Lst (c' := (1856, [(3, .int i), (2, .ref 75), (1, .ref 0), (0, .ref x_scr)], [], h, 98, 10728)) lr_1855 rfl ?_
  refine j_Lst (c' := (2368, [(3, .int i), (2, .ref 75), (1, .ref 0), (0, .ref x_scr)], [], h, 98, 10728)) lr_1856 rfl ?_
  refine j_Lst (c' := (2371, [(3, .int (i + Int32.ofInt (6))), (2, .ref 75), (1, .ref 0), (0, .ref x_scr)], [], h, 98, 10728)) lr_2368 rfl ?_
  refine j_Lst (c' := (18, [(3, .int (i + Int32.ofInt (6))), (2, .ref 75), (1, .ref 0), (0, .ref x_scr)], [], h, 98, 10728)) lr_2371 rfl ?_
  exact kk

set_option maxRecDepth 100000 in
theorem x_c57a (h : xH) (L : Nat) (xs : Nat → Int32) (i : Int32) (h0 : ¬ (i < 0 ∨ L ≤ (i).toNatClampNeg)) (h1 : ¬ (i + 1 < 0 ∨ L ≤ (i + 1).toNatClampNeg)) (h2 : ¬ (i + 2 < 0 ∨ L ≤ (i + 2).toNatClampNeg)) (h3 : ¬ (i + 3 < 0 ∨ L ≤ (i + 3).toNatClampNeg)) (h4 : ¬ (i + 4 < 0 ∨ L ≤ (i + 4).toNatClampNeg)) (h5 : ¬ (i + 5 < 0 ∨ L ≤ (i + 5).toNatClampNeg)) {P : Option Value × xH × Nat × Nat → Prop} (kk : x_R x_mt (some (L, xs)) 10 M_law (1865, [(3, .int i), (2, .ref 75), (1, .ref 0), (0, .ref x_scr)], [.int (xs ((i + 1)).toNatClampNeg), .ref 0], h, 98, 10728) P) : x_R x_mt (some (L, xs)) 10 M_law (1859, [(3, .int i), (2, .ref 75), (1, .ref 0), (0, .ref x_scr)], [], h, 98, 10728) P := by
  refine j_Lst (c' := (1860, [(3, .int i), (2, .ref 75), (1, .ref 0), (0, .ref x_scr)], [.ref 0], h, 98, 10728)) lr_1859 rfl ?_
  refine j_Lst (c' := (1861, [(3, .int i), (2, .ref 75), (1, .ref 0), (0, .ref x_scr)], [.ref x_scr, .ref 0], h, 98, 10728)) lr_1860 rfl ?_
  refine j_Lst (c' := (1862, [(3, .int i), (2, .ref 75), (1, .ref 0), (0, .ref x_scr)], [.int i, .ref x_scr, .ref 0], h, 98, 10728)) lr_1861 rfl ?_
  refine j_Lst (c' := (1863, [(3, .int i), (2, .ref 75), (1, .ref 0), (0, .ref x_scr)], [.int 1, .int i, .ref x_scr, .ref 0], h, 98, 10728)) lr_1862 rfl ?_
  refine j_Lst (c' := (1864, [(3, .int i), (2, .ref 75), (1, .ref 0), (0, .ref x_scr)], [.int (i + 1), .ref x_scr, .ref 0], h, 98, 10728)) lr_1863 rfl ?_
  refine j_Lsl (c' := (1865, [(3, .int i), (2, .ref 75), (1, .ref 0), (0, .ref x_scr)], [.int (xs ((i + 1)).toNatClampNeg), .ref 0], h, 98, 10728)) lr_1864 rfl h1 ?_
  exact kk

set_option maxRecDepth 100000 in
theorem x_c57b (h : xH) (L : Nat) (xs : Nat → Int32) (i : Int32) (h0 : ¬ (i < 0 ∨ L ≤ (i).toNatClampNeg)) (h1 : ¬ (i + 1 < 0 ∨ L ≤ (i + 1).toNatClampNeg)) (h2 : ¬ (i + 2 < 0 ∨ L ≤ (i + 2).toNatClampNeg)) (h3 : ¬ (i + 3 < 0 ∨ L ≤ (i + 3).toNatClampNeg)) (h4 : ¬ (i + 4 < 0 ∨ L ≤ (i + 4).toNatClampNeg)) (h5 : ¬ (i + 5 < 0 ∨ L ≤ (i + 5).toNatClampNeg)) (v : Int32) {P : Option Value × xH × Nat × Nat → Prop} (kk : x_R x_mt (some (L, xs)) 10 M_law (1875, [(3, .int i), (2, .ref 75), (1, .ref 0), (0, .ref x_scr)], [.int (xs ((i + 1)).toNatClampNeg), .ref 75], h, 98, 10728) P) : x_R x_mt (some (L, xs)) 10 M_law (1868, [(3, .int i), (2, .ref 75), (1, .ref 0), (0, .ref x_scr)], [.int v], h, 98, 10728) P := by
  refine j_Lst (c' := (1869, [(3, .int i), (2, .ref 75), (1, .ref 0), (0, .ref x_scr)], [], h, 98, 10728)) lr_1868 rfl ?_
  refine j_Lst (c' := (1870, [(3, .int i), (2, .ref 75), (1, .ref 0), (0, .ref x_scr)], [.ref 75], h, 98, 10728)) lr_1869 rfl ?_
  refine j_Lst (c' := (1871, [(3, .int i), (2, .ref 75), (1, .ref 0), (0, .ref x_scr)], [.ref x_scr, .ref 75], h, 98, 10728)) lr_1870 rfl ?_
  refine j_Lst (c' := (1872, [(3, .int i), (2, .ref 75), (1, .ref 0), (0, .ref x_scr)], [.int i, .ref x_scr, .ref 75], h, 98, 10728)) lr_1871 rfl ?_
  refine j_Lst (c' := (1873, [(3, .int i), (2, .ref 75), (1, .ref 0), (0, .ref x_scr)], [.int 1, .int i, .ref x_scr, .ref 75], h, 98, 10728)) lr_1872 rfl ?_
  refine j_Lst (c' := (1874, [(3, .int i), (2, .ref 75), (1, .ref 0), (0, .ref x_scr)], [.int (i + 1), .ref x_scr, .ref 75], h, 98, 10728)) lr_1873 rfl ?_
  refine j_Lsl (c' := (1875, [(3, .int i), (2, .ref 75), (1, .ref 0), (0, .ref x_scr)], [.int (xs ((i + 1)).toNatClampNeg), .ref 75], h, 98, 10728)) lr_1874 rfl h1 ?_
  exact kk

set_option maxRecDepth 100000 in
theorem x_c57d (h : xH) (L : Nat) (xs : Nat → Int32) (i : Int32) (h0 : ¬ (i < 0 ∨ L ≤ (i).toNatClampNeg)) (h1 : ¬ (i + 1 < 0 ∨ L ≤ (i + 1).toNatClampNeg)) (h2 : ¬ (i + 2 < 0 ∨ L ≤ (i + 2).toNatClampNeg)) (h3 : ¬ (i + 3 < 0 ∨ L ≤ (i + 3).toNatClampNeg)) (h4 : ¬ (i + 4 < 0 ∨ L ≤ (i + 4).toNatClampNeg)) (h5 : ¬ (i + 5 < 0 ∨ L ≤ (i + 5).toNatClampNeg)) (w : Int32) {P : Option Value × xH × Nat × Nat → Prop} (kk : x_R x_mt (some (L, xs)) 10 M_law (18, [(3, .int (i + Int32.ofInt (6))), (2, .ref 75), (1, .ref 0), (0, .ref x_scr)], [], h, 98, 10728) P) : x_R x_mt (some (L, xs)) 10 M_law (1878, [(3, .int i), (2, .ref 75), (1, .ref 0), (0, .ref x_scr)], [.int w], h, 98, 10728) P := by
  refine j_Lst (c' := (1879, [(3, .int i), (2, .ref 75), (1, .ref 0), (0, .ref x_scr)], [], h, 98, 10728)) lr_1878 rfl ?_
  refine j_Lst (c' := (2368, [(3, .int i), (2, .ref 75), (1, .ref 0), (0, .ref x_scr)], [], h, 98, 10728)) lr_1879 rfl ?_
  refine j_Lst (c' := (2371, [(3, .int (i + Int32.ofInt (6))), (2, .ref 75), (1, .ref 0), (0, .ref x_scr)], [], h, 98, 10728)) lr_2368 rfl ?_
  refine j_Lst (c' := (18, [(3, .int (i + Int32.ofInt (6))), (2, .ref 75), (1, .ref 0), (0, .ref x_scr)], [], h, 98, 10728)) lr_2371 rfl ?_
  exact kk

set_option maxRecDepth 100000 in
theorem x_c58a (h : xH) (L : Nat) (xs : Nat → Int32) (i : Int32) (h0 : ¬ (i < 0 ∨ L ≤ (i).toNatClampNeg)) (h1 : ¬ (i + 1 < 0 ∨ L ≤ (i + 1).toNatClampNeg)) (h2 : ¬ (i + 2 < 0 ∨ L ≤ (i + 2).toNatClampNeg)) (h3 : ¬ (i + 3 < 0 ∨ L ≤ (i + 3).toNatClampNeg)) (h4 : ¬ (i + 4 < 0 ∨ L ≤ (i + 4).toNatClampNeg)) (h5 : ¬ (i + 5 < 0 ∨ L ≤ (i + 5).toNatClampNeg)) {P : Option Value × xH × Nat × Nat → Prop} (kk : x_R x_mt (some (L, xs)) 10 M_law (1888, [(3, .int i), (2, .ref 75), (1, .ref 0), (0, .ref x_scr)], [.int (xs ((i + 1)).toNatClampNeg), .ref 0], h, 98, 10728) P) : x_R x_mt (some (L, xs)) 10 M_law (1882, [(3, .int i), (2, .ref 75), (1, .ref 0), (0, .ref x_scr)], [], h, 98, 10728) P := by
  refine j_Lst (c' := (1883, [(3, .int i), (2, .ref 75), (1, .ref 0), (0, .ref x_scr)], [.ref 0], h, 98, 10728)) lr_1882 rfl ?_
  refine j_Lst (c' := (1884, [(3, .int i), (2, .ref 75), (1, .ref 0), (0, .ref x_scr)], [.ref x_scr, .ref 0], h, 98, 10728)) lr_1883 rfl ?_
  refine j_Lst (c' := (1885, [(3, .int i), (2, .ref 75), (1, .ref 0), (0, .ref x_scr)], [.int i, .ref x_scr, .ref 0], h, 98, 10728)) lr_1884 rfl ?_
  refine j_Lst (c' := (1886, [(3, .int i), (2, .ref 75), (1, .ref 0), (0, .ref x_scr)], [.int 1, .int i, .ref x_scr, .ref 0], h, 98, 10728)) lr_1885 rfl ?_
  refine j_Lst (c' := (1887, [(3, .int i), (2, .ref 75), (1, .ref 0), (0, .ref x_scr)], [.int (i + 1), .ref x_scr, .ref 0], h, 98, 10728)) lr_1886 rfl ?_
  refine j_Lsl (c' := (1888, [(3, .int i), (2, .ref 75), (1, .ref 0), (0, .ref x_scr)], [.int (xs ((i + 1)).toNatClampNeg), .ref 0], h, 98, 10728)) lr_1887 rfl h1 ?_
  exact kk

set_option maxRecDepth 100000 in
theorem x_c58b (h : xH) (L : Nat) (xs : Nat → Int32) (i : Int32) (h0 : ¬ (i < 0 ∨ L ≤ (i).toNatClampNeg)) (h1 : ¬ (i + 1 < 0 ∨ L ≤ (i + 1).toNatClampNeg)) (h2 : ¬ (i + 2 < 0 ∨ L ≤ (i + 2).toNatClampNeg)) (h3 : ¬ (i + 3 < 0 ∨ L ≤ (i + 3).toNatClampNeg)) (h4 : ¬ (i + 4 < 0 ∨ L ≤ (i + 4).toNatClampNeg)) (h5 : ¬ (i + 5 < 0 ∨ L ≤ (i + 5).toNatClampNeg)) (v : Int32) {P : Option Value × xH × Nat × Nat → Prop} (kk : x_R x_mt (some (L, xs)) 10 M_law (1897, [(3, .int i), (2, .ref 75), (1, .ref 0), (0, .ref x_scr)], [.int (xs ((i + 1)).toNatClampNeg), .ref 75, .int v], h, 98, 10728) P) : x_R x_mt (some (L, xs)) 10 M_law (1891, [(3, .int i), (2, .ref 75), (1, .ref 0), (0, .ref x_scr)], [.int v], h, 98, 10728) P := by
  refine j_Lst (c' := (1892, [(3, .int i), (2, .ref 75), (1, .ref 0), (0, .ref x_scr)], [.ref 75, .int v], h, 98, 10728)) lr_1891 rfl ?_
  refine j_Lst (c' := (1893, [(3, .int i), (2, .ref 75), (1, .ref 0), (0, .ref x_scr)], [.ref x_scr, .ref 75, .int v], h, 98, 10728)) lr_1892 rfl ?_
  refine j_Lst (c' := (1894, [(3, .int i), (2, .ref 75), (1, .ref 0), (0, .ref x_scr)], [.int i, .ref x_scr, .ref 75, .int v], h, 98, 10728)) lr_1893 rfl ?_
  refine j_Lst (c' := (1895, [(3, .int i), (2, .ref 75), (1, .ref 0), (0, .ref x_scr)], [.int 1, .int i, .ref x_scr, .ref 75, .int v], h, 98, 10728)) lr_1894 rfl ?_
  refine j_Lst (c' := (1896, [(3, .int i), (2, .ref 75), (1, .ref 0), (0, .ref x_scr)], [.int (i + 1), .ref x_scr, .ref 75, .int v], h, 98, 10728)) lr_1895 rfl ?_
  refine j_Lsl (c' := (1897, [(3, .int i), (2, .ref 75), (1, .ref 0), (0, .ref x_scr)], [.int (xs ((i + 1)).toNatClampNeg), .ref 75, .int v], h, 98, 10728)) lr_1896 rfl h1 ?_
  exact kk

set_option maxRecDepth 100000 in
theorem x_c58c (h : xH) (L : Nat) (xs : Nat → Int32) (i : Int32) (v : Int32) {P : Option Value × xH × Nat × Nat → Prop} (kk : x_R x_mt (some (L, xs)) 10 M_law (2368, [(3, .int i), (2, .ref 75), (1, .ref 0), (0, .ref x_scr)], [], h, 98, 10728) P) : x_R x_mt (some (L, xs)) 10 M_law (1900, [(3, .int i), (2, .ref 75), (1, .ref 0), (0, .ref x_scr)], [.int v, .int v], h, 98, 10728) P := by
  exact x_R.ite (p := v = v) (c1 := (2368, [(3, .int i), (2, .ref 75), (1, .ref 0), (0, .ref x_scr)], [], h, 98, 10728)) (c2 := (1903, [(3, .int i), (2, .ref 75), (1, .ref 0), (0, .ref x_scr)], [], h, 98, 10728)) rfl (fun _ => kk) (fun z => absurd rfl z)

set_option maxRecDepth 100000 in
theorem x_c58d (h : xH) (L : Nat) (xs : Nat → Int32) (i : Int32) (h0 : ¬ (i < 0 ∨ L ≤ (i).toNatClampNeg)) (h1 : ¬ (i + 1 < 0 ∨ L ≤ (i + 1).toNatClampNeg)) (h2 : ¬ (i + 2 < 0 ∨ L ≤ (i + 2).toNatClampNeg)) (h3 : ¬ (i + 3 < 0 ∨ L ≤ (i + 3).toNatClampNeg)) (h4 : ¬ (i + 4 < 0 ∨ L ≤ (i + 4).toNatClampNeg)) (h5 : ¬ (i + 5 < 0 ∨ L ≤ (i + 5).toNatClampNeg)) {P : Option Value × xH × Nat × Nat → Prop} (kk : x_R x_mt (some (L, xs)) 10 M_law (18, [(3, .int (i + Int32.ofInt (6))), (2, .ref 75), (1, .ref 0), (0, .ref x_scr)], [], h, 98, 10728) P) : x_R x_mt (some (L, xs)) 10 M_law (2368, [(3, .int i), (2, .ref 75), (1, .ref 0), (0, .ref x_scr)], [], h, 98, 10728) P := by
  refine j_Lst (c' := (2371, [(3, .int (i + Int32.ofInt (6))), (2, .ref 75), (1, .ref 0), (0, .ref x_scr)], [], h, 98, 10728)) lr_2368 rfl ?_
  refine j_Lst (c' := (18, [(3, .int (i + Int32.ofInt (6))), (2, .ref 75), (1, .ref 0), (0, .ref x_scr)], [], h, 98, 10728)) lr_2371 rfl ?_
  exact kk

set_option maxRecDepth 100000 in
theorem x_c59a (h : xH) (L : Nat) (xs : Nat → Int32) (i : Int32) (h0 : ¬ (i < 0 ∨ L ≤ (i).toNatClampNeg)) (h1 : ¬ (i + 1 < 0 ∨ L ≤ (i + 1).toNatClampNeg)) (h2 : ¬ (i + 2 < 0 ∨ L ≤ (i + 2).toNatClampNeg)) (h3 : ¬ (i + 3 < 0 ∨ L ≤ (i + 3).toNatClampNeg)) (h4 : ¬ (i + 4 < 0 ∨ L ≤ (i + 4).toNatClampNeg)) (h5 : ¬ (i + 5 < 0 ∨ L ≤ (i + 5).toNatClampNeg)) {P : Option Value × xH × Nat × Nat → Prop} (kk : x_R x_mt (some (L, xs)) 10 M_law (1916, [(3, .int i), (2, .ref 75), (1, .ref 0), (0, .ref x_scr)], [.int (xs ((i + 2)).toNatClampNeg), .int (xs ((i + 1)).toNatClampNeg), .ref 0], h, 98, 10728) P) : x_R x_mt (some (L, xs)) 10 M_law (1905, [(3, .int i), (2, .ref 75), (1, .ref 0), (0, .ref x_scr)], [], h, 98, 10728) P := by
  refine j_Lst (c' := (1906, [(3, .int i), (2, .ref 75), (1, .ref 0), (0, .ref x_scr)], [.ref 0], h, 98, 10728)) lr_1905 rfl ?_
  refine j_Lst (c' := (1907, [(3, .int i), (2, .ref 75), (1, .ref 0), (0, .ref x_scr)], [.ref x_scr, .ref 0], h, 98, 10728)) lr_1906 rfl ?_
  refine j_Lst (c' := (1908, [(3, .int i), (2, .ref 75), (1, .ref 0), (0, .ref x_scr)], [.int i, .ref x_scr, .ref 0], h, 98, 10728)) lr_1907 rfl ?_
  refine j_Lst (c' := (1909, [(3, .int i), (2, .ref 75), (1, .ref 0), (0, .ref x_scr)], [.int 1, .int i, .ref x_scr, .ref 0], h, 98, 10728)) lr_1908 rfl ?_
  refine j_Lst (c' := (1910, [(3, .int i), (2, .ref 75), (1, .ref 0), (0, .ref x_scr)], [.int (i + 1), .ref x_scr, .ref 0], h, 98, 10728)) lr_1909 rfl ?_
  refine j_Lsl (c' := (1911, [(3, .int i), (2, .ref 75), (1, .ref 0), (0, .ref x_scr)], [.int (xs ((i + 1)).toNatClampNeg), .ref 0], h, 98, 10728)) lr_1910 rfl h1 ?_
  refine j_Lst (c' := (1912, [(3, .int i), (2, .ref 75), (1, .ref 0), (0, .ref x_scr)], [.ref x_scr, .int (xs ((i + 1)).toNatClampNeg), .ref 0], h, 98, 10728)) lr_1911 rfl ?_
  refine j_Lst (c' := (1913, [(3, .int i), (2, .ref 75), (1, .ref 0), (0, .ref x_scr)], [.int i, .ref x_scr, .int (xs ((i + 1)).toNatClampNeg), .ref 0], h, 98, 10728)) lr_1912 rfl ?_
  refine j_Lst (c' := (1914, [(3, .int i), (2, .ref 75), (1, .ref 0), (0, .ref x_scr)], [.int 2, .int i, .ref x_scr, .int (xs ((i + 1)).toNatClampNeg), .ref 0], h, 98, 10728)) lr_1913 rfl ?_
  refine j_Lst (c' := (1915, [(3, .int i), (2, .ref 75), (1, .ref 0), (0, .ref x_scr)], [.int (i + 2), .ref x_scr, .int (xs ((i + 1)).toNatClampNeg), .ref 0], h, 98, 10728)) lr_1914 rfl ?_
  refine j_Lsl (c' := (1916, [(3, .int i), (2, .ref 75), (1, .ref 0), (0, .ref x_scr)], [.int (xs ((i + 2)).toNatClampNeg), .int (xs ((i + 1)).toNatClampNeg), .ref 0], h, 98, 10728)) lr_1915 rfl h2 ?_
  exact kk

set_option maxRecDepth 100000 in
theorem x_c59b (h : xH) (L : Nat) (xs : Nat → Int32) (i : Int32) (h0 : ¬ (i < 0 ∨ L ≤ (i).toNatClampNeg)) (h1 : ¬ (i + 1 < 0 ∨ L ≤ (i + 1).toNatClampNeg)) (h2 : ¬ (i + 2 < 0 ∨ L ≤ (i + 2).toNatClampNeg)) (h3 : ¬ (i + 3 < 0 ∨ L ≤ (i + 3).toNatClampNeg)) (h4 : ¬ (i + 4 < 0 ∨ L ≤ (i + 4).toNatClampNeg)) (h5 : ¬ (i + 5 < 0 ∨ L ≤ (i + 5).toNatClampNeg)) (v : Int32) {P : Option Value × xH × Nat × Nat → Prop} (kk : x_R x_mt (some (L, xs)) 10 M_law (1931, [(3, .int i), (2, .ref 75), (1, .ref 0), (0, .ref x_scr)], [.int (xs ((i + 2)).toNatClampNeg), .int (xs ((i + 1)).toNatClampNeg), .ref 75], h, 98, 10728) P) : x_R x_mt (some (L, xs)) 10 M_law (1919, [(3, .int i), (2, .ref 75), (1, .ref 0), (0, .ref x_scr)], [.int v], h, 98, 10728) P := by
  refine j_Lst (c' := (1920, [(3, .int i), (2, .ref 75), (1, .ref 0), (0, .ref x_scr)], [], h, 98, 10728)) lr_1919 rfl ?_
  refine j_Lst (c' := (1921, [(3, .int i), (2, .ref 75), (1, .ref 0), (0, .ref x_scr)], [.ref 75], h, 98, 10728)) lr_1920 rfl ?_
  refine j_Lst (c' := (1922, [(3, .int i), (2, .ref 75), (1, .ref 0), (0, .ref x_scr)], [.ref x_scr, .ref 75], h, 98, 10728)) lr_1921 rfl ?_
  refine j_Lst (c' := (1923, [(3, .int i), (2, .ref 75), (1, .ref 0), (0, .ref x_scr)], [.int i, .ref x_scr, .ref 75], h, 98, 10728)) lr_1922 rfl ?_
  refine j_Lst (c' := (1924, [(3, .int i), (2, .ref 75), (1, .ref 0), (0, .ref x_scr)], [.int 1, .int i, .ref x_scr, .ref 75], h, 98, 10728)) lr_1923 rfl ?_
  refine j_Lst (c' := (1925, [(3, .int i), (2, .ref 75), (1, .ref 0), (0, .ref x_scr)], [.int (i + 1), .ref x_scr, .ref 75], h, 98, 10728)) lr_1924 rfl ?_
  refine j_Lsl (c' := (1926, [(3, .int i), (2, .ref 75), (1, .ref 0), (0, .ref x_scr)], [.int (xs ((i + 1)).toNatClampNeg), .ref 75], h, 98, 10728)) lr_1925 rfl h1 ?_
  refine j_Lst (c' := (1927, [(3, .int i), (2, .ref 75), (1, .ref 0), (0, .ref x_scr)], [.ref x_scr, .int (xs ((i + 1)).toNatClampNeg), .ref 75], h, 98, 10728)) lr_1926 rfl ?_
  refine j_Lst (c' := (1928, [(3, .int i), (2, .ref 75), (1, .ref 0), (0, .ref x_scr)], [.int i, .ref x_scr, .int (xs ((i + 1)).toNatClampNeg), .ref 75], h, 98, 10728)) lr_1927 rfl ?_
  refine j_Lst (c' := (1929, [(3, .int i), (2, .ref 75), (1, .ref 0), (0, .ref x_scr)], [.int 2, .int i, .ref x_scr, .int (xs ((i + 1)).toNatClampNeg), .ref 75], h, 98, 10728)) lr_1928 rfl ?_
  refine j_Lst (c' := (1930, [(3, .int i), (2, .ref 75), (1, .ref 0), (0, .ref x_scr)], [.int (i + 2), .ref x_scr, .int (xs ((i + 1)).toNatClampNeg), .ref 75], h, 98, 10728)) lr_1929 rfl ?_
  refine j_Lsl (c' := (1931, [(3, .int i), (2, .ref 75), (1, .ref 0), (0, .ref x_scr)], [.int (xs ((i + 2)).toNatClampNeg), .int (xs ((i + 1)).toNatClampNeg), .ref 75], h, 98, 10728)) lr_1930 rfl h2 ?_
  exact kk

set_option maxRecDepth 100000 in
theorem x_c59d (h : xH) (L : Nat) (xs : Nat → Int32) (i : Int32) (h0 : ¬ (i < 0 ∨ L ≤ (i).toNatClampNeg)) (h1 : ¬ (i + 1 < 0 ∨ L ≤ (i + 1).toNatClampNeg)) (h2 : ¬ (i + 2 < 0 ∨ L ≤ (i + 2).toNatClampNeg)) (h3 : ¬ (i + 3 < 0 ∨ L ≤ (i + 3).toNatClampNeg)) (h4 : ¬ (i + 4 < 0 ∨ L ≤ (i + 4).toNatClampNeg)) (h5 : ¬ (i + 5 < 0 ∨ L ≤ (i + 5).toNatClampNeg)) (w : Int32) {P : Option Value × xH × Nat × Nat → Prop} (kk : x_R x_mt (some (L, xs)) 10 M_law (18, [(3, .int (i + Int32.ofInt (6))), (2, .ref 75), (1, .ref 0), (0, .ref x_scr)], [], h, 98, 10728) P) : x_R x_mt (some (L, xs)) 10 M_law (1934, [(3, .int i), (2, .ref 75), (1, .ref 0), (0, .ref x_scr)], [.int w], h, 98, 10728) P := by
  refine j_Lst (c' := (1935, [(3, .int i), (2, .ref 75), (1, .ref 0), (0, .ref x_scr)], [], h, 98, 10728)) lr_1934 rfl ?_
  refine j_Lst (c' := (2368, [(3, .int i), (2, .ref 75), (1, .ref 0), (0, .ref x_scr)], [], h, 98, 10728)) lr_1935 rfl ?_
  refine j_Lst (c' := (2371, [(3, .int (i + Int32.ofInt (6))), (2, .ref 75), (1, .ref 0), (0, .ref x_scr)], [], h, 98, 10728)) lr_2368 rfl ?_
  refine j_Lst (c' := (18, [(3, .int (i + Int32.ofInt (6))), (2, .ref 75), (1, .ref 0), (0, .ref x_scr)], [], h, 98, 10728)) lr_2371 rfl ?_
  exact kk

set_option maxRecDepth 100000 in
theorem x_c60a (h : xH) (L : Nat) (xs : Nat → Int32) (i : Int32) (h0 : ¬ (i < 0 ∨ L ≤ (i).toNatClampNeg)) (h1 : ¬ (i + 1 < 0 ∨ L ≤ (i + 1).toNatClampNeg)) (h2 : ¬ (i + 2 < 0 ∨ L ≤ (i + 2).toNatClampNeg)) (h3 : ¬ (i + 3 < 0 ∨ L ≤ (i + 3).toNatClampNeg)) (h4 : ¬ (i + 4 < 0 ∨ L ≤ (i + 4).toNatClampNeg)) (h5 : ¬ (i + 5 < 0 ∨ L ≤ (i + 5).toNatClampNeg)) {P : Option Value × xH × Nat × Nat → Prop} (kk : x_R x_mt (some (L, xs)) 10 M_law (1954, [(3, .int i), (2, .ref 75), (1, .ref 0), (0, .ref x_scr)], [.int (xs ((i + 3)).toNatClampNeg), .int (xs ((i + 2)).toNatClampNeg), .int (xs ((i + 1)).toNatClampNeg), .ref 0], h, 98, 10728) P) : x_R x_mt (some (L, xs)) 10 M_law (1938, [(3, .int i), (2, .ref 75), (1, .ref 0), (0, .ref x_scr)], [], h, 98, 10728) P := by
  refine j_Lst (c' := (1939, [(3, .int i), (2, .ref 75), (1, .ref 0), (0, .ref x_scr)], [.ref 0], h, 98, 10728)) lr_1938 rfl ?_
  refine j_Lst (c' := (1940, [(3, .int i), (2, .ref 75), (1, .ref 0), (0, .ref x_scr)], [.ref x_scr, .ref 0], h, 98, 10728)) lr_1939 rfl ?_
  refine j_Lst (c' := (1941, [(3, .int i), (2, .ref 75), (1, .ref 0), (0, .ref x_scr)], [.int i, .ref x_scr, .ref 0], h, 98, 10728)) lr_1940 rfl ?_
  refine j_Lst (c' := (1942, [(3, .int i), (2, .ref 75), (1, .ref 0), (0, .ref x_scr)], [.int 1, .int i, .ref x_scr, .ref 0], h, 98, 10728)) lr_1941 rfl ?_
  refine j_Lst (c' := (1943, [(3, .int i), (2, .ref 75), (1, .ref 0), (0, .ref x_scr)], [.int (i + 1), .ref x_scr, .ref 0], h, 98, 10728)) lr_1942 rfl ?_
  refine j_Lsl (c' := (1944, [(3, .int i), (2, .ref 75), (1, .ref 0), (0, .ref x_scr)], [.int (xs ((i + 1)).toNatClampNeg), .ref 0], h, 98, 10728)) lr_1943 rfl h1 ?_
  refine j_Lst (c' := (1945, [(3, .int i), (2, .ref 75), (1, .ref 0), (0, .ref x_scr)], [.ref x_scr, .int (xs ((i + 1)).toNatClampNeg), .ref 0], h, 98, 10728)) lr_1944 rfl ?_
  refine j_Lst (c' := (1946, [(3, .int i), (2, .ref 75), (1, .ref 0), (0, .ref x_scr)], [.int i, .ref x_scr, .int (xs ((i + 1)).toNatClampNeg), .ref 0], h, 98, 10728)) lr_1945 rfl ?_
  refine j_Lst (c' := (1947, [(3, .int i), (2, .ref 75), (1, .ref 0), (0, .ref x_scr)], [.int 2, .int i, .ref x_scr, .int (xs ((i + 1)).toNatClampNeg), .ref 0], h, 98, 10728)) lr_1946 rfl ?_
  refine j_Lst (c' := (1948, [(3, .int i), (2, .ref 75), (1, .ref 0), (0, .ref x_scr)], [.int (i + 2), .ref x_scr, .int (xs ((i + 1)).toNatClampNeg), .ref 0], h, 98, 10728)) lr_1947 rfl ?_
  refine j_Lsl (c' := (1949, [(3, .int i), (2, .ref 75), (1, .ref 0), (0, .ref x_scr)], [.int (xs ((i + 2)).toNatClampNeg), .int (xs ((i + 1)).toNatClampNeg), .ref 0], h, 98, 10728)) lr_1948 rfl h2 ?_
  refine j_Lst (c' := (1950, [(3, .int i), (2, .ref 75), (1, .ref 0), (0, .ref x_scr)], [.ref x_scr, .int (xs ((i + 2)).toNatClampNeg), .int (xs ((i + 1)).toNatClampNeg), .ref 0], h, 98, 10728)) lr_1949 rfl ?_
  refine j_Lst (c' := (1951, [(3, .int i), (2, .ref 75), (1, .ref 0), (0, .ref x_scr)], [.int i, .ref x_scr, .int (xs ((i + 2)).toNatClampNeg), .int (xs ((i + 1)).toNatClampNeg), .ref 0], h, 98, 10728)) lr_1950 rfl ?_
  refine j_Lst (c' := (1952, [(3, .int i), (2, .ref 75), (1, .ref 0), (0, .ref x_scr)], [.int 3, .int i, .ref x_scr, .int (xs ((i + 2)).toNatClampNeg), .int (xs ((i + 1)).toNatClampNeg), .ref 0], h, 98, 10728)) lr_1951 rfl ?_
  refine j_Lst (c' := (1953, [(3, .int i), (2, .ref 75), (1, .ref 0), (0, .ref x_scr)], [.int (i + 3), .ref x_scr, .int (xs ((i + 2)).toNatClampNeg), .int (xs ((i + 1)).toNatClampNeg), .ref 0], h, 98, 10728)) lr_1952 rfl ?_
  refine j_Lsl (c' := (1954, [(3, .int i), (2, .ref 75), (1, .ref 0), (0, .ref x_scr)], [.int (xs ((i + 3)).toNatClampNeg), .int (xs ((i + 2)).toNatClampNeg), .int (xs ((i + 1)).toNatClampNeg), .ref 0], h, 98, 10728)) lr_1953 rfl h3 ?_
  exact kk

set_option maxRecDepth 100000 in
theorem x_c60b (h : xH) (L : Nat) (xs : Nat → Int32) (i : Int32) (h0 : ¬ (i < 0 ∨ L ≤ (i).toNatClampNeg)) (h1 : ¬ (i + 1 < 0 ∨ L ≤ (i + 1).toNatClampNeg)) (h2 : ¬ (i + 2 < 0 ∨ L ≤ (i + 2).toNatClampNeg)) (h3 : ¬ (i + 3 < 0 ∨ L ≤ (i + 3).toNatClampNeg)) (h4 : ¬ (i + 4 < 0 ∨ L ≤ (i + 4).toNatClampNeg)) (h5 : ¬ (i + 5 < 0 ∨ L ≤ (i + 5).toNatClampNeg)) (v : Int32) {P : Option Value × xH × Nat × Nat → Prop} (kk : x_R x_mt (some (L, xs)) 10 M_law (1974, [(3, .int i), (2, .ref 75), (1, .ref 0), (0, .ref x_scr)], [.int (xs ((i + 3)).toNatClampNeg), .int (xs ((i + 2)).toNatClampNeg), .int (xs ((i + 1)).toNatClampNeg), .ref 75], h, 98, 10728) P) : x_R x_mt (some (L, xs)) 10 M_law (1957, [(3, .int i), (2, .ref 75), (1, .ref 0), (0, .ref x_scr)], [.int v], h, 98, 10728) P := by
  refine j_Lst (c' := (1958, [(3, .int i), (2, .ref 75), (1, .ref 0), (0, .ref x_scr)], [], h, 98, 10728)) lr_1957 rfl ?_
  refine j_Lst (c' := (1959, [(3, .int i), (2, .ref 75), (1, .ref 0), (0, .ref x_scr)], [.ref 75], h, 98, 10728)) lr_1958 rfl ?_
  refine j_Lst (c' := (1960, [(3, .int i), (2, .ref 75), (1, .ref 0), (0, .ref x_scr)], [.ref x_scr, .ref 75], h, 98, 10728)) lr_1959 rfl ?_
  refine j_Lst (c' := (1961, [(3, .int i), (2, .ref 75), (1, .ref 0), (0, .ref x_scr)], [.int i, .ref x_scr, .ref 75], h, 98, 10728)) lr_1960 rfl ?_
  refine j_Lst (c' := (1962, [(3, .int i), (2, .ref 75), (1, .ref 0), (0, .ref x_scr)], [.int 1, .int i, .ref x_scr, .ref 75], h, 98, 10728)) lr_1961 rfl ?_
  refine j_Lst (c' := (1963, [(3, .int i), (2, .ref 75), (1, .ref 0), (0, .ref x_scr)], [.int (i + 1), .ref x_scr, .ref 75], h, 98, 10728)) lr_1962 rfl ?_
  refine j_Lsl (c' := (1964, [(3, .int i), (2, .ref 75), (1, .ref 0), (0, .ref x_scr)], [.int (xs ((i + 1)).toNatClampNeg), .ref 75], h, 98, 10728)) lr_1963 rfl h1 ?_
  refine j_Lst (c' := (1965, [(3, .int i), (2, .ref 75), (1, .ref 0), (0, .ref x_scr)], [.ref x_scr, .int (xs ((i + 1)).toNatClampNeg), .ref 75], h, 98, 10728)) lr_1964 rfl ?_
  refine j_Lst (c' := (1966, [(3, .int i), (2, .ref 75), (1, .ref 0), (0, .ref x_scr)], [.int i, .ref x_scr, .int (xs ((i + 1)).toNatClampNeg), .ref 75], h, 98, 10728)) lr_1965 rfl ?_
  refine j_Lst (c' := (1967, [(3, .int i), (2, .ref 75), (1, .ref 0), (0, .ref x_scr)], [.int 2, .int i, .ref x_scr, .int (xs ((i + 1)).toNatClampNeg), .ref 75], h, 98, 10728)) lr_1966 rfl ?_
  refine j_Lst (c' := (1968, [(3, .int i), (2, .ref 75), (1, .ref 0), (0, .ref x_scr)], [.int (i + 2), .ref x_scr, .int (xs ((i + 1)).toNatClampNeg), .ref 75], h, 98, 10728)) lr_1967 rfl ?_
  refine j_Lsl (c' := (1969, [(3, .int i), (2, .ref 75), (1, .ref 0), (0, .ref x_scr)], [.int (xs ((i + 2)).toNatClampNeg), .int (xs ((i + 1)).toNatClampNeg), .ref 75], h, 98, 10728)) lr_1968 rfl h2 ?_
  refine j_Lst (c' := (1970, [(3, .int i), (2, .ref 75), (1, .ref 0), (0, .ref x_scr)], [.ref x_scr, .int (xs ((i + 2)).toNatClampNeg), .int (xs ((i + 1)).toNatClampNeg), .ref 75], h, 98, 10728)) lr_1969 rfl ?_
  refine j_Lst (c' := (1971, [(3, .int i), (2, .ref 75), (1, .ref 0), (0, .ref x_scr)], [.int i, .ref x_scr, .int (xs ((i + 2)).toNatClampNeg), .int (xs ((i + 1)).toNatClampNeg), .ref 75], h, 98, 10728)) lr_1970 rfl ?_
  refine j_Lst (c' := (1972, [(3, .int i), (2, .ref 75), (1, .ref 0), (0, .ref x_scr)], [.int 3, .int i, .ref x_scr, .int (xs ((i + 2)).toNatClampNeg), .int (xs ((i + 1)).toNatClampNeg), .ref 75], h, 98, 10728)) lr_1971 rfl ?_
  refine j_Lst (c' := (1973, [(3, .int i), (2, .ref 75), (1, .ref 0), (0, .ref x_scr)], [.int (i + 3), .ref x_scr, .int (xs ((i + 2)).toNatClampNeg), .int (xs ((i + 1)).toNatClampNeg), .ref 75], h, 98, 10728)) lr_1972 rfl ?_
  refine j_Lsl (c' := (1974, [(3, .int i), (2, .ref 75), (1, .ref 0), (0, .ref x_scr)], [.int (xs ((i + 3)).toNatClampNeg), .int (xs ((i + 2)).toNatClampNeg), .int (xs ((i + 1)).toNatClampNeg), .ref 75], h, 98, 10728)) lr_1973 rfl h3 ?_
  exact kk

set_option maxRecDepth 100000 in
theorem x_c60d (h : xH) (L : Nat) (xs : Nat → Int32) (i : Int32) (h0 : ¬ (i < 0 ∨ L ≤ (i).toNatClampNeg)) (h1 : ¬ (i + 1 < 0 ∨ L ≤ (i + 1).toNatClampNeg)) (h2 : ¬ (i + 2 < 0 ∨ L ≤ (i + 2).toNatClampNeg)) (h3 : ¬ (i + 3 < 0 ∨ L ≤ (i + 3).toNatClampNeg)) (h4 : ¬ (i + 4 < 0 ∨ L ≤ (i + 4).toNatClampNeg)) (h5 : ¬ (i + 5 < 0 ∨ L ≤ (i + 5).toNatClampNeg)) (w : Int32) {P : Option Value × xH × Nat × Nat → Prop} (kk : x_R x_mt (some (L, xs)) 10 M_law (18, [(3, .int (i + Int32.ofInt (6))), (2, .ref 75), (1, .ref 0), (0, .ref x_scr)], [], h, 98, 10728) P) : x_R x_mt (some (L, xs)) 10 M_law (1977, [(3, .int i), (2, .ref 75), (1, .ref 0), (0, .ref x_scr)], [.int w], h, 98, 10728) P := by
  refine j_Lst (c' := (1978, [(3, .int i), (2, .ref 75), (1, .ref 0), (0, .ref x_scr)], [], h, 98, 10728)) lr_1977 rfl ?_
  refine j_Lst (c' := (2368, [(3, .int i), (2, .ref 75), (1, .ref 0), (0, .ref x_scr)], [], h, 98, 10728)) lr_1978 rfl ?_
  refine j_Lst (c' := (2371, [(3, .int (i + Int32.ofInt (6))), (2, .ref 75), (1, .ref 0), (0, .ref x_scr)], [], h, 98, 10728)) lr_2368 rfl ?_
  refine j_Lst (c' := (18, [(3, .int (i + Int32.ofInt (6))), (2, .ref 75), (1, .ref 0), (0, .ref x_scr)], [], h, 98, 10728)) lr_2371 rfl ?_
  exact kk

set_option maxRecDepth 100000 in
theorem x_c61a (h : xH) (L : Nat) (xs : Nat → Int32) (i : Int32) (h0 : ¬ (i < 0 ∨ L ≤ (i).toNatClampNeg)) (h1 : ¬ (i + 1 < 0 ∨ L ≤ (i + 1).toNatClampNeg)) (h2 : ¬ (i + 2 < 0 ∨ L ≤ (i + 2).toNatClampNeg)) (h3 : ¬ (i + 3 < 0 ∨ L ≤ (i + 3).toNatClampNeg)) (h4 : ¬ (i + 4 < 0 ∨ L ≤ (i + 4).toNatClampNeg)) (h5 : ¬ (i + 5 < 0 ∨ L ≤ (i + 5).toNatClampNeg)) {P : Option Value × xH × Nat × Nat → Prop} (kk : x_R x_mt (some (L, xs)) 10 M_law (1997, [(3, .int i), (2, .ref 75), (1, .ref 0), (0, .ref x_scr)], [.int (xs ((i + 3)).toNatClampNeg), .int (xs ((i + 2)).toNatClampNeg), .int (xs ((i + 1)).toNatClampNeg), .ref 0], h, 98, 10728) P) : x_R x_mt (some (L, xs)) 10 M_law (1981, [(3, .int i), (2, .ref 75), (1, .ref 0), (0, .ref x_scr)], [], h, 98, 10728) P := by
  refine j_Lst (c' := (1982, [(3, .int i), (2, .ref 75), (1, .ref 0), (0, .ref x_scr)], [.ref 0], h, 98, 10728)) lr_1981 rfl ?_
  refine j_Lst (c' := (1983, [(3, .int i), (2, .ref 75), (1, .ref 0), (0, .ref x_scr)], [.ref x_scr, .ref 0], h, 98, 10728)) lr_1982 rfl ?_
  refine j_Lst (c' := (1984, [(3, .int i), (2, .ref 75), (1, .ref 0), (0, .ref x_scr)], [.int i, .ref x_scr, .ref 0], h, 98, 10728)) lr_1983 rfl ?_
  refine j_Lst (c' := (1985, [(3, .int i), (2, .ref 75), (1, .ref 0), (0, .ref x_scr)], [.int 1, .int i, .ref x_scr, .ref 0], h, 98, 10728)) lr_1984 rfl ?_
  refine j_Lst (c' := (1986, [(3, .int i), (2, .ref 75), (1, .ref 0), (0, .ref x_scr)], [.int (i + 1), .ref x_scr, .ref 0], h, 98, 10728)) lr_1985 rfl ?_
  refine j_Lsl (c' := (1987, [(3, .int i), (2, .ref 75), (1, .ref 0), (0, .ref x_scr)], [.int (xs ((i + 1)).toNatClampNeg), .ref 0], h, 98, 10728)) lr_1986 rfl h1 ?_
  refine j_Lst (c' := (1988, [(3, .int i), (2, .ref 75), (1, .ref 0), (0, .ref x_scr)], [.ref x_scr, .int (xs ((i + 1)).toNatClampNeg), .ref 0], h, 98, 10728)) lr_1987 rfl ?_
  refine j_Lst (c' := (1989, [(3, .int i), (2, .ref 75), (1, .ref 0), (0, .ref x_scr)], [.int i, .ref x_scr, .int (xs ((i + 1)).toNatClampNeg), .ref 0], h, 98, 10728)) lr_1988 rfl ?_
  refine j_Lst (c' := (1990, [(3, .int i), (2, .ref 75), (1, .ref 0), (0, .ref x_scr)], [.int 2, .int i, .ref x_scr, .int (xs ((i + 1)).toNatClampNeg), .ref 0], h, 98, 10728)) lr_1989 rfl ?_
  refine j_Lst (c' := (1991, [(3, .int i), (2, .ref 75), (1, .ref 0), (0, .ref x_scr)], [.int (i + 2), .ref x_scr, .int (xs ((i + 1)).toNatClampNeg), .ref 0], h, 98, 10728)) lr_1990 rfl ?_
  refine j_Lsl (c' := (1992, [(3, .int i), (2, .ref 75), (1, .ref 0), (0, .ref x_scr)], [.int (xs ((i + 2)).toNatClampNeg), .int (xs ((i + 1)).toNatClampNeg), .ref 0], h, 98, 10728)) lr_1991 rfl h2 ?_
  refine j_Lst (c' := (1993, [(3, .int i), (2, .ref 75), (1, .ref 0), (0, .ref x_scr)], [.ref x_scr, .int (xs ((i + 2)).toNatClampNeg), .int (xs ((i + 1)).toNatClampNeg), .ref 0], h, 98, 10728)) lr_1992 rfl ?_
  refine j_Lst (c' := (1994, [(3, .int i), (2, .ref 75), (1, .ref 0), (0, .ref x_scr)], [.int i, .ref x_scr, .int (xs ((i + 2)).toNatClampNeg), .int (xs ((i + 1)).toNatClampNeg), .ref 0], h, 98, 10728)) lr_1993 rfl ?_
  refine j_Lst (c' := (1995, [(3, .int i), (2, .ref 75), (1, .ref 0), (0, .ref x_scr)], [.int 3, .int i, .ref x_scr, .int (xs ((i + 2)).toNatClampNeg), .int (xs ((i + 1)).toNatClampNeg), .ref 0], h, 98, 10728)) lr_1994 rfl ?_
  refine j_Lst (c' := (1996, [(3, .int i), (2, .ref 75), (1, .ref 0), (0, .ref x_scr)], [.int (i + 3), .ref x_scr, .int (xs ((i + 2)).toNatClampNeg), .int (xs ((i + 1)).toNatClampNeg), .ref 0], h, 98, 10728)) lr_1995 rfl ?_
  refine j_Lsl (c' := (1997, [(3, .int i), (2, .ref 75), (1, .ref 0), (0, .ref x_scr)], [.int (xs ((i + 3)).toNatClampNeg), .int (xs ((i + 2)).toNatClampNeg), .int (xs ((i + 1)).toNatClampNeg), .ref 0], h, 98, 10728)) lr_1996 rfl h3 ?_
  exact kk

set_option maxRecDepth 100000 in
theorem x_c61b (h : xH) (L : Nat) (xs : Nat → Int32) (i : Int32) (h0 : ¬ (i < 0 ∨ L ≤ (i).toNatClampNeg)) (h1 : ¬ (i + 1 < 0 ∨ L ≤ (i + 1).toNatClampNeg)) (h2 : ¬ (i + 2 < 0 ∨ L ≤ (i + 2).toNatClampNeg)) (h3 : ¬ (i + 3 < 0 ∨ L ≤ (i + 3).toNatClampNeg)) (h4 : ¬ (i + 4 < 0 ∨ L ≤ (i + 4).toNatClampNeg)) (h5 : ¬ (i + 5 < 0 ∨ L ≤ (i + 5).toNatClampNeg)) (v : Int32) {P : Option Value × xH × Nat × Nat → Prop} (kk : x_R x_mt (some (L, xs)) 10 M_law (2017, [(3, .int i), (2, .ref 75), (1, .ref 0), (0, .ref x_scr)], [.int (xs ((i + 3)).toNatClampNeg), .int (xs ((i + 2)).toNatClampNeg), .int (xs ((i + 1)).toNatClampNeg), .ref 75], h, 98, 10728) P) : x_R x_mt (some (L, xs)) 10 M_law (2000, [(3, .int i), (2, .ref 75), (1, .ref 0), (0, .ref x_scr)], [.int v], h, 98, 10728) P := by
  refine j_Lst (c' := (2001, [(3, .int i), (2, .ref 75), (1, .ref 0), (0, .ref x_scr)], [], h, 98, 10728)) lr_2000 rfl ?_
  refine j_Lst (c' := (2002, [(3, .int i), (2, .ref 75), (1, .ref 0), (0, .ref x_scr)], [.ref 75], h, 98, 10728)) lr_2001 rfl ?_
  refine j_Lst (c' := (2003, [(3, .int i), (2, .ref 75), (1, .ref 0), (0, .ref x_scr)], [.ref x_scr, .ref 75], h, 98, 10728)) lr_2002 rfl ?_
  refine j_Lst (c' := (2004, [(3, .int i), (2, .ref 75), (1, .ref 0), (0, .ref x_scr)], [.int i, .ref x_scr, .ref 75], h, 98, 10728)) lr_2003 rfl ?_
  refine j_Lst (c' := (2005, [(3, .int i), (2, .ref 75), (1, .ref 0), (0, .ref x_scr)], [.int 1, .int i, .ref x_scr, .ref 75], h, 98, 10728)) lr_2004 rfl ?_
  refine j_Lst (c' := (2006, [(3, .int i), (2, .ref 75), (1, .ref 0), (0, .ref x_scr)], [.int (i + 1), .ref x_scr, .ref 75], h, 98, 10728)) lr_2005 rfl ?_
  refine j_Lsl (c' := (2007, [(3, .int i), (2, .ref 75), (1, .ref 0), (0, .ref x_scr)], [.int (xs ((i + 1)).toNatClampNeg), .ref 75], h, 98, 10728)) lr_2006 rfl h1 ?_
  refine j_Lst (c' := (2008, [(3, .int i), (2, .ref 75), (1, .ref 0), (0, .ref x_scr)], [.ref x_scr, .int (xs ((i + 1)).toNatClampNeg), .ref 75], h, 98, 10728)) lr_2007 rfl ?_
  refine j_Lst (c' := (2009, [(3, .int i), (2, .ref 75), (1, .ref 0), (0, .ref x_scr)], [.int i, .ref x_scr, .int (xs ((i + 1)).toNatClampNeg), .ref 75], h, 98, 10728)) lr_2008 rfl ?_
  refine j_Lst (c' := (2010, [(3, .int i), (2, .ref 75), (1, .ref 0), (0, .ref x_scr)], [.int 2, .int i, .ref x_scr, .int (xs ((i + 1)).toNatClampNeg), .ref 75], h, 98, 10728)) lr_2009 rfl ?_
  refine j_Lst (c' := (2011, [(3, .int i), (2, .ref 75), (1, .ref 0), (0, .ref x_scr)], [.int (i + 2), .ref x_scr, .int (xs ((i + 1)).toNatClampNeg), .ref 75], h, 98, 10728)) lr_2010 rfl ?_
  refine j_Lsl (c' := (2012, [(3, .int i), (2, .ref 75), (1, .ref 0), (0, .ref x_scr)], [.int (xs ((i + 2)).toNatClampNeg), .int (xs ((i + 1)).toNatClampNeg), .ref 75], h, 98, 10728)) lr_2011 rfl h2 ?_
  refine j_Lst (c' := (2013, [(3, .int i), (2, .ref 75), (1, .ref 0), (0, .ref x_scr)], [.ref x_scr, .int (xs ((i + 2)).toNatClampNeg), .int (xs ((i + 1)).toNatClampNeg), .ref 75], h, 98, 10728)) lr_2012 rfl ?_
  refine j_Lst (c' := (2014, [(3, .int i), (2, .ref 75), (1, .ref 0), (0, .ref x_scr)], [.int i, .ref x_scr, .int (xs ((i + 2)).toNatClampNeg), .int (xs ((i + 1)).toNatClampNeg), .ref 75], h, 98, 10728)) lr_2013 rfl ?_
  refine j_Lst (c' := (2015, [(3, .int i), (2, .ref 75), (1, .ref 0), (0, .ref x_scr)], [.int 3, .int i, .ref x_scr, .int (xs ((i + 2)).toNatClampNeg), .int (xs ((i + 1)).toNatClampNeg), .ref 75], h, 98, 10728)) lr_2014 rfl ?_
  refine j_Lst (c' := (2016, [(3, .int i), (2, .ref 75), (1, .ref 0), (0, .ref x_scr)], [.int (i + 3), .ref x_scr, .int (xs ((i + 2)).toNatClampNeg), .int (xs ((i + 1)).toNatClampNeg), .ref 75], h, 98, 10728)) lr_2015 rfl ?_
  refine j_Lsl (c' := (2017, [(3, .int i), (2, .ref 75), (1, .ref 0), (0, .ref x_scr)], [.int (xs ((i + 3)).toNatClampNeg), .int (xs ((i + 2)).toNatClampNeg), .int (xs ((i + 1)).toNatClampNeg), .ref 75], h, 98, 10728)) lr_2016 rfl h3 ?_
  exact kk

set_option maxRecDepth 100000 in
theorem x_c61d (h : xH) (L : Nat) (xs : Nat → Int32) (i : Int32) (h0 : ¬ (i < 0 ∨ L ≤ (i).toNatClampNeg)) (h1 : ¬ (i + 1 < 0 ∨ L ≤ (i + 1).toNatClampNeg)) (h2 : ¬ (i + 2 < 0 ∨ L ≤ (i + 2).toNatClampNeg)) (h3 : ¬ (i + 3 < 0 ∨ L ≤ (i + 3).toNatClampNeg)) (h4 : ¬ (i + 4 < 0 ∨ L ≤ (i + 4).toNatClampNeg)) (h5 : ¬ (i + 5 < 0 ∨ L ≤ (i + 5).toNatClampNeg)) (w : Int32) {P : Option Value × xH × Nat × Nat → Prop} (kk : x_R x_mt (some (L, xs)) 10 M_law (18, [(3, .int (i + Int32.ofInt (6))), (2, .ref 75), (1, .ref 0), (0, .ref x_scr)], [], h, 98, 10728) P) : x_R x_mt (some (L, xs)) 10 M_law (2020, [(3, .int i), (2, .ref 75), (1, .ref 0), (0, .ref x_scr)], [.int w], h, 98, 10728) P := by
  refine j_Lst (c' := (2021, [(3, .int i), (2, .ref 75), (1, .ref 0), (0, .ref x_scr)], [], h, 98, 10728)) lr_2020 rfl ?_
  refine j_Lst (c' := (2368, [(3, .int i), (2, .ref 75), (1, .ref 0), (0, .ref x_scr)], [], h, 98, 10728)) lr_2021 rfl ?_
  refine j_Lst (c' := (2371, [(3, .int (i + Int32.ofInt (6))), (2, .ref 75), (1, .ref 0), (0, .ref x_scr)], [], h, 98, 10728)) lr_2368 rfl ?_
  refine j_Lst (c' := (18, [(3, .int (i + Int32.ofInt (6))), (2, .ref 75), (1, .ref 0), (0, .ref x_scr)], [], h, 98, 10728)) lr_2371 rfl ?_
  exact kk

set_option maxRecDepth 100000 in
theorem x_c62a (h : xH) (L : Nat) (xs : Nat → Int32) (i : Int32) (h0 : ¬ (i < 0 ∨ L ≤ (i).toNatClampNeg)) (h1 : ¬ (i + 1 < 0 ∨ L ≤ (i + 1).toNatClampNeg)) (h2 : ¬ (i + 2 < 0 ∨ L ≤ (i + 2).toNatClampNeg)) (h3 : ¬ (i + 3 < 0 ∨ L ≤ (i + 3).toNatClampNeg)) (h4 : ¬ (i + 4 < 0 ∨ L ≤ (i + 4).toNatClampNeg)) (h5 : ¬ (i + 5 < 0 ∨ L ≤ (i + 5).toNatClampNeg)) {P : Option Value × xH × Nat × Nat → Prop} (kk : x_R x_mt (some (L, xs)) 10 M_law (2040, [(3, .int i), (2, .ref 75), (1, .ref 0), (0, .ref x_scr)], [.int (xs ((i + 3)).toNatClampNeg), .int (xs ((i + 2)).toNatClampNeg), .int (xs ((i + 1)).toNatClampNeg), .ref 0], h, 98, 10728) P) : x_R x_mt (some (L, xs)) 10 M_law (2024, [(3, .int i), (2, .ref 75), (1, .ref 0), (0, .ref x_scr)], [], h, 98, 10728) P := by
  refine j_Lst (c' := (2025, [(3, .int i), (2, .ref 75), (1, .ref 0), (0, .ref x_scr)], [.ref 0], h, 98, 10728)) lr_2024 rfl ?_
  refine j_Lst (c' := (2026, [(3, .int i), (2, .ref 75), (1, .ref 0), (0, .ref x_scr)], [.ref x_scr, .ref 0], h, 98, 10728)) lr_2025 rfl ?_
  refine j_Lst (c' := (2027, [(3, .int i), (2, .ref 75), (1, .ref 0), (0, .ref x_scr)], [.int i, .ref x_scr, .ref 0], h, 98, 10728)) lr_2026 rfl ?_
  refine j_Lst (c' := (2028, [(3, .int i), (2, .ref 75), (1, .ref 0), (0, .ref x_scr)], [.int 1, .int i, .ref x_scr, .ref 0], h, 98, 10728)) lr_2027 rfl ?_
  refine j_Lst (c' := (2029, [(3, .int i), (2, .ref 75), (1, .ref 0), (0, .ref x_scr)], [.int (i + 1), .ref x_scr, .ref 0], h, 98, 10728)) lr_2028 rfl ?_
  refine j_Lsl (c' := (2030, [(3, .int i), (2, .ref 75), (1, .ref 0), (0, .ref x_scr)], [.int (xs ((i + 1)).toNatClampNeg), .ref 0], h, 98, 10728)) lr_2029 rfl h1 ?_
  refine j_Lst (c' := (2031, [(3, .int i), (2, .ref 75), (1, .ref 0), (0, .ref x_scr)], [.ref x_scr, .int (xs ((i + 1)).toNatClampNeg), .ref 0], h, 98, 10728)) lr_2030 rfl ?_
  refine j_Lst (c' := (2032, [(3, .int i), (2, .ref 75), (1, .ref 0), (0, .ref x_scr)], [.int i, .ref x_scr, .int (xs ((i + 1)).toNatClampNeg), .ref 0], h, 98, 10728)) lr_2031 rfl ?_
  refine j_Lst (c' := (2033, [(3, .int i), (2, .ref 75), (1, .ref 0), (0, .ref x_scr)], [.int 2, .int i, .ref x_scr, .int (xs ((i + 1)).toNatClampNeg), .ref 0], h, 98, 10728)) lr_2032 rfl ?_
  refine j_Lst (c' := (2034, [(3, .int i), (2, .ref 75), (1, .ref 0), (0, .ref x_scr)], [.int (i + 2), .ref x_scr, .int (xs ((i + 1)).toNatClampNeg), .ref 0], h, 98, 10728)) lr_2033 rfl ?_
  refine j_Lsl (c' := (2035, [(3, .int i), (2, .ref 75), (1, .ref 0), (0, .ref x_scr)], [.int (xs ((i + 2)).toNatClampNeg), .int (xs ((i + 1)).toNatClampNeg), .ref 0], h, 98, 10728)) lr_2034 rfl h2 ?_
  refine j_Lst (c' := (2036, [(3, .int i), (2, .ref 75), (1, .ref 0), (0, .ref x_scr)], [.ref x_scr, .int (xs ((i + 2)).toNatClampNeg), .int (xs ((i + 1)).toNatClampNeg), .ref 0], h, 98, 10728)) lr_2035 rfl ?_
  refine j_Lst (c' := (2037, [(3, .int i), (2, .ref 75), (1, .ref 0), (0, .ref x_scr)], [.int i, .ref x_scr, .int (xs ((i + 2)).toNatClampNeg), .int (xs ((i + 1)).toNatClampNeg), .ref 0], h, 98, 10728)) lr_2036 rfl ?_
  refine j_Lst (c' := (2038, [(3, .int i), (2, .ref 75), (1, .ref 0), (0, .ref x_scr)], [.int 3, .int i, .ref x_scr, .int (xs ((i + 2)).toNatClampNeg), .int (xs ((i + 1)).toNatClampNeg), .ref 0], h, 98, 10728)) lr_2037 rfl ?_
  refine j_Lst (c' := (2039, [(3, .int i), (2, .ref 75), (1, .ref 0), (0, .ref x_scr)], [.int (i + 3), .ref x_scr, .int (xs ((i + 2)).toNatClampNeg), .int (xs ((i + 1)).toNatClampNeg), .ref 0], h, 98, 10728)) lr_2038 rfl ?_
  refine j_Lsl (c' := (2040, [(3, .int i), (2, .ref 75), (1, .ref 0), (0, .ref x_scr)], [.int (xs ((i + 3)).toNatClampNeg), .int (xs ((i + 2)).toNatClampNeg), .int (xs ((i + 1)).toNatClampNeg), .ref 0], h, 98, 10728)) lr_2039 rfl h3 ?_
  exact kk

set_option maxRecDepth 100000 in
theorem x_c62b (h : xH) (L : Nat) (xs : Nat → Int32) (i : Int32) (h0 : ¬ (i < 0 ∨ L ≤ (i).toNatClampNeg)) (h1 : ¬ (i + 1 < 0 ∨ L ≤ (i + 1).toNatClampNeg)) (h2 : ¬ (i + 2 < 0 ∨ L ≤ (i + 2).toNatClampNeg)) (h3 : ¬ (i + 3 < 0 ∨ L ≤ (i + 3).toNatClampNeg)) (h4 : ¬ (i + 4 < 0 ∨ L ≤ (i + 4).toNatClampNeg)) (h5 : ¬ (i + 5 < 0 ∨ L ≤ (i + 5).toNatClampNeg)) (v : Int32) {P : Option Value × xH × Nat × Nat → Prop} (kk : x_R x_mt (some (L, xs)) 10 M_law (2060, [(3, .int i), (2, .ref 75), (1, .ref 0), (0, .ref x_scr)], [.int (xs ((i + 3)).toNatClampNeg), .int (xs ((i + 2)).toNatClampNeg), .int (xs ((i + 1)).toNatClampNeg), .ref 75], h, 98, 10728) P) : x_R x_mt (some (L, xs)) 10 M_law (2043, [(3, .int i), (2, .ref 75), (1, .ref 0), (0, .ref x_scr)], [.int v], h, 98, 10728) P := by
  refine j_Lst (c' := (2044, [(3, .int i), (2, .ref 75), (1, .ref 0), (0, .ref x_scr)], [], h, 98, 10728)) lr_2043 rfl ?_
  refine j_Lst (c' := (2045, [(3, .int i), (2, .ref 75), (1, .ref 0), (0, .ref x_scr)], [.ref 75], h, 98, 10728)) lr_2044 rfl ?_
  refine j_Lst (c' := (2046, [(3, .int i), (2, .ref 75), (1, .ref 0), (0, .ref x_scr)], [.ref x_scr, .ref 75], h, 98, 10728)) lr_2045 rfl ?_
  refine j_Lst (c' := (2047, [(3, .int i), (2, .ref 75), (1, .ref 0), (0, .ref x_scr)], [.int i, .ref x_scr, .ref 75], h, 98, 10728)) lr_2046 rfl ?_
  refine j_Lst (c' := (2048, [(3, .int i), (2, .ref 75), (1, .ref 0), (0, .ref x_scr)], [.int 1, .int i, .ref x_scr, .ref 75], h, 98, 10728)) lr_2047 rfl ?_
  refine j_Lst (c' := (2049, [(3, .int i), (2, .ref 75), (1, .ref 0), (0, .ref x_scr)], [.int (i + 1), .ref x_scr, .ref 75], h, 98, 10728)) lr_2048 rfl ?_
  refine j_Lsl (c' := (2050, [(3, .int i), (2, .ref 75), (1, .ref 0), (0, .ref x_scr)], [.int (xs ((i + 1)).toNatClampNeg), .ref 75], h, 98, 10728)) lr_2049 rfl h1 ?_
  refine j_Lst (c' := (2051, [(3, .int i), (2, .ref 75), (1, .ref 0), (0, .ref x_scr)], [.ref x_scr, .int (xs ((i + 1)).toNatClampNeg), .ref 75], h, 98, 10728)) lr_2050 rfl ?_
  refine j_Lst (c' := (2052, [(3, .int i), (2, .ref 75), (1, .ref 0), (0, .ref x_scr)], [.int i, .ref x_scr, .int (xs ((i + 1)).toNatClampNeg), .ref 75], h, 98, 10728)) lr_2051 rfl ?_
  refine j_Lst (c' := (2053, [(3, .int i), (2, .ref 75), (1, .ref 0), (0, .ref x_scr)], [.int 2, .int i, .ref x_scr, .int (xs ((i + 1)).toNatClampNeg), .ref 75], h, 98, 10728)) lr_2052 rfl ?_
  refine j_Lst (c' := (2054, [(3, .int i), (2, .ref 75), (1, .ref 0), (0, .ref x_scr)], [.int (i + 2), .ref x_scr, .int (xs ((i + 1)).toNatClampNeg), .ref 75], h, 98, 10728)) lr_2053 rfl ?_
  refine j_Lsl (c' := (2055, [(3, .int i), (2, .ref 75), (1, .ref 0), (0, .ref x_scr)], [.int (xs ((i + 2)).toNatClampNeg), .int (xs ((i + 1)).toNatClampNeg), .ref 75], h, 98, 10728)) lr_2054 rfl h2 ?_
  refine j_Lst (c' := (2056, [(3, .int i), (2, .ref 75), (1, .ref 0), (0, .ref x_scr)], [.ref x_scr, .int (xs ((i + 2)).toNatClampNeg), .int (xs ((i + 1)).toNatClampNeg), .ref 75], h, 98, 10728)) lr_2055 rfl ?_
  refine j_Lst (c' := (2057, [(3, .int i), (2, .ref 75), (1, .ref 0), (0, .ref x_scr)], [.int i, .ref x_scr, .int (xs ((i + 2)).toNatClampNeg), .int (xs ((i + 1)).toNatClampNeg), .ref 75], h, 98, 10728)) lr_2056 rfl ?_
  refine j_Lst (c' := (2058, [(3, .int i), (2, .ref 75), (1, .ref 0), (0, .ref x_scr)], [.int 3, .int i, .ref x_scr, .int (xs ((i + 2)).toNatClampNeg), .int (xs ((i + 1)).toNatClampNeg), .ref 75], h, 98, 10728)) lr_2057 rfl ?_
  refine j_Lst (c' := (2059, [(3, .int i), (2, .ref 75), (1, .ref 0), (0, .ref x_scr)], [.int (i + 3), .ref x_scr, .int (xs ((i + 2)).toNatClampNeg), .int (xs ((i + 1)).toNatClampNeg), .ref 75], h, 98, 10728)) lr_2058 rfl ?_
  refine j_Lsl (c' := (2060, [(3, .int i), (2, .ref 75), (1, .ref 0), (0, .ref x_scr)], [.int (xs ((i + 3)).toNatClampNeg), .int (xs ((i + 2)).toNatClampNeg), .int (xs ((i + 1)).toNatClampNeg), .ref 75], h, 98, 10728)) lr_2059 rfl h3 ?_
  exact kk

set_option maxRecDepth 100000 in
theorem x_c62d (h : xH) (L : Nat) (xs : Nat → Int32) (i : Int32) (h0 : ¬ (i < 0 ∨ L ≤ (i).toNatClampNeg)) (h1 : ¬ (i + 1 < 0 ∨ L ≤ (i + 1).toNatClampNeg)) (h2 : ¬ (i + 2 < 0 ∨ L ≤ (i + 2).toNatClampNeg)) (h3 : ¬ (i + 3 < 0 ∨ L ≤ (i + 3).toNatClampNeg)) (h4 : ¬ (i + 4 < 0 ∨ L ≤ (i + 4).toNatClampNeg)) (h5 : ¬ (i + 5 < 0 ∨ L ≤ (i + 5).toNatClampNeg)) (w : Int32) {P : Option Value × xH × Nat × Nat → Prop} (kk : x_R x_mt (some (L, xs)) 10 M_law (18, [(3, .int (i + Int32.ofInt (6))), (2, .ref 75), (1, .ref 0), (0, .ref x_scr)], [], h, 98, 10728) P) : x_R x_mt (some (L, xs)) 10 M_law (2063, [(3, .int i), (2, .ref 75), (1, .ref 0), (0, .ref x_scr)], [.int w], h, 98, 10728) P := by
  refine j_Lst (c' := (2064, [(3, .int i), (2, .ref 75), (1, .ref 0), (0, .ref x_scr)], [], h, 98, 10728)) lr_2063 rfl ?_
  refine j_Lst (c' := (2368, [(3, .int i), (2, .ref 75), (1, .ref 0), (0, .ref x_scr)], [], h, 98, 10728)) lr_2064 rfl ?_
  refine j_Lst (c' := (2371, [(3, .int (i + Int32.ofInt (6))), (2, .ref 75), (1, .ref 0), (0, .ref x_scr)], [], h, 98, 10728)) lr_2368 rfl ?_
  refine j_Lst (c' := (18, [(3, .int (i + Int32.ofInt (6))), (2, .ref 75), (1, .ref 0), (0, .ref x_scr)], [], h, 98, 10728)) lr_2371 rfl ?_
  exact kk

set_option maxRecDepth 100000 in
theorem x_c63a (h : xH) (L : Nat) (xs : Nat → Int32) (i : Int32) (h0 : ¬ (i < 0 ∨ L ≤ (i).toNatClampNeg)) (h1 : ¬ (i + 1 < 0 ∨ L ≤ (i + 1).toNatClampNeg)) (h2 : ¬ (i + 2 < 0 ∨ L ≤ (i + 2).toNatClampNeg)) (h3 : ¬ (i + 3 < 0 ∨ L ≤ (i + 3).toNatClampNeg)) (h4 : ¬ (i + 4 < 0 ∨ L ≤ (i + 4).toNatClampNeg)) (h5 : ¬ (i + 5 < 0 ∨ L ≤ (i + 5).toNatClampNeg)) {P : Option Value × xH × Nat × Nat → Prop} (kk : x_R x_mt (some (L, xs)) 10 M_law (2088, [(3, .int i), (2, .ref 75), (1, .ref 0), (0, .ref x_scr)], [.int (xs ((i + 4)).toNatClampNeg), .int (xs ((i + 3)).toNatClampNeg), .int (xs ((i + 2)).toNatClampNeg), .int (xs ((i + 1)).toNatClampNeg), .ref 0], h, 98, 10728) P) : x_R x_mt (some (L, xs)) 10 M_law (2067, [(3, .int i), (2, .ref 75), (1, .ref 0), (0, .ref x_scr)], [], h, 98, 10728) P := by
  refine j_Lst (c' := (2068, [(3, .int i), (2, .ref 75), (1, .ref 0), (0, .ref x_scr)], [.ref 0], h, 98, 10728)) lr_2067 rfl ?_
  refine j_Lst (c' := (2069, [(3, .int i), (2, .ref 75), (1, .ref 0), (0, .ref x_scr)], [.ref x_scr, .ref 0], h, 98, 10728)) lr_2068 rfl ?_
  refine j_Lst (c' := (2070, [(3, .int i), (2, .ref 75), (1, .ref 0), (0, .ref x_scr)], [.int i, .ref x_scr, .ref 0], h, 98, 10728)) lr_2069 rfl ?_
  refine j_Lst (c' := (2071, [(3, .int i), (2, .ref 75), (1, .ref 0), (0, .ref x_scr)], [.int 1, .int i, .ref x_scr, .ref 0], h, 98, 10728)) lr_2070 rfl ?_
  refine j_Lst (c' := (2072, [(3, .int i), (2, .ref 75), (1, .ref 0), (0, .ref x_scr)], [.int (i + 1), .ref x_scr, .ref 0], h, 98, 10728)) lr_2071 rfl ?_
  refine j_Lsl (c' := (2073, [(3, .int i), (2, .ref 75), (1, .ref 0), (0, .ref x_scr)], [.int (xs ((i + 1)).toNatClampNeg), .ref 0], h, 98, 10728)) lr_2072 rfl h1 ?_
  refine j_Lst (c' := (2074, [(3, .int i), (2, .ref 75), (1, .ref 0), (0, .ref x_scr)], [.ref x_scr, .int (xs ((i + 1)).toNatClampNeg), .ref 0], h, 98, 10728)) lr_2073 rfl ?_
  refine j_Lst (c' := (2075, [(3, .int i), (2, .ref 75), (1, .ref 0), (0, .ref x_scr)], [.int i, .ref x_scr, .int (xs ((i + 1)).toNatClampNeg), .ref 0], h, 98, 10728)) lr_2074 rfl ?_
  refine j_Lst (c' := (2076, [(3, .int i), (2, .ref 75), (1, .ref 0), (0, .ref x_scr)], [.int 2, .int i, .ref x_scr, .int (xs ((i + 1)).toNatClampNeg), .ref 0], h, 98, 10728)) lr_2075 rfl ?_
  refine j_Lst (c' := (2077, [(3, .int i), (2, .ref 75), (1, .ref 0), (0, .ref x_scr)], [.int (i + 2), .ref x_scr, .int (xs ((i + 1)).toNatClampNeg), .ref 0], h, 98, 10728)) lr_2076 rfl ?_
  refine j_Lsl (c' := (2078, [(3, .int i), (2, .ref 75), (1, .ref 0), (0, .ref x_scr)], [.int (xs ((i + 2)).toNatClampNeg), .int (xs ((i + 1)).toNatClampNeg), .ref 0], h, 98, 10728)) lr_2077 rfl h2 ?_
  refine j_Lst (c' := (2079, [(3, .int i), (2, .ref 75), (1, .ref 0), (0, .ref x_scr)], [.ref x_scr, .int (xs ((i + 2)).toNatClampNeg), .int (xs ((i + 1)).toNatClampNeg), .ref 0], h, 98, 10728)) lr_2078 rfl ?_
  refine j_Lst (c' := (2080, [(3, .int i), (2, .ref 75), (1, .ref 0), (0, .ref x_scr)], [.int i, .ref x_scr, .int (xs ((i + 2)).toNatClampNeg), .int (xs ((i + 1)).toNatClampNeg), .ref 0], h, 98, 10728)) lr_2079 rfl ?_
  refine j_Lst (c' := (2081, [(3, .int i), (2, .ref 75), (1, .ref 0), (0, .ref x_scr)], [.int 3, .int i, .ref x_scr, .int (xs ((i + 2)).toNatClampNeg), .int (xs ((i + 1)).toNatClampNeg), .ref 0], h, 98, 10728)) lr_2080 rfl ?_
  refine j_Lst (c' := (2082, [(3, .int i), (2, .ref 75), (1, .ref 0), (0, .ref x_scr)], [.int (i + 3), .ref x_scr, .int (xs ((i + 2)).toNatClampNeg), .int (xs ((i + 1)).toNatClampNeg), .ref 0], h, 98, 10728)) lr_2081 rfl ?_
  refine j_Lsl (c' := (2083, [(3, .int i), (2, .ref 75), (1, .ref 0), (0, .ref x_scr)], [.int (xs ((i + 3)).toNatClampNeg), .int (xs ((i + 2)).toNatClampNeg), .int (xs ((i + 1)).toNatClampNeg), .ref 0], h, 98, 10728)) lr_2082 rfl h3 ?_
  refine j_Lst (c' := (2084, [(3, .int i), (2, .ref 75), (1, .ref 0), (0, .ref x_scr)], [.ref x_scr, .int (xs ((i + 3)).toNatClampNeg), .int (xs ((i + 2)).toNatClampNeg), .int (xs ((i + 1)).toNatClampNeg), .ref 0], h, 98, 10728)) lr_2083 rfl ?_
  refine j_Lst (c' := (2085, [(3, .int i), (2, .ref 75), (1, .ref 0), (0, .ref x_scr)], [.int i, .ref x_scr, .int (xs ((i + 3)).toNatClampNeg), .int (xs ((i + 2)).toNatClampNeg), .int (xs ((i + 1)).toNatClampNeg), .ref 0], h, 98, 10728)) lr_2084 rfl ?_
  refine j_Lst (c' := (2086, [(3, .int i), (2, .ref 75), (1, .ref 0), (0, .ref x_scr)], [.int 4, .int i, .ref x_scr, .int (xs ((i + 3)).toNatClampNeg), .int (xs ((i + 2)).toNatClampNeg), .int (xs ((i + 1)).toNatClampNeg), .ref 0], h, 98, 10728)) lr_2085 rfl ?_
  refine j_Lst (c' := (2087, [(3, .int i), (2, .ref 75), (1, .ref 0), (0, .ref x_scr)], [.int (i + 4), .ref x_scr, .int (xs ((i + 3)).toNatClampNeg), .int (xs ((i + 2)).toNatClampNeg), .int (xs ((i + 1)).toNatClampNeg), .ref 0], h, 98, 10728)) lr_2086 rfl ?_
  refine j_Lsl (c' := (2088, [(3, .int i), (2, .ref 75), (1, .ref 0), (0, .ref x_scr)], [.int (xs ((i + 4)).toNatClampNeg), .int (xs ((i + 3)).toNatClampNeg), .int (xs ((i + 2)).toNatClampNeg), .int (xs ((i + 1)).toNatClampNeg), .ref 0], h, 98, 10728)) lr_2087 rfl h4 ?_
  exact kk

set_option maxRecDepth 100000 in
theorem x_c63b (h : xH) (L : Nat) (xs : Nat → Int32) (i : Int32) (h0 : ¬ (i < 0 ∨ L ≤ (i).toNatClampNeg)) (h1 : ¬ (i + 1 < 0 ∨ L ≤ (i + 1).toNatClampNeg)) (h2 : ¬ (i + 2 < 0 ∨ L ≤ (i + 2).toNatClampNeg)) (h3 : ¬ (i + 3 < 0 ∨ L ≤ (i + 3).toNatClampNeg)) (h4 : ¬ (i + 4 < 0 ∨ L ≤ (i + 4).toNatClampNeg)) (h5 : ¬ (i + 5 < 0 ∨ L ≤ (i + 5).toNatClampNeg)) (v : Int32) {P : Option Value × xH × Nat × Nat → Prop} (kk : x_R x_mt (some (L, xs)) 10 M_law (2113, [(3, .int i), (2, .ref 75), (1, .ref 0), (0, .ref x_scr)], [.int (xs ((i + 4)).toNatClampNeg), .int (xs ((i + 3)).toNatClampNeg), .int (xs ((i + 2)).toNatClampNeg), .int (xs ((i + 1)).toNatClampNeg), .ref 75], h, 98, 10728) P) : x_R x_mt (some (L, xs)) 10 M_law (2091, [(3, .int i), (2, .ref 75), (1, .ref 0), (0, .ref x_scr)], [.int v], h, 98, 10728) P := by
  refine j_Lst (c' := (2092, [(3, .int i), (2, .ref 75), (1, .ref 0), (0, .ref x_scr)], [], h, 98, 10728)) lr_2091 rfl ?_
  refine j_Lst (c' := (2093, [(3, .int i), (2, .ref 75), (1, .ref 0), (0, .ref x_scr)], [.ref 75], h, 98, 10728)) lr_2092 rfl ?_
  refine j_Lst (c' := (2094, [(3, .int i), (2, .ref 75), (1, .ref 0), (0, .ref x_scr)], [.ref x_scr, .ref 75], h, 98, 10728)) lr_2093 rfl ?_
  refine j_Lst (c' := (2095, [(3, .int i), (2, .ref 75), (1, .ref 0), (0, .ref x_scr)], [.int i, .ref x_scr, .ref 75], h, 98, 10728)) lr_2094 rfl ?_
  refine j_Lst (c' := (2096, [(3, .int i), (2, .ref 75), (1, .ref 0), (0, .ref x_scr)], [.int 1, .int i, .ref x_scr, .ref 75], h, 98, 10728)) lr_2095 rfl ?_
  refine j_Lst (c' := (2097, [(3, .int i), (2, .ref 75), (1, .ref 0), (0, .ref x_scr)], [.int (i + 1), .ref x_scr, .ref 75], h, 98, 10728)) lr_2096 rfl ?_
  refine j_Lsl (c' := (2098, [(3, .int i), (2, .ref 75), (1, .ref 0), (0, .ref x_scr)], [.int (xs ((i + 1)).toNatClampNeg), .ref 75], h, 98, 10728)) lr_2097 rfl h1 ?_
  refine j_Lst (c' := (2099, [(3, .int i), (2, .ref 75), (1, .ref 0), (0, .ref x_scr)], [.ref x_scr, .int (xs ((i + 1)).toNatClampNeg), .ref 75], h, 98, 10728)) lr_2098 rfl ?_
  refine j_Lst (c' := (2100, [(3, .int i), (2, .ref 75), (1, .ref 0), (0, .ref x_scr)], [.int i, .ref x_scr, .int (xs ((i + 1)).toNatClampNeg), .ref 75], h, 98, 10728)) lr_2099 rfl ?_
  refine j_Lst (c' := (2101, [(3, .int i), (2, .ref 75), (1, .ref 0), (0, .ref x_scr)], [.int 2, .int i, .ref x_scr, .int (xs ((i + 1)).toNatClampNeg), .ref 75], h, 98, 10728)) lr_2100 rfl ?_
  refine j_Lst (c' := (2102, [(3, .int i), (2, .ref 75), (1, .ref 0), (0, .ref x_scr)], [.int (i + 2), .ref x_scr, .int (xs ((i + 1)).toNatClampNeg), .ref 75], h, 98, 10728)) lr_2101 rfl ?_
  refine j_Lsl (c' := (2103, [(3, .int i), (2, .ref 75), (1, .ref 0), (0, .ref x_scr)], [.int (xs ((i + 2)).toNatClampNeg), .int (xs ((i + 1)).toNatClampNeg), .ref 75], h, 98, 10728)) lr_2102 rfl h2 ?_
  refine j_Lst (c' := (2104, [(3, .int i), (2, .ref 75), (1, .ref 0), (0, .ref x_scr)], [.ref x_scr, .int (xs ((i + 2)).toNatClampNeg), .int (xs ((i + 1)).toNatClampNeg), .ref 75], h, 98, 10728)) lr_2103 rfl ?_
  refine j_Lst (c' := (2105, [(3, .int i), (2, .ref 75), (1, .ref 0), (0, .ref x_scr)], [.int i, .ref x_scr, .int (xs ((i + 2)).toNatClampNeg), .int (xs ((i + 1)).toNatClampNeg), .ref 75], h, 98, 10728)) lr_2104 rfl ?_
  refine j_Lst (c' := (2106, [(3, .int i), (2, .ref 75), (1, .ref 0), (0, .ref x_scr)], [.int 3, .int i, .ref x_scr, .int (xs ((i + 2)).toNatClampNeg), .int (xs ((i + 1)).toNatClampNeg), .ref 75], h, 98, 10728)) lr_2105 rfl ?_
  refine j_Lst (c' := (2107, [(3, .int i), (2, .ref 75), (1, .ref 0), (0, .ref x_scr)], [.int (i + 3), .ref x_scr, .int (xs ((i + 2)).toNatClampNeg), .int (xs ((i + 1)).toNatClampNeg), .ref 75], h, 98, 10728)) lr_2106 rfl ?_
  refine j_Lsl (c' := (2108, [(3, .int i), (2, .ref 75), (1, .ref 0), (0, .ref x_scr)], [.int (xs ((i + 3)).toNatClampNeg), .int (xs ((i + 2)).toNatClampNeg), .int (xs ((i + 1)).toNatClampNeg), .ref 75], h, 98, 10728)) lr_2107 rfl h3 ?_
  refine j_Lst (c' := (2109, [(3, .int i), (2, .ref 75), (1, .ref 0), (0, .ref x_scr)], [.ref x_scr, .int (xs ((i + 3)).toNatClampNeg), .int (xs ((i + 2)).toNatClampNeg), .int (xs ((i + 1)).toNatClampNeg), .ref 75], h, 98, 10728)) lr_2108 rfl ?_
  refine j_Lst (c' := (2110, [(3, .int i), (2, .ref 75), (1, .ref 0), (0, .ref x_scr)], [.int i, .ref x_scr, .int (xs ((i + 3)).toNatClampNeg), .int (xs ((i + 2)).toNatClampNeg), .int (xs ((i + 1)).toNatClampNeg), .ref 75], h, 98, 10728)) lr_2109 rfl ?_
  refine j_Lst (c' := (2111, [(3, .int i), (2, .ref 75), (1, .ref 0), (0, .ref x_scr)], [.int 4, .int i, .ref x_scr, .int (xs ((i + 3)).toNatClampNeg), .int (xs ((i + 2)).toNatClampNeg), .int (xs ((i + 1)).toNatClampNeg), .ref 75], h, 98, 10728)) lr_2110 rfl ?_
  refine j_Lst (c' := (2112, [(3, .int i), (2, .ref 75), (1, .ref 0), (0, .ref x_scr)], [.int (i + 4), .ref x_scr, .int (xs ((i + 3)).toNatClampNeg), .int (xs ((i + 2)).toNatClampNeg), .int (xs ((i + 1)).toNatClampNeg), .ref 75], h, 98, 10728)) lr_2111 rfl ?_
  refine j_Lsl (c' := (2113, [(3, .int i), (2, .ref 75), (1, .ref 0), (0, .ref x_scr)], [.int (xs ((i + 4)).toNatClampNeg), .int (xs ((i + 3)).toNatClampNeg), .int (xs ((i + 2)).toNatClampNeg), .int (xs ((i + 1)).toNatClampNeg), .ref 75], h, 98, 10728)) lr_2112 rfl h4 ?_
  exact kk

set_option maxRecDepth 100000 in
theorem x_c63d (h : xH) (L : Nat) (xs : Nat → Int32) (i : Int32) (h0 : ¬ (i < 0 ∨ L ≤ (i).toNatClampNeg)) (h1 : ¬ (i + 1 < 0 ∨ L ≤ (i + 1).toNatClampNeg)) (h2 : ¬ (i + 2 < 0 ∨ L ≤ (i + 2).toNatClampNeg)) (h3 : ¬ (i + 3 < 0 ∨ L ≤ (i + 3).toNatClampNeg)) (h4 : ¬ (i + 4 < 0 ∨ L ≤ (i + 4).toNatClampNeg)) (h5 : ¬ (i + 5 < 0 ∨ L ≤ (i + 5).toNatClampNeg)) (w : Int32) {P : Option Value × xH × Nat × Nat → Prop} (kk : x_R x_mt (some (L, xs)) 10 M_law (18, [(3, .int (i + Int32.ofInt (6))), (2, .ref 75), (1, .ref 0), (0, .ref x_scr)], [], h, 98, 10728) P) : x_R x_mt (some (L, xs)) 10 M_law (2116, [(3, .int i), (2, .ref 75), (1, .ref 0), (0, .ref x_scr)], [.int w], h, 98, 10728) P := by
  refine j_Lst (c' := (2117, [(3, .int i), (2, .ref 75), (1, .ref 0), (0, .ref x_scr)], [], h, 98, 10728)) lr_2116 rfl ?_
  refine j_Lst (c' := (2368, [(3, .int i), (2, .ref 75), (1, .ref 0), (0, .ref x_scr)], [], h, 98, 10728)) lr_2117 rfl ?_
  refine j_Lst (c' := (2371, [(3, .int (i + Int32.ofInt (6))), (2, .ref 75), (1, .ref 0), (0, .ref x_scr)], [], h, 98, 10728)) lr_2368 rfl ?_
  refine j_Lst (c' := (18, [(3, .int (i + Int32.ofInt (6))), (2, .ref 75), (1, .ref 0), (0, .ref x_scr)], [], h, 98, 10728)) lr_2371 rfl ?_
  exact kk

set_option maxRecDepth 100000 in
theorem x_c64a (h : xH) (L : Nat) (xs : Nat → Int32) (i : Int32) (h0 : ¬ (i < 0 ∨ L ≤ (i).toNatClampNeg)) (h1 : ¬ (i + 1 < 0 ∨ L ≤ (i + 1).toNatClampNeg)) (h2 : ¬ (i + 2 < 0 ∨ L ≤ (i + 2).toNatClampNeg)) (h3 : ¬ (i + 3 < 0 ∨ L ≤ (i + 3).toNatClampNeg)) (h4 : ¬ (i + 4 < 0 ∨ L ≤ (i + 4).toNatClampNeg)) (h5 : ¬ (i + 5 < 0 ∨ L ≤ (i + 5).toNatClampNeg)) {P : Option Value × xH × Nat × Nat → Prop} (kk : x_R x_mt (some (L, xs)) 10 M_law (2126, [(3, .int i), (2, .ref 75), (1, .ref 0), (0, .ref x_scr)], [.int (xs ((i + 1)).toNatClampNeg), .ref 0], h, 98, 10728) P) : x_R x_mt (some (L, xs)) 10 M_law (2120, [(3, .int i), (2, .ref 75), (1, .ref 0), (0, .ref x_scr)], [], h, 98, 10728) P := by
  refine j_Lst (c' := (2121, [(3, .int i), (2, .ref 75), (1, .ref 0), (0, .ref x_scr)], [.ref 0], h, 98, 10728)) lr_2120 rfl ?_
  refine j_Lst (c' := (2122, [(3, .int i), (2, .ref 75), (1, .ref 0), (0, .ref x_scr)], [.ref x_scr, .ref 0], h, 98, 10728)) lr_2121 rfl ?_
  refine j_Lst (c' := (2123, [(3, .int i), (2, .ref 75), (1, .ref 0), (0, .ref x_scr)], [.int i, .ref x_scr, .ref 0], h, 98, 10728)) lr_2122 rfl ?_
  refine j_Lst (c' := (2124, [(3, .int i), (2, .ref 75), (1, .ref 0), (0, .ref x_scr)], [.int 1, .int i, .ref x_scr, .ref 0], h, 98, 10728)) lr_2123 rfl ?_
  refine j_Lst (c' := (2125, [(3, .int i), (2, .ref 75), (1, .ref 0), (0, .ref x_scr)], [.int (i + 1), .ref x_scr, .ref 0], h, 98, 10728)) lr_2124 rfl ?_
  refine j_Lsl (c' := (2126, [(3, .int i), (2, .ref 75), (1, .ref 0), (0, .ref x_scr)], [.int (xs ((i + 1)).toNatClampNeg), .ref 0], h, 98, 10728)) lr_2125 rfl h1 ?_
  exact kk

set_option maxRecDepth 100000 in
theorem x_c64b (h : xH) (L : Nat) (xs : Nat → Int32) (i : Int32) (h0 : ¬ (i < 0 ∨ L ≤ (i).toNatClampNeg)) (h1 : ¬ (i + 1 < 0 ∨ L ≤ (i + 1).toNatClampNeg)) (h2 : ¬ (i + 2 < 0 ∨ L ≤ (i + 2).toNatClampNeg)) (h3 : ¬ (i + 3 < 0 ∨ L ≤ (i + 3).toNatClampNeg)) (h4 : ¬ (i + 4 < 0 ∨ L ≤ (i + 4).toNatClampNeg)) (h5 : ¬ (i + 5 < 0 ∨ L ≤ (i + 5).toNatClampNeg)) (v : Int32) {P : Option Value × xH × Nat × Nat → Prop} (kk : x_R x_mt (some (L, xs)) 10 M_law (2136, [(3, .int i), (2, .ref 75), (1, .ref 0), (0, .ref x_scr)], [.int (xs ((i + 1)).toNatClampNeg), .ref 75], h, 98, 10728) P) : x_R x_mt (some (L, xs)) 10 M_law (2129, [(3, .int i), (2, .ref 75), (1, .ref 0), (0, .ref x_scr)], [.int v], h, 98, 10728) P := by
  refine j_Lst (c' := (2130, [(3, .int i), (2, .ref 75), (1, .ref 0), (0, .ref x_scr)], [], h, 98, 10728)) lr_2129 rfl ?_
  refine j_Lst (c' := (2131, [(3, .int i), (2, .ref 75), (1, .ref 0), (0, .ref x_scr)], [.ref 75], h, 98, 10728)) lr_2130 rfl ?_
  refine j_Lst (c' := (2132, [(3, .int i), (2, .ref 75), (1, .ref 0), (0, .ref x_scr)], [.ref x_scr, .ref 75], h, 98, 10728)) lr_2131 rfl ?_
  refine j_Lst (c' := (2133, [(3, .int i), (2, .ref 75), (1, .ref 0), (0, .ref x_scr)], [.int i, .ref x_scr, .ref 75], h, 98, 10728)) lr_2132 rfl ?_
  refine j_Lst (c' := (2134, [(3, .int i), (2, .ref 75), (1, .ref 0), (0, .ref x_scr)], [.int 1, .int i, .ref x_scr, .ref 75], h, 98, 10728)) lr_2133 rfl ?_
  refine j_Lst (c' := (2135, [(3, .int i), (2, .ref 75), (1, .ref 0), (0, .ref x_scr)], [.int (i + 1), .ref x_scr, .ref 75], h, 98, 10728)) lr_2134 rfl ?_
  refine j_Lsl (c' := (2136, [(3, .int i), (2, .ref 75), (1, .ref 0), (0, .ref x_scr)], [.int (xs ((i + 1)).toNatClampNeg), .ref 75], h, 98, 10728)) lr_2135 rfl h1 ?_
  exact kk

set_option maxRecDepth 100000 in
theorem x_c64d (h : xH) (L : Nat) (xs : Nat → Int32) (i : Int32) (h0 : ¬ (i < 0 ∨ L ≤ (i).toNatClampNeg)) (h1 : ¬ (i + 1 < 0 ∨ L ≤ (i + 1).toNatClampNeg)) (h2 : ¬ (i + 2 < 0 ∨ L ≤ (i + 2).toNatClampNeg)) (h3 : ¬ (i + 3 < 0 ∨ L ≤ (i + 3).toNatClampNeg)) (h4 : ¬ (i + 4 < 0 ∨ L ≤ (i + 4).toNatClampNeg)) (h5 : ¬ (i + 5 < 0 ∨ L ≤ (i + 5).toNatClampNeg)) (w : Int32) {P : Option Value × xH × Nat × Nat → Prop} (kk : x_R x_mt (some (L, xs)) 10 M_law (18, [(3, .int (i + Int32.ofInt (6))), (2, .ref 75), (1, .ref 0), (0, .ref x_scr)], [], h, 98, 10728) P) : x_R x_mt (some (L, xs)) 10 M_law (2139, [(3, .int i), (2, .ref 75), (1, .ref 0), (0, .ref x_scr)], [.int w], h, 98, 10728) P := by
  refine j_Lst (c' := (2140, [(3, .int i), (2, .ref 75), (1, .ref 0), (0, .ref x_scr)], [], h, 98, 10728)) lr_2139 rfl ?_
  refine j_Lst (c' := (2368, [(3, .int i), (2, .ref 75), (1, .ref 0), (0, .ref x_scr)], [], h, 98, 10728)) lr_2140 rfl ?_
  refine j_Lst (c' := (2371, [(3, .int (i + Int32.ofInt (6))), (2, .ref 75), (1, .ref 0), (0, .ref x_scr)], [], h, 98, 10728)) lr_2368 rfl ?_
  refine j_Lst (c' := (18, [(3, .int (i + Int32.ofInt (6))), (2, .ref 75), (1, .ref 0), (0, .ref x_scr)], [], h, 98, 10728)) lr_2371 rfl ?_
  exact kk

set_option maxRecDepth 100000 in
theorem x_c65a (h : xH) (L : Nat) (xs : Nat → Int32) (i : Int32) (h0 : ¬ (i < 0 ∨ L ≤ (i).toNatClampNeg)) (h1 : ¬ (i + 1 < 0 ∨ L ≤ (i + 1).toNatClampNeg)) (h2 : ¬ (i + 2 < 0 ∨ L ≤ (i + 2).toNatClampNeg)) (h3 : ¬ (i + 3 < 0 ∨ L ≤ (i + 3).toNatClampNeg)) (h4 : ¬ (i + 4 < 0 ∨ L ≤ (i + 4).toNatClampNeg)) (h5 : ¬ (i + 5 < 0 ∨ L ≤ (i + 5).toNatClampNeg)) {P : Option Value × xH × Nat × Nat → Prop} (kk : x_R x_mt (some (L, xs)) 10 M_law (2149, [(3, .int i), (2, .ref 75), (1, .ref 0), (0, .ref x_scr)], [.int (xs ((i + 1)).toNatClampNeg), .ref 0], h, 98, 10728) P) : x_R x_mt (some (L, xs)) 10 M_law (2143, [(3, .int i), (2, .ref 75), (1, .ref 0), (0, .ref x_scr)], [], h, 98, 10728) P := by
  refine j_Lst (c' := (2144, [(3, .int i), (2, .ref 75), (1, .ref 0), (0, .ref x_scr)], [.ref 0], h, 98, 10728)) lr_2143 rfl ?_
  refine j_Lst (c' := (2145, [(3, .int i), (2, .ref 75), (1, .ref 0), (0, .ref x_scr)], [.ref x_scr, .ref 0], h, 98, 10728)) lr_2144 rfl ?_
  refine j_Lst (c' := (2146, [(3, .int i), (2, .ref 75), (1, .ref 0), (0, .ref x_scr)], [.int i, .ref x_scr, .ref 0], h, 98, 10728)) lr_2145 rfl ?_
  refine j_Lst (c' := (2147, [(3, .int i), (2, .ref 75), (1, .ref 0), (0, .ref x_scr)], [.int 1, .int i, .ref x_scr, .ref 0], h, 98, 10728)) lr_2146 rfl ?_
  refine j_Lst (c' := (2148, [(3, .int i), (2, .ref 75), (1, .ref 0), (0, .ref x_scr)], [.int (i + 1), .ref x_scr, .ref 0], h, 98, 10728)) lr_2147 rfl ?_
  refine j_Lsl (c' := (2149, [(3, .int i), (2, .ref 75), (1, .ref 0), (0, .ref x_scr)], [.int (xs ((i + 1)).toNatClampNeg), .ref 0], h, 98, 10728)) lr_2148 rfl h1 ?_
  exact kk

set_option maxRecDepth 100000 in
theorem x_c65b (h : xH) (L : Nat) (xs : Nat → Int32) (i : Int32) (h0 : ¬ (i < 0 ∨ L ≤ (i).toNatClampNeg)) (h1 : ¬ (i + 1 < 0 ∨ L ≤ (i + 1).toNatClampNeg)) (h2 : ¬ (i + 2 < 0 ∨ L ≤ (i + 2).toNatClampNeg)) (h3 : ¬ (i + 3 < 0 ∨ L ≤ (i + 3).toNatClampNeg)) (h4 : ¬ (i + 4 < 0 ∨ L ≤ (i + 4).toNatClampNeg)) (h5 : ¬ (i + 5 < 0 ∨ L ≤ (i + 5).toNatClampNeg)) (v : Int32) {P : Option Value × xH × Nat × Nat → Prop} (kk : x_R x_mt (some (L, xs)) 10 M_law (2159, [(3, .int i), (2, .ref 75), (1, .ref 0), (0, .ref x_scr)], [.int (xs ((i + 1)).toNatClampNeg), .ref 75], h, 98, 10728) P) : x_R x_mt (some (L, xs)) 10 M_law (2152, [(3, .int i), (2, .ref 75), (1, .ref 0), (0, .ref x_scr)], [.int v], h, 98, 10728) P := by
  refine j_Lst (c' := (2153, [(3, .int i), (2, .ref 75), (1, .ref 0), (0, .ref x_scr)], [], h, 98, 10728)) lr_2152 rfl ?_
  refine j_Lst (c' := (2154, [(3, .int i), (2, .ref 75), (1, .ref 0), (0, .ref x_scr)], [.ref 75], h, 98, 10728)) lr_2153 rfl ?_
  refine j_Lst (c' := (2155, [(3, .int i), (2, .ref 75), (1, .ref 0), (0, .ref x_scr)], [.ref x_scr, .ref 75], h, 98, 10728)) lr_2154 rfl ?_
  refine j_Lst (c' := (2156, [(3, .int i), (2, .ref 75), (1, .ref 0), (0, .ref x_scr)], [.int i, .ref x_scr, .ref 75], h, 98, 10728)) lr_2155 rfl ?_
  refine j_Lst (c' := (2157, [(3, .int i), (2, .ref 75), (1, .ref 0), (0, .ref x_scr)], [.int 1, .int i, .ref x_scr, .ref 75], h, 98, 10728)) lr_2156 rfl ?_
  refine j_Lst (c' := (2158, [(3, .int i), (2, .ref 75), (1, .ref 0), (0, .ref x_scr)], [.int (i + 1), .ref x_scr, .ref 75], h, 98, 10728)) lr_2157 rfl ?_
  refine j_Lsl (c' := (2159, [(3, .int i), (2, .ref 75), (1, .ref 0), (0, .ref x_scr)], [.int (xs ((i + 1)).toNatClampNeg), .ref 75], h, 98, 10728)) lr_2158 rfl h1 ?_
  exact kk

set_option maxRecDepth 100000 in
theorem x_c65d (h : xH) (L : Nat) (xs : Nat → Int32) (i : Int32) (h0 : ¬ (i < 0 ∨ L ≤ (i).toNatClampNeg)) (h1 : ¬ (i + 1 < 0 ∨ L ≤ (i + 1).toNatClampNeg)) (h2 : ¬ (i + 2 < 0 ∨ L ≤ (i + 2).toNatClampNeg)) (h3 : ¬ (i + 3 < 0 ∨ L ≤ (i + 3).toNatClampNeg)) (h4 : ¬ (i + 4 < 0 ∨ L ≤ (i + 4).toNatClampNeg)) (h5 : ¬ (i + 5 < 0 ∨ L ≤ (i + 5).toNatClampNeg)) (w : Int32) {P : Option Value × xH × Nat × Nat → Prop} (kk : x_R x_mt (some (L, xs)) 10 M_law (18, [(3, .int (i + Int32.ofInt (6))), (2, .ref 75), (1, .ref 0), (0, .ref x_scr)], [], h, 98, 10728) P) : x_R x_mt (some (L, xs)) 10 M_law (2162, [(3, .int i), (2, .ref 75), (1, .ref 0), (0, .ref x_scr)], [.int w], h, 98, 10728) P := by
  refine j_Lst (c' := (2163, [(3, .int i), (2, .ref 75), (1, .ref 0), (0, .ref x_scr)], [], h, 98, 10728)) lr_2162 rfl ?_
  refine j_Lst (c' := (2368, [(3, .int i), (2, .ref 75), (1, .ref 0), (0, .ref x_scr)], [], h, 98, 10728)) lr_2163 rfl ?_
  refine j_Lst (c' := (2371, [(3, .int (i + Int32.ofInt (6))), (2, .ref 75), (1, .ref 0), (0, .ref x_scr)], [], h, 98, 10728)) lr_2368 rfl ?_
  refine j_Lst (c' := (18, [(3, .int (i + Int32.ofInt (6))), (2, .ref 75), (1, .ref 0), (0, .ref x_scr)], [], h, 98, 10728)) lr_2371 rfl ?_
  exact kk

set_option maxRecDepth 100000 in
theorem x_c66a (h : xH) (L : Nat) (xs : Nat → Int32) (i : Int32) (h0 : ¬ (i < 0 ∨ L ≤ (i).toNatClampNeg)) (h1 : ¬ (i + 1 < 0 ∨ L ≤ (i + 1).toNatClampNeg)) (h2 : ¬ (i + 2 < 0 ∨ L ≤ (i + 2).toNatClampNeg)) (h3 : ¬ (i + 3 < 0 ∨ L ≤ (i + 3).toNatClampNeg)) (h4 : ¬ (i + 4 < 0 ∨ L ≤ (i + 4).toNatClampNeg)) (h5 : ¬ (i + 5 < 0 ∨ L ≤ (i + 5).toNatClampNeg)) {P : Option Value × xH × Nat × Nat → Prop} (kk : x_R x_mt (some (L, xs)) 10 M_law (2172, [(3, .int i), (2, .ref 75), (1, .ref 0), (0, .ref x_scr)], [.int (xs ((i + 1)).toNatClampNeg), .ref 0], h, 98, 10728) P) : x_R x_mt (some (L, xs)) 10 M_law (2166, [(3, .int i), (2, .ref 75), (1, .ref 0), (0, .ref x_scr)], [], h, 98, 10728) P := by
  refine j_Lst (c' := (2167, [(3, .int i), (2, .ref 75), (1, .ref 0), (0, .ref x_scr)], [.ref 0], h, 98, 10728)) lr_2166 rfl ?_
  refine j_Lst (c' := (2168, [(3, .int i), (2, .ref 75), (1, .ref 0), (0, .ref x_scr)], [.ref x_scr, .ref 0], h, 98, 10728)) lr_2167 rfl ?_
  refine j_Lst (c' := (2169, [(3, .int i), (2, .ref 75), (1, .ref 0), (0, .ref x_scr)], [.int i, .ref x_scr, .ref 0], h, 98, 10728)) lr_2168 rfl ?_
  refine j_Lst (c' := (2170, [(3, .int i), (2, .ref 75), (1, .ref 0), (0, .ref x_scr)], [.int 1, .int i, .ref x_scr, .ref 0], h, 98, 10728)) lr_2169 rfl ?_
  refine j_Lst (c' := (2171, [(3, .int i), (2, .ref 75), (1, .ref 0), (0, .ref x_scr)], [.int (i + 1), .ref x_scr, .ref 0], h, 98, 10728)) lr_2170 rfl ?_
  refine j_Lsl (c' := (2172, [(3, .int i), (2, .ref 75), (1, .ref 0), (0, .ref x_scr)], [.int (xs ((i + 1)).toNatClampNeg), .ref 0], h, 98, 10728)) lr_2171 rfl h1 ?_
  exact kk

set_option maxRecDepth 100000 in
theorem x_c66b (h : xH) (L : Nat) (xs : Nat → Int32) (i : Int32) (h0 : ¬ (i < 0 ∨ L ≤ (i).toNatClampNeg)) (h1 : ¬ (i + 1 < 0 ∨ L ≤ (i + 1).toNatClampNeg)) (h2 : ¬ (i + 2 < 0 ∨ L ≤ (i + 2).toNatClampNeg)) (h3 : ¬ (i + 3 < 0 ∨ L ≤ (i + 3).toNatClampNeg)) (h4 : ¬ (i + 4 < 0 ∨ L ≤ (i + 4).toNatClampNeg)) (h5 : ¬ (i + 5 < 0 ∨ L ≤ (i + 5).toNatClampNeg)) (v : Int32) {P : Option Value × xH × Nat × Nat → Prop} (kk : x_R x_mt (some (L, xs)) 10 M_law (2182, [(3, .int i), (2, .ref 75), (1, .ref 0), (0, .ref x_scr)], [.int (xs ((i + 1)).toNatClampNeg), .ref 75], h, 98, 10728) P) : x_R x_mt (some (L, xs)) 10 M_law (2175, [(3, .int i), (2, .ref 75), (1, .ref 0), (0, .ref x_scr)], [.int v], h, 98, 10728) P := by
  refine j_Lst (c' := (2176, [(3, .int i), (2, .ref 75), (1, .ref 0), (0, .ref x_scr)], [], h, 98, 10728)) lr_2175 rfl ?_
  refine j_Lst (c' := (2177, [(3, .int i), (2, .ref 75), (1, .ref 0), (0, .ref x_scr)], [.ref 75], h, 98, 10728)) lr_2176 rfl ?_
  refine j_Lst (c' := (2178, [(3, .int i), (2, .ref 75), (1, .ref 0), (0, .ref x_scr)], [.ref x_scr, .ref 75], h, 98, 10728)) lr_2177 rfl ?_
  refine j_Lst (c' := (2179, [(3, .int i), (2, .ref 75), (1, .ref 0), (0, .ref x_scr)], [.int i, .ref x_scr, .ref 75], h, 98, 10728)) lr_2178 rfl ?_
  refine j_Lst (c' := (2180, [(3, .int i), (2, .ref 75), (1, .ref 0), (0, .ref x_scr)], [.int 1, .int i, .ref x_scr, .ref 75], h, 98, 10728)) lr_2179 rfl ?_
  refine j_Lst (c' := (2181, [(3, .int i), (2, .ref 75), (1, .ref 0), (0, .ref x_scr)], [.int (i + 1), .ref x_scr, .ref 75], h, 98, 10728)) lr_2180 rfl ?_
  refine j_Lsl (c' := (2182, [(3, .int i), (2, .ref 75), (1, .ref 0), (0, .ref x_scr)], [.int (xs ((i + 1)).toNatClampNeg), .ref 75], h, 98, 10728)) lr_2181 rfl h1 ?_
  exact kk

set_option maxRecDepth 100000 in
theorem x_c66d (h : xH) (L : Nat) (xs : Nat → Int32) (i : Int32) (h0 : ¬ (i < 0 ∨ L ≤ (i).toNatClampNeg)) (h1 : ¬ (i + 1 < 0 ∨ L ≤ (i + 1).toNatClampNeg)) (h2 : ¬ (i + 2 < 0 ∨ L ≤ (i + 2).toNatClampNeg)) (h3 : ¬ (i + 3 < 0 ∨ L ≤ (i + 3).toNatClampNeg)) (h4 : ¬ (i + 4 < 0 ∨ L ≤ (i + 4).toNatClampNeg)) (h5 : ¬ (i + 5 < 0 ∨ L ≤ (i + 5).toNatClampNeg)) (w : Int32) {P : Option Value × xH × Nat × Nat → Prop} (kk : x_R x_mt (some (L, xs)) 10 M_law (18, [(3, .int (i + Int32.ofInt (6))), (2, .ref 75), (1, .ref 0), (0, .ref x_scr)], [], h, 98, 10728) P) : x_R x_mt (some (L, xs)) 10 M_law (2185, [(3, .int i), (2, .ref 75), (1, .ref 0), (0, .ref x_scr)], [.int w], h, 98, 10728) P := by
  refine j_Lst (c' := (2186, [(3, .int i), (2, .ref 75), (1, .ref 0), (0, .ref x_scr)], [], h, 98, 10728)) lr_2185 rfl ?_
  refine j_Lst (c' := (2368, [(3, .int i), (2, .ref 75), (1, .ref 0), (0, .ref x_scr)], [], h, 98, 10728)) lr_2186 rfl ?_
  refine j_Lst (c' := (2371, [(3, .int (i + Int32.ofInt (6))), (2, .ref 75), (1, .ref 0), (0, .ref x_scr)], [], h, 98, 10728)) lr_2368 rfl ?_
  refine j_Lst (c' := (18, [(3, .int (i + Int32.ofInt (6))), (2, .ref 75), (1, .ref 0), (0, .ref x_scr)], [], h, 98, 10728)) lr_2371 rfl ?_
  exact kk

set_option maxRecDepth 100000 in
theorem x_c67a (h : xH) (L : Nat) (xs : Nat → Int32) (i : Int32) (h0 : ¬ (i < 0 ∨ L ≤ (i).toNatClampNeg)) (h1 : ¬ (i + 1 < 0 ∨ L ≤ (i + 1).toNatClampNeg)) (h2 : ¬ (i + 2 < 0 ∨ L ≤ (i + 2).toNatClampNeg)) (h3 : ¬ (i + 3 < 0 ∨ L ≤ (i + 3).toNatClampNeg)) (h4 : ¬ (i + 4 < 0 ∨ L ≤ (i + 4).toNatClampNeg)) (h5 : ¬ (i + 5 < 0 ∨ L ≤ (i + 5).toNatClampNeg)) {P : Option Value × xH × Nat × Nat → Prop} (kk : x_R x_mt (some (L, xs)) 10 M_law (2205, [(3, .int i), (2, .ref 75), (1, .ref 0), (0, .ref x_scr)], [.int (xs ((i + 3)).toNatClampNeg), .int (xs ((i + 2)).toNatClampNeg), .int (xs ((i + 1)).toNatClampNeg), .ref 0], h, 98, 10728) P) : x_R x_mt (some (L, xs)) 10 M_law (2189, [(3, .int i), (2, .ref 75), (1, .ref 0), (0, .ref x_scr)], [], h, 98, 10728) P := by
  refine j_Lst (c' := (2190, [(3, .int i), (2, .ref 75), (1, .ref 0), (0, .ref x_scr)], [.ref 0], h, 98, 10728)) lr_2189 rfl ?_
  refine j_Lst (c' := (2191, [(3, .int i), (2, .ref 75), (1, .ref 0), (0, .ref x_scr)], [.ref x_scr, .ref 0], h, 98, 10728)) lr_2190 rfl ?_
  refine j_Lst (c' := (2192, [(3, .int i), (2, .ref 75), (1, .ref 0), (0, .ref x_scr)], [.int i, .ref x_scr, .ref 0], h, 98, 10728)) lr_2191 rfl ?_
  refine j_Lst (c' := (2193, [(3, .int i), (2, .ref 75), (1, .ref 0), (0, .ref x_scr)], [.int 1, .int i, .ref x_scr, .ref 0], h, 98, 10728)) lr_2192 rfl ?_
  refine j_Lst (c' := (2194, [(3, .int i), (2, .ref 75), (1, .ref 0), (0, .ref x_scr)], [.int (i + 1), .ref x_scr, .ref 0], h, 98, 10728)) lr_2193 rfl ?_
  refine j_Lsl (c' := (2195, [(3, .int i), (2, .ref 75), (1, .ref 0), (0, .ref x_scr)], [.int (xs ((i + 1)).toNatClampNeg), .ref 0], h, 98, 10728)) lr_2194 rfl h1 ?_
  refine j_Lst (c' := (2196, [(3, .int i), (2, .ref 75), (1, .ref 0), (0, .ref x_scr)], [.ref x_scr, .int (xs ((i + 1)).toNatClampNeg), .ref 0], h, 98, 10728)) lr_2195 rfl ?_
  refine j_Lst (c' := (2197, [(3, .int i), (2, .ref 75), (1, .ref 0), (0, .ref x_scr)], [.int i, .ref x_scr, .int (xs ((i + 1)).toNatClampNeg), .ref 0], h, 98, 10728)) lr_2196 rfl ?_
  refine j_Lst (c' := (2198, [(3, .int i), (2, .ref 75), (1, .ref 0), (0, .ref x_scr)], [.int 2, .int i, .ref x_scr, .int (xs ((i + 1)).toNatClampNeg), .ref 0], h, 98, 10728)) lr_2197 rfl ?_
  refine j_Lst (c' := (2199, [(3, .int i), (2, .ref 75), (1, .ref 0), (0, .ref x_scr)], [.int (i + 2), .ref x_scr, .int (xs ((i + 1)).toNatClampNeg), .ref 0], h, 98, 10728)) lr_2198 rfl ?_
  refine j_Lsl (c' := (2200, [(3, .int i), (2, .ref 75), (1, .ref 0), (0, .ref x_scr)], [.int (xs ((i + 2)).toNatClampNeg), .int (xs ((i + 1)).toNatClampNeg), .ref 0], h, 98, 10728)) lr_2199 rfl h2 ?_
  refine j_Lst (c' := (2201, [(3, .int i), (2, .ref 75), (1, .ref 0), (0, .ref x_scr)], [.ref x_scr, .int (xs ((i + 2)).toNatClampNeg), .int (xs ((i + 1)).toNatClampNeg), .ref 0], h, 98, 10728)) lr_2200 rfl ?_
  refine j_Lst (c' := (2202, [(3, .int i), (2, .ref 75), (1, .ref 0), (0, .ref x_scr)], [.int i, .ref x_scr, .int (xs ((i + 2)).toNatClampNeg), .int (xs ((i + 1)).toNatClampNeg), .ref 0], h, 98, 10728)) lr_2201 rfl ?_
  refine j_Lst (c' := (2203, [(3, .int i), (2, .ref 75), (1, .ref 0), (0, .ref x_scr)], [.int 3, .int i, .ref x_scr, .int (xs ((i + 2)).toNatClampNeg), .int (xs ((i + 1)).toNatClampNeg), .ref 0], h, 98, 10728)) lr_2202 rfl ?_
  refine j_Lst (c' := (2204, [(3, .int i), (2, .ref 75), (1, .ref 0), (0, .ref x_scr)], [.int (i + 3), .ref x_scr, .int (xs ((i + 2)).toNatClampNeg), .int (xs ((i + 1)).toNatClampNeg), .ref 0], h, 98, 10728)) lr_2203 rfl ?_
  refine j_Lsl (c' := (2205, [(3, .int i), (2, .ref 75), (1, .ref 0), (0, .ref x_scr)], [.int (xs ((i + 3)).toNatClampNeg), .int (xs ((i + 2)).toNatClampNeg), .int (xs ((i + 1)).toNatClampNeg), .ref 0], h, 98, 10728)) lr_2204 rfl h3 ?_
  exact kk

set_option maxRecDepth 100000 in
theorem x_c67b (h : xH) (L : Nat) (xs : Nat → Int32) (i : Int32) (h0 : ¬ (i < 0 ∨ L ≤ (i).toNatClampNeg)) (h1 : ¬ (i + 1 < 0 ∨ L ≤ (i + 1).toNatClampNeg)) (h2 : ¬ (i + 2 < 0 ∨ L ≤ (i + 2).toNatClampNeg)) (h3 : ¬ (i + 3 < 0 ∨ L ≤ (i + 3).toNatClampNeg)) (h4 : ¬ (i + 4 < 0 ∨ L ≤ (i + 4).toNatClampNeg)) (h5 : ¬ (i + 5 < 0 ∨ L ≤ (i + 5).toNatClampNeg)) (v : Int32) {P : Option Value × xH × Nat × Nat → Prop} (kk : x_R x_mt (some (L, xs)) 10 M_law (2225, [(3, .int i), (2, .ref 75), (1, .ref 0), (0, .ref x_scr)], [.int (xs ((i + 3)).toNatClampNeg), .int (xs ((i + 2)).toNatClampNeg), .int (xs ((i + 1)).toNatClampNeg), .ref 75], h, 98, 10728) P) : x_R x_mt (some (L, xs)) 10 M_law (2208, [(3, .int i), (2, .ref 75), (1, .ref 0), (0, .ref x_scr)], [.int v], h, 98, 10728) P := by
  refine j_Lst (c' := (2209, [(3, .int i), (2, .ref 75), (1, .ref 0), (0, .ref x_scr)], [], h, 98, 10728)) lr_2208 rfl ?_
  refine j_Lst (c' := (2210, [(3, .int i), (2, .ref 75), (1, .ref 0), (0, .ref x_scr)], [.ref 75], h, 98, 10728)) lr_2209 rfl ?_
  refine j_Lst (c' := (2211, [(3, .int i), (2, .ref 75), (1, .ref 0), (0, .ref x_scr)], [.ref x_scr, .ref 75], h, 98, 10728)) lr_2210 rfl ?_
  refine j_Lst (c' := (2212, [(3, .int i), (2, .ref 75), (1, .ref 0), (0, .ref x_scr)], [.int i, .ref x_scr, .ref 75], h, 98, 10728)) lr_2211 rfl ?_
  refine j_Lst (c' := (2213, [(3, .int i), (2, .ref 75), (1, .ref 0), (0, .ref x_scr)], [.int 1, .int i, .ref x_scr, .ref 75], h, 98, 10728)) lr_2212 rfl ?_
  refine j_Lst (c' := (2214, [(3, .int i), (2, .ref 75), (1, .ref 0), (0, .ref x_scr)], [.int (i + 1), .ref x_scr, .ref 75], h, 98, 10728)) lr_2213 rfl ?_
  refine j_Lsl (c' := (2215, [(3, .int i), (2, .ref 75), (1, .ref 0), (0, .ref x_scr)], [.int (xs ((i + 1)).toNatClampNeg), .ref 75], h, 98, 10728)) lr_2214 rfl h1 ?_
  refine j_Lst (c' := (2216, [(3, .int i), (2, .ref 75), (1, .ref 0), (0, .ref x_scr)], [.ref x_scr, .int (xs ((i + 1)).toNatClampNeg), .ref 75], h, 98, 10728)) lr_2215 rfl ?_
  refine j_Lst (c' := (2217, [(3, .int i), (2, .ref 75), (1, .ref 0), (0, .ref x_scr)], [.int i, .ref x_scr, .int (xs ((i + 1)).toNatClampNeg), .ref 75], h, 98, 10728)) lr_2216 rfl ?_
  refine j_Lst (c' := (2218, [(3, .int i), (2, .ref 75), (1, .ref 0), (0, .ref x_scr)], [.int 2, .int i, .ref x_scr, .int (xs ((i + 1)).toNatClampNeg), .ref 75], h, 98, 10728)) lr_2217 rfl ?_
  refine j_Lst (c' := (2219, [(3, .int i), (2, .ref 75), (1, .ref 0), (0, .ref x_scr)], [.int (i + 2), .ref x_scr, .int (xs ((i + 1)).toNatClampNeg), .ref 75], h, 98, 10728)) lr_2218 rfl ?_
  refine j_Lsl (c' := (2220, [(3, .int i), (2, .ref 75), (1, .ref 0), (0, .ref x_scr)], [.int (xs ((i + 2)).toNatClampNeg), .int (xs ((i + 1)).toNatClampNeg), .ref 75], h, 98, 10728)) lr_2219 rfl h2 ?_
  refine j_Lst (c' := (2221, [(3, .int i), (2, .ref 75), (1, .ref 0), (0, .ref x_scr)], [.ref x_scr, .int (xs ((i + 2)).toNatClampNeg), .int (xs ((i + 1)).toNatClampNeg), .ref 75], h, 98, 10728)) lr_2220 rfl ?_
  refine j_Lst (c' := (2222, [(3, .int i), (2, .ref 75), (1, .ref 0), (0, .ref x_scr)], [.int i, .ref x_scr, .int (xs ((i + 2)).toNatClampNeg), .int (xs ((i + 1)).toNatClampNeg), .ref 75], h, 98, 10728)) lr_2221 rfl ?_
  refine j_Lst (c' := (2223, [(3, .int i), (2, .ref 75), (1, .ref 0), (0, .ref x_scr)], [.int 3, .int i, .ref x_scr, .int (xs ((i + 2)).toNatClampNeg), .int (xs ((i + 1)).toNatClampNeg), .ref 75], h, 98, 10728)) lr_2222 rfl ?_
  refine j_Lst (c' := (2224, [(3, .int i), (2, .ref 75), (1, .ref 0), (0, .ref x_scr)], [.int (i + 3), .ref x_scr, .int (xs ((i + 2)).toNatClampNeg), .int (xs ((i + 1)).toNatClampNeg), .ref 75], h, 98, 10728)) lr_2223 rfl ?_
  refine j_Lsl (c' := (2225, [(3, .int i), (2, .ref 75), (1, .ref 0), (0, .ref x_scr)], [.int (xs ((i + 3)).toNatClampNeg), .int (xs ((i + 2)).toNatClampNeg), .int (xs ((i + 1)).toNatClampNeg), .ref 75], h, 98, 10728)) lr_2224 rfl h3 ?_
  exact kk

set_option maxRecDepth 100000 in
theorem x_c67d (h : xH) (L : Nat) (xs : Nat → Int32) (i : Int32) (h0 : ¬ (i < 0 ∨ L ≤ (i).toNatClampNeg)) (h1 : ¬ (i + 1 < 0 ∨ L ≤ (i + 1).toNatClampNeg)) (h2 : ¬ (i + 2 < 0 ∨ L ≤ (i + 2).toNatClampNeg)) (h3 : ¬ (i + 3 < 0 ∨ L ≤ (i + 3).toNatClampNeg)) (h4 : ¬ (i + 4 < 0 ∨ L ≤ (i + 4).toNatClampNeg)) (h5 : ¬ (i + 5 < 0 ∨ L ≤ (i + 5).toNatClampNeg)) (w : Int32) {P : Option Value × xH × Nat × Nat → Prop} (kk : x_R x_mt (some (L, xs)) 10 M_law (18, [(3, .int (i + Int32.ofInt (6))), (2, .ref 75), (1, .ref 0), (0, .ref x_scr)], [], h, 98, 10728) P) : x_R x_mt (some (L, xs)) 10 M_law (2228, [(3, .int i), (2, .ref 75), (1, .ref 0), (0, .ref x_scr)], [.int w], h, 98, 10728) P := by
  refine j_Lst (c' := (2229, [(3, .int i), (2, .ref 75), (1, .ref 0), (0, .ref x_scr)], [], h, 98, 10728)) lr_2228 rfl ?_
  refine j_Lst (c' := (2368, [(3, .int i), (2, .ref 75), (1, .ref 0), (0, .ref x_scr)], [], h, 98, 10728)) lr_2229 rfl ?_
  refine j_Lst (c' := (2371, [(3, .int (i + Int32.ofInt (6))), (2, .ref 75), (1, .ref 0), (0, .ref x_scr)], [], h, 98, 10728)) lr_2368 rfl ?_
  refine j_Lst (c' := (18, [(3, .int (i + Int32.ofInt (6))), (2, .ref 75), (1, .ref 0), (0, .ref x_scr)], [], h, 98, 10728)) lr_2371 rfl ?_
  exact kk

set_option maxRecDepth 100000 in
theorem x_c68a (h : xH) (L : Nat) (xs : Nat → Int32) (i : Int32) (h0 : ¬ (i < 0 ∨ L ≤ (i).toNatClampNeg)) (h1 : ¬ (i + 1 < 0 ∨ L ≤ (i + 1).toNatClampNeg)) (h2 : ¬ (i + 2 < 0 ∨ L ≤ (i + 2).toNatClampNeg)) (h3 : ¬ (i + 3 < 0 ∨ L ≤ (i + 3).toNatClampNeg)) (h4 : ¬ (i + 4 < 0 ∨ L ≤ (i + 4).toNatClampNeg)) (h5 : ¬ (i + 5 < 0 ∨ L ≤ (i + 5).toNatClampNeg)) {P : Option Value × xH × Nat × Nat → Prop} (kk : x_R x_mt (some (L, xs)) 10 M_law (2263, [(3, .int i), (2, .ref 75), (1, .ref 0), (0, .ref x_scr)], [.long ((((xs ((i + 3)).toNatClampNeg)).toInt64 <<< ((32 : Int32).toInt64 &&& 63)) ||| (((xs ((i + 4)).toNatClampNeg)).toInt64 &&& 4294967295)), .int (xs ((i + 2)).toNatClampNeg), .int (xs ((i + 1)).toNatClampNeg), .ref 0], h, 98, 10728) P) : x_R x_mt (some (L, xs)) 10 M_law (2232, [(3, .int i), (2, .ref 75), (1, .ref 0), (0, .ref x_scr)], [], h, 98, 10728) P := by
  refine j_Lst (c' := (2233, [(3, .int i), (2, .ref 75), (1, .ref 0), (0, .ref x_scr)], [.ref 0], h, 98, 10728)) lr_2232 rfl ?_
  refine j_Lst (c' := (2234, [(3, .int i), (2, .ref 75), (1, .ref 0), (0, .ref x_scr)], [.ref x_scr, .ref 0], h, 98, 10728)) lr_2233 rfl ?_
  refine j_Lst (c' := (2235, [(3, .int i), (2, .ref 75), (1, .ref 0), (0, .ref x_scr)], [.int i, .ref x_scr, .ref 0], h, 98, 10728)) lr_2234 rfl ?_
  refine j_Lst (c' := (2236, [(3, .int i), (2, .ref 75), (1, .ref 0), (0, .ref x_scr)], [.int 1, .int i, .ref x_scr, .ref 0], h, 98, 10728)) lr_2235 rfl ?_
  refine j_Lst (c' := (2237, [(3, .int i), (2, .ref 75), (1, .ref 0), (0, .ref x_scr)], [.int (i + 1), .ref x_scr, .ref 0], h, 98, 10728)) lr_2236 rfl ?_
  refine j_Lsl (c' := (2238, [(3, .int i), (2, .ref 75), (1, .ref 0), (0, .ref x_scr)], [.int (xs ((i + 1)).toNatClampNeg), .ref 0], h, 98, 10728)) lr_2237 rfl h1 ?_
  refine j_Lst (c' := (2239, [(3, .int i), (2, .ref 75), (1, .ref 0), (0, .ref x_scr)], [.ref x_scr, .int (xs ((i + 1)).toNatClampNeg), .ref 0], h, 98, 10728)) lr_2238 rfl ?_
  refine j_Lst (c' := (2240, [(3, .int i), (2, .ref 75), (1, .ref 0), (0, .ref x_scr)], [.int i, .ref x_scr, .int (xs ((i + 1)).toNatClampNeg), .ref 0], h, 98, 10728)) lr_2239 rfl ?_
  refine j_Lst (c' := (2241, [(3, .int i), (2, .ref 75), (1, .ref 0), (0, .ref x_scr)], [.int 2, .int i, .ref x_scr, .int (xs ((i + 1)).toNatClampNeg), .ref 0], h, 98, 10728)) lr_2240 rfl ?_
  refine j_Lst (c' := (2242, [(3, .int i), (2, .ref 75), (1, .ref 0), (0, .ref x_scr)], [.int (i + 2), .ref x_scr, .int (xs ((i + 1)).toNatClampNeg), .ref 0], h, 98, 10728)) lr_2241 rfl ?_
  refine j_Lsl (c' := (2243, [(3, .int i), (2, .ref 75), (1, .ref 0), (0, .ref x_scr)], [.int (xs ((i + 2)).toNatClampNeg), .int (xs ((i + 1)).toNatClampNeg), .ref 0], h, 98, 10728)) lr_2242 rfl h2 ?_
  refine j_Lst (c' := (2244, [(3, .int i), (2, .ref 75), (1, .ref 0), (0, .ref x_scr)], [.ref x_scr, .int (xs ((i + 2)).toNatClampNeg), .int (xs ((i + 1)).toNatClampNeg), .ref 0], h, 98, 10728)) lr_2243 rfl ?_
  refine j_Lst (c' := (2245, [(3, .int i), (2, .ref 75), (1, .ref 0), (0, .ref x_scr)], [.int i, .ref x_scr, .int (xs ((i + 2)).toNatClampNeg), .int (xs ((i + 1)).toNatClampNeg), .ref 0], h, 98, 10728)) lr_2244 rfl ?_
  refine j_Lst (c' := (2246, [(3, .int i), (2, .ref 75), (1, .ref 0), (0, .ref x_scr)], [.int 3, .int i, .ref x_scr, .int (xs ((i + 2)).toNatClampNeg), .int (xs ((i + 1)).toNatClampNeg), .ref 0], h, 98, 10728)) lr_2245 rfl ?_
  refine j_Lst (c' := (2247, [(3, .int i), (2, .ref 75), (1, .ref 0), (0, .ref x_scr)], [.int (i + 3), .ref x_scr, .int (xs ((i + 2)).toNatClampNeg), .int (xs ((i + 1)).toNatClampNeg), .ref 0], h, 98, 10728)) lr_2246 rfl ?_
  refine j_Lsl (c' := (2248, [(3, .int i), (2, .ref 75), (1, .ref 0), (0, .ref x_scr)], [.int (xs ((i + 3)).toNatClampNeg), .int (xs ((i + 2)).toNatClampNeg), .int (xs ((i + 1)).toNatClampNeg), .ref 0], h, 98, 10728)) lr_2247 rfl h3 ?_
  refine j_Lst (c' := (2249, [(3, .int i), (2, .ref 75), (1, .ref 0), (0, .ref x_scr)], [.long ((xs ((i + 3)).toNatClampNeg)).toInt64, .int (xs ((i + 2)).toNatClampNeg), .int (xs ((i + 1)).toNatClampNeg), .ref 0], h, 98, 10728)) lr_2248 rfl ?_
  refine j_Lst (c' := (2251, [(3, .int i), (2, .ref 75), (1, .ref 0), (0, .ref x_scr)], [.int 32, .long ((xs ((i + 3)).toNatClampNeg)).toInt64, .int (xs ((i + 2)).toNatClampNeg), .int (xs ((i + 1)).toNatClampNeg), .ref 0], h, 98, 10728)) lr_2249 rfl ?_
  refine j_Lst (c' := (2252, [(3, .int i), (2, .ref 75), (1, .ref 0), (0, .ref x_scr)], [.long (((xs ((i + 3)).toNatClampNeg)).toInt64 <<< ((32 : Int32).toInt64 &&& 63)), .int (xs ((i + 2)).toNatClampNeg), .int (xs ((i + 1)).toNatClampNeg), .ref 0], h, 98, 10728)) lr_2251 rfl ?_
  refine j_Lst (c' := (2253, [(3, .int i), (2, .ref 75), (1, .ref 0), (0, .ref x_scr)], [.ref x_scr, .long (((xs ((i + 3)).toNatClampNeg)).toInt64 <<< ((32 : Int32).toInt64 &&& 63)), .int (xs ((i + 2)).toNatClampNeg), .int (xs ((i + 1)).toNatClampNeg), .ref 0], h, 98, 10728)) lr_2252 rfl ?_
  refine j_Lst (c' := (2254, [(3, .int i), (2, .ref 75), (1, .ref 0), (0, .ref x_scr)], [.int i, .ref x_scr, .long (((xs ((i + 3)).toNatClampNeg)).toInt64 <<< ((32 : Int32).toInt64 &&& 63)), .int (xs ((i + 2)).toNatClampNeg), .int (xs ((i + 1)).toNatClampNeg), .ref 0], h, 98, 10728)) lr_2253 rfl ?_
  refine j_Lst (c' := (2255, [(3, .int i), (2, .ref 75), (1, .ref 0), (0, .ref x_scr)], [.int 4, .int i, .ref x_scr, .long (((xs ((i + 3)).toNatClampNeg)).toInt64 <<< ((32 : Int32).toInt64 &&& 63)), .int (xs ((i + 2)).toNatClampNeg), .int (xs ((i + 1)).toNatClampNeg), .ref 0], h, 98, 10728)) lr_2254 rfl ?_
  refine j_Lst (c' := (2256, [(3, .int i), (2, .ref 75), (1, .ref 0), (0, .ref x_scr)], [.int (i + 4), .ref x_scr, .long (((xs ((i + 3)).toNatClampNeg)).toInt64 <<< ((32 : Int32).toInt64 &&& 63)), .int (xs ((i + 2)).toNatClampNeg), .int (xs ((i + 1)).toNatClampNeg), .ref 0], h, 98, 10728)) lr_2255 rfl ?_
  refine j_Lsl (c' := (2257, [(3, .int i), (2, .ref 75), (1, .ref 0), (0, .ref x_scr)], [.int (xs ((i + 4)).toNatClampNeg), .long (((xs ((i + 3)).toNatClampNeg)).toInt64 <<< ((32 : Int32).toInt64 &&& 63)), .int (xs ((i + 2)).toNatClampNeg), .int (xs ((i + 1)).toNatClampNeg), .ref 0], h, 98, 10728)) lr_2256 rfl h4 ?_
  refine j_Lst (c' := (2258, [(3, .int i), (2, .ref 75), (1, .ref 0), (0, .ref x_scr)], [.long ((xs ((i + 4)).toNatClampNeg)).toInt64, .long (((xs ((i + 3)).toNatClampNeg)).toInt64 <<< ((32 : Int32).toInt64 &&& 63)), .int (xs ((i + 2)).toNatClampNeg), .int (xs ((i + 1)).toNatClampNeg), .ref 0], h, 98, 10728)) lr_2257 rfl ?_
  refine j_Lst (c' := (2261, [(3, .int i), (2, .ref 75), (1, .ref 0), (0, .ref x_scr)], [.long 4294967295, .long ((xs ((i + 4)).toNatClampNeg)).toInt64, .long (((xs ((i + 3)).toNatClampNeg)).toInt64 <<< ((32 : Int32).toInt64 &&& 63)), .int (xs ((i + 2)).toNatClampNeg), .int (xs ((i + 1)).toNatClampNeg), .ref 0], h, 98, 10728)) lr_2258 rfl ?_
  refine j_Lst (c' := (2262, [(3, .int i), (2, .ref 75), (1, .ref 0), (0, .ref x_scr)], [.long (((xs ((i + 4)).toNatClampNeg)).toInt64 &&& 4294967295), .long (((xs ((i + 3)).toNatClampNeg)).toInt64 <<< ((32 : Int32).toInt64 &&& 63)), .int (xs ((i + 2)).toNatClampNeg), .int (xs ((i + 1)).toNatClampNeg), .ref 0], h, 98, 10728)) lr_2261 rfl ?_
  refine j_Lst (c' := (2263, [(3, .int i), (2, .ref 75), (1, .ref 0), (0, .ref x_scr)], [.long ((((xs ((i + 3)).toNatClampNeg)).toInt64 <<< ((32 : Int32).toInt64 &&& 63)) ||| (((xs ((i + 4)).toNatClampNeg)).toInt64 &&& 4294967295)), .int (xs ((i + 2)).toNatClampNeg), .int (xs ((i + 1)).toNatClampNeg), .ref 0], h, 98, 10728)) lr_2262 rfl ?_
  exact kk

set_option maxRecDepth 100000 in
theorem x_c68b (h : xH) (L : Nat) (xs : Nat → Int32) (i : Int32) (h0 : ¬ (i < 0 ∨ L ≤ (i).toNatClampNeg)) (h1 : ¬ (i + 1 < 0 ∨ L ≤ (i + 1).toNatClampNeg)) (h2 : ¬ (i + 2 < 0 ∨ L ≤ (i + 2).toNatClampNeg)) (h3 : ¬ (i + 3 < 0 ∨ L ≤ (i + 3).toNatClampNeg)) (h4 : ¬ (i + 4 < 0 ∨ L ≤ (i + 4).toNatClampNeg)) (h5 : ¬ (i + 5 < 0 ∨ L ≤ (i + 5).toNatClampNeg)) (v : Int32) {P : Option Value × xH × Nat × Nat → Prop} (kk : x_R x_mt (some (L, xs)) 10 M_law (2298, [(3, .int i), (2, .ref 75), (1, .ref 0), (0, .ref x_scr)], [.long ((((xs ((i + 3)).toNatClampNeg)).toInt64 <<< ((32 : Int32).toInt64 &&& 63)) ||| (((xs ((i + 4)).toNatClampNeg)).toInt64 &&& 4294967295)), .int (xs ((i + 2)).toNatClampNeg), .int (xs ((i + 1)).toNatClampNeg), .ref 75], h, 98, 10728) P) : x_R x_mt (some (L, xs)) 10 M_law (2266, [(3, .int i), (2, .ref 75), (1, .ref 0), (0, .ref x_scr)], [.int v], h, 98, 10728) P := by
  refine j_Lst (c' := (2267, [(3, .int i), (2, .ref 75), (1, .ref 0), (0, .ref x_scr)], [], h, 98, 10728)) lr_2266 rfl ?_
  refine j_Lst (c' := (2268, [(3, .int i), (2, .ref 75), (1, .ref 0), (0, .ref x_scr)], [.ref 75], h, 98, 10728)) lr_2267 rfl ?_
  refine j_Lst (c' := (2269, [(3, .int i), (2, .ref 75), (1, .ref 0), (0, .ref x_scr)], [.ref x_scr, .ref 75], h, 98, 10728)) lr_2268 rfl ?_
  refine j_Lst (c' := (2270, [(3, .int i), (2, .ref 75), (1, .ref 0), (0, .ref x_scr)], [.int i, .ref x_scr, .ref 75], h, 98, 10728)) lr_2269 rfl ?_
  refine j_Lst (c' := (2271, [(3, .int i), (2, .ref 75), (1, .ref 0), (0, .ref x_scr)], [.int 1, .int i, .ref x_scr, .ref 75], h, 98, 10728)) lr_2270 rfl ?_
  refine j_Lst (c' := (2272, [(3, .int i), (2, .ref 75), (1, .ref 0), (0, .ref x_scr)], [.int (i + 1), .ref x_scr, .ref 75], h, 98, 10728)) lr_2271 rfl ?_
  refine j_Lsl (c' := (2273, [(3, .int i), (2, .ref 75), (1, .ref 0), (0, .ref x_scr)], [.int (xs ((i + 1)).toNatClampNeg), .ref 75], h, 98, 10728)) lr_2272 rfl h1 ?_
  refine j_Lst (c' := (2274, [(3, .int i), (2, .ref 75), (1, .ref 0), (0, .ref x_scr)], [.ref x_scr, .int (xs ((i + 1)).toNatClampNeg), .ref 75], h, 98, 10728)) lr_2273 rfl ?_
  refine j_Lst (c' := (2275, [(3, .int i), (2, .ref 75), (1, .ref 0), (0, .ref x_scr)], [.int i, .ref x_scr, .int (xs ((i + 1)).toNatClampNeg), .ref 75], h, 98, 10728)) lr_2274 rfl ?_
  refine j_Lst (c' := (2276, [(3, .int i), (2, .ref 75), (1, .ref 0), (0, .ref x_scr)], [.int 2, .int i, .ref x_scr, .int (xs ((i + 1)).toNatClampNeg), .ref 75], h, 98, 10728)) lr_2275 rfl ?_
  refine j_Lst (c' := (2277, [(3, .int i), (2, .ref 75), (1, .ref 0), (0, .ref x_scr)], [.int (i + 2), .ref x_scr, .int (xs ((i + 1)).toNatClampNeg), .ref 75], h, 98, 10728)) lr_2276 rfl ?_
  refine j_Lsl (c' := (2278, [(3, .int i), (2, .ref 75), (1, .ref 0), (0, .ref x_scr)], [.int (xs ((i + 2)).toNatClampNeg), .int (xs ((i + 1)).toNatClampNeg), .ref 75], h, 98, 10728)) lr_2277 rfl h2 ?_
  refine j_Lst (c' := (2279, [(3, .int i), (2, .ref 75), (1, .ref 0), (0, .ref x_scr)], [.ref x_scr, .int (xs ((i + 2)).toNatClampNeg), .int (xs ((i + 1)).toNatClampNeg), .ref 75], h, 98, 10728)) lr_2278 rfl ?_
  refine j_Lst (c' := (2280, [(3, .int i), (2, .ref 75), (1, .ref 0), (0, .ref x_scr)], [.int i, .ref x_scr, .int (xs ((i + 2)).toNatClampNeg), .int (xs ((i + 1)).toNatClampNeg), .ref 75], h, 98, 10728)) lr_2279 rfl ?_
  refine j_Lst (c' := (2281, [(3, .int i), (2, .ref 75), (1, .ref 0), (0, .ref x_scr)], [.int 3, .int i, .ref x_scr, .int (xs ((i + 2)).toNatClampNeg), .int (xs ((i + 1)).toNatClampNeg), .ref 75], h, 98, 10728)) lr_2280 rfl ?_
  refine j_Lst (c' := (2282, [(3, .int i), (2, .ref 75), (1, .ref 0), (0, .ref x_scr)], [.int (i + 3), .ref x_scr, .int (xs ((i + 2)).toNatClampNeg), .int (xs ((i + 1)).toNatClampNeg), .ref 75], h, 98, 10728)) lr_2281 rfl ?_
  refine j_Lsl (c' := (2283, [(3, .int i), (2, .ref 75), (1, .ref 0), (0, .ref x_scr)], [.int (xs ((i + 3)).toNatClampNeg), .int (xs ((i + 2)).toNatClampNeg), .int (xs ((i + 1)).toNatClampNeg), .ref 75], h, 98, 10728)) lr_2282 rfl h3 ?_
  refine j_Lst (c' := (2284, [(3, .int i), (2, .ref 75), (1, .ref 0), (0, .ref x_scr)], [.long ((xs ((i + 3)).toNatClampNeg)).toInt64, .int (xs ((i + 2)).toNatClampNeg), .int (xs ((i + 1)).toNatClampNeg), .ref 75], h, 98, 10728)) lr_2283 rfl ?_
  refine j_Lst (c' := (2286, [(3, .int i), (2, .ref 75), (1, .ref 0), (0, .ref x_scr)], [.int 32, .long ((xs ((i + 3)).toNatClampNeg)).toInt64, .int (xs ((i + 2)).toNatClampNeg), .int (xs ((i + 1)).toNatClampNeg), .ref 75], h, 98, 10728)) lr_2284 rfl ?_
  refine j_Lst (c' := (2287, [(3, .int i), (2, .ref 75), (1, .ref 0), (0, .ref x_scr)], [.long (((xs ((i + 3)).toNatClampNeg)).toInt64 <<< ((32 : Int32).toInt64 &&& 63)), .int (xs ((i + 2)).toNatClampNeg), .int (xs ((i + 1)).toNatClampNeg), .ref 75], h, 98, 10728)) lr_2286 rfl ?_
  refine j_Lst (c' := (2288, [(3, .int i), (2, .ref 75), (1, .ref 0), (0, .ref x_scr)], [.ref x_scr, .long (((xs ((i + 3)).toNatClampNeg)).toInt64 <<< ((32 : Int32).toInt64 &&& 63)), .int (xs ((i + 2)).toNatClampNeg), .int (xs ((i + 1)).toNatClampNeg), .ref 75], h, 98, 10728)) lr_2287 rfl ?_
  refine j_Lst (c' := (2289, [(3, .int i), (2, .ref 75), (1, .ref 0), (0, .ref x_scr)], [.int i, .ref x_scr, .long (((xs ((i + 3)).toNatClampNeg)).toInt64 <<< ((32 : Int32).toInt64 &&& 63)), .int (xs ((i + 2)).toNatClampNeg), .int (xs ((i + 1)).toNatClampNeg), .ref 75], h, 98, 10728)) lr_2288 rfl ?_
  refine j_Lst (c' := (2290, [(3, .int i), (2, .ref 75), (1, .ref 0), (0, .ref x_scr)], [.int 4, .int i, .ref x_scr, .long (((xs ((i + 3)).toNatClampNeg)).toInt64 <<< ((32 : Int32).toInt64 &&& 63)), .int (xs ((i + 2)).toNatClampNeg), .int (xs ((i + 1)).toNatClampNeg), .ref 75], h, 98, 10728)) lr_2289 rfl ?_
  refine j_Lst (c' := (2291, [(3, .int i), (2, .ref 75), (1, .ref 0), (0, .ref x_scr)], [.int (i + 4), .ref x_scr, .long (((xs ((i + 3)).toNatClampNeg)).toInt64 <<< ((32 : Int32).toInt64 &&& 63)), .int (xs ((i + 2)).toNatClampNeg), .int (xs ((i + 1)).toNatClampNeg), .ref 75], h, 98, 10728)) lr_2290 rfl ?_
  refine j_Lsl (c' := (2292, [(3, .int i), (2, .ref 75), (1, .ref 0), (0, .ref x_scr)], [.int (xs ((i + 4)).toNatClampNeg), .long (((xs ((i + 3)).toNatClampNeg)).toInt64 <<< ((32 : Int32).toInt64 &&& 63)), .int (xs ((i + 2)).toNatClampNeg), .int (xs ((i + 1)).toNatClampNeg), .ref 75], h, 98, 10728)) lr_2291 rfl h4 ?_
  refine j_Lst (c' := (2293, [(3, .int i), (2, .ref 75), (1, .ref 0), (0, .ref x_scr)], [.long ((xs ((i + 4)).toNatClampNeg)).toInt64, .long (((xs ((i + 3)).toNatClampNeg)).toInt64 <<< ((32 : Int32).toInt64 &&& 63)), .int (xs ((i + 2)).toNatClampNeg), .int (xs ((i + 1)).toNatClampNeg), .ref 75], h, 98, 10728)) lr_2292 rfl ?_
  refine j_Lst (c' := (2296, [(3, .int i), (2, .ref 75), (1, .ref 0), (0, .ref x_scr)], [.long 4294967295, .long ((xs ((i + 4)).toNatClampNeg)).toInt64, .long (((xs ((i + 3)).toNatClampNeg)).toInt64 <<< ((32 : Int32).toInt64 &&& 63)), .int (xs ((i + 2)).toNatClampNeg), .int (xs ((i + 1)).toNatClampNeg), .ref 75], h, 98, 10728)) lr_2293 rfl ?_
  refine j_Lst (c' := (2297, [(3, .int i), (2, .ref 75), (1, .ref 0), (0, .ref x_scr)], [.long (((xs ((i + 4)).toNatClampNeg)).toInt64 &&& 4294967295), .long (((xs ((i + 3)).toNatClampNeg)).toInt64 <<< ((32 : Int32).toInt64 &&& 63)), .int (xs ((i + 2)).toNatClampNeg), .int (xs ((i + 1)).toNatClampNeg), .ref 75], h, 98, 10728)) lr_2296 rfl ?_
  refine j_Lst (c' := (2298, [(3, .int i), (2, .ref 75), (1, .ref 0), (0, .ref x_scr)], [.long ((((xs ((i + 3)).toNatClampNeg)).toInt64 <<< ((32 : Int32).toInt64 &&& 63)) ||| (((xs ((i + 4)).toNatClampNeg)).toInt64 &&& 4294967295)), .int (xs ((i + 2)).toNatClampNeg), .int (xs ((i + 1)).toNatClampNeg), .ref 75], h, 98, 10728)) lr_2297 rfl ?_
  exact kk

set_option maxRecDepth 100000 in
theorem x_c68d (h : xH) (L : Nat) (xs : Nat → Int32) (i : Int32) (h0 : ¬ (i < 0 ∨ L ≤ (i).toNatClampNeg)) (h1 : ¬ (i + 1 < 0 ∨ L ≤ (i + 1).toNatClampNeg)) (h2 : ¬ (i + 2 < 0 ∨ L ≤ (i + 2).toNatClampNeg)) (h3 : ¬ (i + 3 < 0 ∨ L ≤ (i + 3).toNatClampNeg)) (h4 : ¬ (i + 4 < 0 ∨ L ≤ (i + 4).toNatClampNeg)) (h5 : ¬ (i + 5 < 0 ∨ L ≤ (i + 5).toNatClampNeg)) (w : Int32) {P : Option Value × xH × Nat × Nat → Prop} (kk : x_R x_mt (some (L, xs)) 10 M_law (18, [(3, .int (i + Int32.ofInt (6))), (2, .ref 75), (1, .ref 0), (0, .ref x_scr)], [], h, 98, 10728) P) : x_R x_mt (some (L, xs)) 10 M_law (2301, [(3, .int i), (2, .ref 75), (1, .ref 0), (0, .ref x_scr)], [.int w], h, 98, 10728) P := by
  refine j_Lst (c' := (2302, [(3, .int i), (2, .ref 75), (1, .ref 0), (0, .ref x_scr)], [], h, 98, 10728)) lr_2301 rfl ?_
  refine j_Lst (c' := (2368, [(3, .int i), (2, .ref 75), (1, .ref 0), (0, .ref x_scr)], [], h, 98, 10728)) lr_2302 rfl ?_
  refine j_Lst (c' := (2371, [(3, .int (i + Int32.ofInt (6))), (2, .ref 75), (1, .ref 0), (0, .ref x_scr)], [], h, 98, 10728)) lr_2368 rfl ?_
  refine j_Lst (c' := (18, [(3, .int (i + Int32.ofInt (6))), (2, .ref 75), (1, .ref 0), (0, .ref x_scr)], [], h, 98, 10728)) lr_2371 rfl ?_
  exact kk

set_option maxRecDepth 100000 in
theorem x_c69a (h : xH) (L : Nat) (xs : Nat → Int32) (i : Int32) (h0 : ¬ (i < 0 ∨ L ≤ (i).toNatClampNeg)) (h1 : ¬ (i + 1 < 0 ∨ L ≤ (i + 1).toNatClampNeg)) (h2 : ¬ (i + 2 < 0 ∨ L ≤ (i + 2).toNatClampNeg)) (h3 : ¬ (i + 3 < 0 ∨ L ≤ (i + 3).toNatClampNeg)) (h4 : ¬ (i + 4 < 0 ∨ L ≤ (i + 4).toNatClampNeg)) (h5 : ¬ (i + 5 < 0 ∨ L ≤ (i + 5).toNatClampNeg)) {P : Option Value × xH × Nat × Nat → Prop} (kk : x_R x_mt (some (L, xs)) 10 M_law (2331, [(3, .int i), (2, .ref 75), (1, .ref 0), (0, .ref x_scr)], [.int (xs ((i + 5)).toNatClampNeg), .int (xs ((i + 4)).toNatClampNeg), .int (xs ((i + 3)).toNatClampNeg), .int (xs ((i + 2)).toNatClampNeg), .int (xs ((i + 1)).toNatClampNeg), .ref 0], h, 98, 10728) P) : x_R x_mt (some (L, xs)) 10 M_law (2305, [(3, .int i), (2, .ref 75), (1, .ref 0), (0, .ref x_scr)], [], h, 98, 10728) P := by
  refine j_Lst (c' := (2306, [(3, .int i), (2, .ref 75), (1, .ref 0), (0, .ref x_scr)], [.ref 0], h, 98, 10728)) lr_2305 rfl ?_
  refine j_Lst (c' := (2307, [(3, .int i), (2, .ref 75), (1, .ref 0), (0, .ref x_scr)], [.ref x_scr, .ref 0], h, 98, 10728)) lr_2306 rfl ?_
  refine j_Lst (c' := (2308, [(3, .int i), (2, .ref 75), (1, .ref 0), (0, .ref x_scr)], [.int i, .ref x_scr, .ref 0], h, 98, 10728)) lr_2307 rfl ?_
  refine j_Lst (c' := (2309, [(3, .int i), (2, .ref 75), (1, .ref 0), (0, .ref x_scr)], [.int 1, .int i, .ref x_scr, .ref 0], h, 98, 10728)) lr_2308 rfl ?_
  refine j_Lst (c' := (2310, [(3, .int i), (2, .ref 75), (1, .ref 0), (0, .ref x_scr)], [.int (i + 1), .ref x_scr, .ref 0], h, 98, 10728)) lr_2309 rfl ?_
  refine j_Lsl (c' := (2311, [(3, .int i), (2, .ref 75), (1, .ref 0), (0, .ref x_scr)], [.int (xs ((i + 1)).toNatClampNeg), .ref 0], h, 98, 10728)) lr_2310 rfl h1 ?_
  refine j_Lst (c' := (2312, [(3, .int i), (2, .ref 75), (1, .ref 0), (0, .ref x_scr)], [.ref x_scr, .int (xs ((i + 1)).toNatClampNeg), .ref 0], h, 98, 10728)) lr_2311 rfl ?_
  refine j_Lst (c' := (2313, [(3, .int i), (2, .ref 75), (1, .ref 0), (0, .ref x_scr)], [.int i, .ref x_scr, .int (xs ((i + 1)).toNatClampNeg), .ref 0], h, 98, 10728)) lr_2312 rfl ?_
  refine j_Lst (c' := (2314, [(3, .int i), (2, .ref 75), (1, .ref 0), (0, .ref x_scr)], [.int 2, .int i, .ref x_scr, .int (xs ((i + 1)).toNatClampNeg), .ref 0], h, 98, 10728)) lr_2313 rfl ?_
  refine j_Lst (c' := (2315, [(3, .int i), (2, .ref 75), (1, .ref 0), (0, .ref x_scr)], [.int (i + 2), .ref x_scr, .int (xs ((i + 1)).toNatClampNeg), .ref 0], h, 98, 10728)) lr_2314 rfl ?_
  refine j_Lsl (c' := (2316, [(3, .int i), (2, .ref 75), (1, .ref 0), (0, .ref x_scr)], [.int (xs ((i + 2)).toNatClampNeg), .int (xs ((i + 1)).toNatClampNeg), .ref 0], h, 98, 10728)) lr_2315 rfl h2 ?_
  refine j_Lst (c' := (2317, [(3, .int i), (2, .ref 75), (1, .ref 0), (0, .ref x_scr)], [.ref x_scr, .int (xs ((i + 2)).toNatClampNeg), .int (xs ((i + 1)).toNatClampNeg), .ref 0], h, 98, 10728)) lr_2316 rfl ?_
  refine j_Lst (c' := (2318, [(3, .int i), (2, .ref 75), (1, .ref 0), (0, .ref x_scr)], [.int i, .ref x_scr, .int (xs ((i + 2)).toNatClampNeg), .int (xs ((i + 1)).toNatClampNeg), .ref 0], h, 98, 10728)) lr_2317 rfl ?_
  refine j_Lst (c' := (2319, [(3, .int i), (2, .ref 75), (1, .ref 0), (0, .ref x_scr)], [.int 3, .int i, .ref x_scr, .int (xs ((i + 2)).toNatClampNeg), .int (xs ((i + 1)).toNatClampNeg), .ref 0], h, 98, 10728)) lr_2318 rfl ?_
  refine j_Lst (c' := (2320, [(3, .int i), (2, .ref 75), (1, .ref 0), (0, .ref x_scr)], [.int (i + 3), .ref x_scr, .int (xs ((i + 2)).toNatClampNeg), .int (xs ((i + 1)).toNatClampNeg), .ref 0], h, 98, 10728)) lr_2319 rfl ?_
  refine j_Lsl (c' := (2321, [(3, .int i), (2, .ref 75), (1, .ref 0), (0, .ref x_scr)], [.int (xs ((i + 3)).toNatClampNeg), .int (xs ((i + 2)).toNatClampNeg), .int (xs ((i + 1)).toNatClampNeg), .ref 0], h, 98, 10728)) lr_2320 rfl h3 ?_
  refine j_Lst (c' := (2322, [(3, .int i), (2, .ref 75), (1, .ref 0), (0, .ref x_scr)], [.ref x_scr, .int (xs ((i + 3)).toNatClampNeg), .int (xs ((i + 2)).toNatClampNeg), .int (xs ((i + 1)).toNatClampNeg), .ref 0], h, 98, 10728)) lr_2321 rfl ?_
  refine j_Lst (c' := (2323, [(3, .int i), (2, .ref 75), (1, .ref 0), (0, .ref x_scr)], [.int i, .ref x_scr, .int (xs ((i + 3)).toNatClampNeg), .int (xs ((i + 2)).toNatClampNeg), .int (xs ((i + 1)).toNatClampNeg), .ref 0], h, 98, 10728)) lr_2322 rfl ?_
  refine j_Lst (c' := (2324, [(3, .int i), (2, .ref 75), (1, .ref 0), (0, .ref x_scr)], [.int 4, .int i, .ref x_scr, .int (xs ((i + 3)).toNatClampNeg), .int (xs ((i + 2)).toNatClampNeg), .int (xs ((i + 1)).toNatClampNeg), .ref 0], h, 98, 10728)) lr_2323 rfl ?_
  refine j_Lst (c' := (2325, [(3, .int i), (2, .ref 75), (1, .ref 0), (0, .ref x_scr)], [.int (i + 4), .ref x_scr, .int (xs ((i + 3)).toNatClampNeg), .int (xs ((i + 2)).toNatClampNeg), .int (xs ((i + 1)).toNatClampNeg), .ref 0], h, 98, 10728)) lr_2324 rfl ?_
  refine j_Lsl (c' := (2326, [(3, .int i), (2, .ref 75), (1, .ref 0), (0, .ref x_scr)], [.int (xs ((i + 4)).toNatClampNeg), .int (xs ((i + 3)).toNatClampNeg), .int (xs ((i + 2)).toNatClampNeg), .int (xs ((i + 1)).toNatClampNeg), .ref 0], h, 98, 10728)) lr_2325 rfl h4 ?_
  refine j_Lst (c' := (2327, [(3, .int i), (2, .ref 75), (1, .ref 0), (0, .ref x_scr)], [.ref x_scr, .int (xs ((i + 4)).toNatClampNeg), .int (xs ((i + 3)).toNatClampNeg), .int (xs ((i + 2)).toNatClampNeg), .int (xs ((i + 1)).toNatClampNeg), .ref 0], h, 98, 10728)) lr_2326 rfl ?_
  refine j_Lst (c' := (2328, [(3, .int i), (2, .ref 75), (1, .ref 0), (0, .ref x_scr)], [.int i, .ref x_scr, .int (xs ((i + 4)).toNatClampNeg), .int (xs ((i + 3)).toNatClampNeg), .int (xs ((i + 2)).toNatClampNeg), .int (xs ((i + 1)).toNatClampNeg), .ref 0], h, 98, 10728)) lr_2327 rfl ?_
  refine j_Lst (c' := (2329, [(3, .int i), (2, .ref 75), (1, .ref 0), (0, .ref x_scr)], [.int 5, .int i, .ref x_scr, .int (xs ((i + 4)).toNatClampNeg), .int (xs ((i + 3)).toNatClampNeg), .int (xs ((i + 2)).toNatClampNeg), .int (xs ((i + 1)).toNatClampNeg), .ref 0], h, 98, 10728)) lr_2328 rfl ?_
  refine j_Lst (c' := (2330, [(3, .int i), (2, .ref 75), (1, .ref 0), (0, .ref x_scr)], [.int (i + 5), .ref x_scr, .int (xs ((i + 4)).toNatClampNeg), .int (xs ((i + 3)).toNatClampNeg), .int (xs ((i + 2)).toNatClampNeg), .int (xs ((i + 1)).toNatClampNeg), .ref 0], h, 98, 10728)) lr_2329 rfl ?_
  refine j_Lsl (c' := (2331, [(3, .int i), (2, .ref 75), (1, .ref 0), (0, .ref x_scr)], [.int (xs ((i + 5)).toNatClampNeg), .int (xs ((i + 4)).toNatClampNeg), .int (xs ((i + 3)).toNatClampNeg), .int (xs ((i + 2)).toNatClampNeg), .int (xs ((i + 1)).toNatClampNeg), .ref 0], h, 98, 10728)) lr_2330 rfl h5 ?_
  exact kk

set_option maxRecDepth 100000 in
theorem x_c69b (h : xH) (L : Nat) (xs : Nat → Int32) (i : Int32) (h0 : ¬ (i < 0 ∨ L ≤ (i).toNatClampNeg)) (h1 : ¬ (i + 1 < 0 ∨ L ≤ (i + 1).toNatClampNeg)) (h2 : ¬ (i + 2 < 0 ∨ L ≤ (i + 2).toNatClampNeg)) (h3 : ¬ (i + 3 < 0 ∨ L ≤ (i + 3).toNatClampNeg)) (h4 : ¬ (i + 4 < 0 ∨ L ≤ (i + 4).toNatClampNeg)) (h5 : ¬ (i + 5 < 0 ∨ L ≤ (i + 5).toNatClampNeg)) (v : Int32) {P : Option Value × xH × Nat × Nat → Prop} (kk : x_R x_mt (some (L, xs)) 10 M_law (2361, [(3, .int i), (2, .ref 75), (1, .ref 0), (0, .ref x_scr)], [.int (xs ((i + 5)).toNatClampNeg), .int (xs ((i + 4)).toNatClampNeg), .int (xs ((i + 3)).toNatClampNeg), .int (xs ((i + 2)).toNatClampNeg), .int (xs ((i + 1)).toNatClampNeg), .ref 75], h, 98, 10728) P) : x_R x_mt (some (L, xs)) 10 M_law (2334, [(3, .int i), (2, .ref 75), (1, .ref 0), (0, .ref x_scr)], [.int v], h, 98, 10728) P := by
  refine j_Lst (c' := (2335, [(3, .int i), (2, .ref 75), (1, .ref 0), (0, .ref x_scr)], [], h, 98, 10728)) lr_2334 rfl ?_
  refine j_Lst (c' := (2336, [(3, .int i), (2, .ref 75), (1, .ref 0), (0, .ref x_scr)], [.ref 75], h, 98, 10728)) lr_2335 rfl ?_
  refine j_Lst (c' := (2337, [(3, .int i), (2, .ref 75), (1, .ref 0), (0, .ref x_scr)], [.ref x_scr, .ref 75], h, 98, 10728)) lr_2336 rfl ?_
  refine j_Lst (c' := (2338, [(3, .int i), (2, .ref 75), (1, .ref 0), (0, .ref x_scr)], [.int i, .ref x_scr, .ref 75], h, 98, 10728)) lr_2337 rfl ?_
  refine j_Lst (c' := (2339, [(3, .int i), (2, .ref 75), (1, .ref 0), (0, .ref x_scr)], [.int 1, .int i, .ref x_scr, .ref 75], h, 98, 10728)) lr_2338 rfl ?_
  refine j_Lst (c' := (2340, [(3, .int i), (2, .ref 75), (1, .ref 0), (0, .ref x_scr)], [.int (i + 1), .ref x_scr, .ref 75], h, 98, 10728)) lr_2339 rfl ?_
  refine j_Lsl (c' := (2341, [(3, .int i), (2, .ref 75), (1, .ref 0), (0, .ref x_scr)], [.int (xs ((i + 1)).toNatClampNeg), .ref 75], h, 98, 10728)) lr_2340 rfl h1 ?_
  refine j_Lst (c' := (2342, [(3, .int i), (2, .ref 75), (1, .ref 0), (0, .ref x_scr)], [.ref x_scr, .int (xs ((i + 1)).toNatClampNeg), .ref 75], h, 98, 10728)) lr_2341 rfl ?_
  refine j_Lst (c' := (2343, [(3, .int i), (2, .ref 75), (1, .ref 0), (0, .ref x_scr)], [.int i, .ref x_scr, .int (xs ((i + 1)).toNatClampNeg), .ref 75], h, 98, 10728)) lr_2342 rfl ?_
  refine j_Lst (c' := (2344, [(3, .int i), (2, .ref 75), (1, .ref 0), (0, .ref x_scr)], [.int 2, .int i, .ref x_scr, .int (xs ((i + 1)).toNatClampNeg), .ref 75], h, 98, 10728)) lr_2343 rfl ?_
  refine j_Lst (c' := (2345, [(3, .int i), (2, .ref 75), (1, .ref 0), (0, .ref x_scr)], [.int (i + 2), .ref x_scr, .int (xs ((i + 1)).toNatClampNeg), .ref 75], h, 98, 10728)) lr_2344 rfl ?_
  refine j_Lsl (c' := (2346, [(3, .int i), (2, .ref 75), (1, .ref 0), (0, .ref x_scr)], [.int (xs ((i + 2)).toNatClampNeg), .int (xs ((i + 1)).toNatClampNeg), .ref 75], h, 98, 10728)) lr_2345 rfl h2 ?_
  refine j_Lst (c' := (2347, [(3, .int i), (2, .ref 75), (1, .ref 0), (0, .ref x_scr)], [.ref x_scr, .int (xs ((i + 2)).toNatClampNeg), .int (xs ((i + 1)).toNatClampNeg), .ref 75], h, 98, 10728)) lr_2346 rfl ?_
  refine j_Lst (c' := (2348, [(3, .int i), (2, .ref 75), (1, .ref 0), (0, .ref x_scr)], [.int i, .ref x_scr, .int (xs ((i + 2)).toNatClampNeg), .int (xs ((i + 1)).toNatClampNeg), .ref 75], h, 98, 10728)) lr_2347 rfl ?_
  refine j_Lst (c' := (2349, [(3, .int i), (2, .ref 75), (1, .ref 0), (0, .ref x_scr)], [.int 3, .int i, .ref x_scr, .int (xs ((i + 2)).toNatClampNeg), .int (xs ((i + 1)).toNatClampNeg), .ref 75], h, 98, 10728)) lr_2348 rfl ?_
  refine j_Lst (c' := (2350, [(3, .int i), (2, .ref 75), (1, .ref 0), (0, .ref x_scr)], [.int (i + 3), .ref x_scr, .int (xs ((i + 2)).toNatClampNeg), .int (xs ((i + 1)).toNatClampNeg), .ref 75], h, 98, 10728)) lr_2349 rfl ?_
  refine j_Lsl (c' := (2351, [(3, .int i), (2, .ref 75), (1, .ref 0), (0, .ref x_scr)], [.int (xs ((i + 3)).toNatClampNeg), .int (xs ((i + 2)).toNatClampNeg), .int (xs ((i + 1)).toNatClampNeg), .ref 75], h, 98, 10728)) lr_2350 rfl h3 ?_
  refine j_Lst (c' := (2352, [(3, .int i), (2, .ref 75), (1, .ref 0), (0, .ref x_scr)], [.ref x_scr, .int (xs ((i + 3)).toNatClampNeg), .int (xs ((i + 2)).toNatClampNeg), .int (xs ((i + 1)).toNatClampNeg), .ref 75], h, 98, 10728)) lr_2351 rfl ?_
  refine j_Lst (c' := (2353, [(3, .int i), (2, .ref 75), (1, .ref 0), (0, .ref x_scr)], [.int i, .ref x_scr, .int (xs ((i + 3)).toNatClampNeg), .int (xs ((i + 2)).toNatClampNeg), .int (xs ((i + 1)).toNatClampNeg), .ref 75], h, 98, 10728)) lr_2352 rfl ?_
  refine j_Lst (c' := (2354, [(3, .int i), (2, .ref 75), (1, .ref 0), (0, .ref x_scr)], [.int 4, .int i, .ref x_scr, .int (xs ((i + 3)).toNatClampNeg), .int (xs ((i + 2)).toNatClampNeg), .int (xs ((i + 1)).toNatClampNeg), .ref 75], h, 98, 10728)) lr_2353 rfl ?_
  refine j_Lst (c' := (2355, [(3, .int i), (2, .ref 75), (1, .ref 0), (0, .ref x_scr)], [.int (i + 4), .ref x_scr, .int (xs ((i + 3)).toNatClampNeg), .int (xs ((i + 2)).toNatClampNeg), .int (xs ((i + 1)).toNatClampNeg), .ref 75], h, 98, 10728)) lr_2354 rfl ?_
  refine j_Lsl (c' := (2356, [(3, .int i), (2, .ref 75), (1, .ref 0), (0, .ref x_scr)], [.int (xs ((i + 4)).toNatClampNeg), .int (xs ((i + 3)).toNatClampNeg), .int (xs ((i + 2)).toNatClampNeg), .int (xs ((i + 1)).toNatClampNeg), .ref 75], h, 98, 10728)) lr_2355 rfl h4 ?_
  refine j_Lst (c' := (2357, [(3, .int i), (2, .ref 75), (1, .ref 0), (0, .ref x_scr)], [.ref x_scr, .int (xs ((i + 4)).toNatClampNeg), .int (xs ((i + 3)).toNatClampNeg), .int (xs ((i + 2)).toNatClampNeg), .int (xs ((i + 1)).toNatClampNeg), .ref 75], h, 98, 10728)) lr_2356 rfl ?_
  refine j_Lst (c' := (2358, [(3, .int i), (2, .ref 75), (1, .ref 0), (0, .ref x_scr)], [.int i, .ref x_scr, .int (xs ((i + 4)).toNatClampNeg), .int (xs ((i + 3)).toNatClampNeg), .int (xs ((i + 2)).toNatClampNeg), .int (xs ((i + 1)).toNatClampNeg), .ref 75], h, 98, 10728)) lr_2357 rfl ?_
  refine j_Lst (c' := (2359, [(3, .int i), (2, .ref 75), (1, .ref 0), (0, .ref x_scr)], [.int 5, .int i, .ref x_scr, .int (xs ((i + 4)).toNatClampNeg), .int (xs ((i + 3)).toNatClampNeg), .int (xs ((i + 2)).toNatClampNeg), .int (xs ((i + 1)).toNatClampNeg), .ref 75], h, 98, 10728)) lr_2358 rfl ?_
  refine j_Lst (c' := (2360, [(3, .int i), (2, .ref 75), (1, .ref 0), (0, .ref x_scr)], [.int (i + 5), .ref x_scr, .int (xs ((i + 4)).toNatClampNeg), .int (xs ((i + 3)).toNatClampNeg), .int (xs ((i + 2)).toNatClampNeg), .int (xs ((i + 1)).toNatClampNeg), .ref 75], h, 98, 10728)) lr_2359 rfl ?_
  refine j_Lsl (c' := (2361, [(3, .int i), (2, .ref 75), (1, .ref 0), (0, .ref x_scr)], [.int (xs ((i + 5)).toNatClampNeg), .int (xs ((i + 4)).toNatClampNeg), .int (xs ((i + 3)).toNatClampNeg), .int (xs ((i + 2)).toNatClampNeg), .int (xs ((i + 1)).toNatClampNeg), .ref 75], h, 98, 10728)) lr_2360 rfl h5 ?_
  exact kk

set_option maxRecDepth 100000 in
theorem x_c69d (h : xH) (L : Nat) (xs : Nat → Int32) (i : Int32) (h0 : ¬ (i < 0 ∨ L ≤ (i).toNatClampNeg)) (h1 : ¬ (i + 1 < 0 ∨ L ≤ (i + 1).toNatClampNeg)) (h2 : ¬ (i + 2 < 0 ∨ L ≤ (i + 2).toNatClampNeg)) (h3 : ¬ (i + 3 < 0 ∨ L ≤ (i + 3).toNatClampNeg)) (h4 : ¬ (i + 4 < 0 ∨ L ≤ (i + 4).toNatClampNeg)) (h5 : ¬ (i + 5 < 0 ∨ L ≤ (i + 5).toNatClampNeg)) (w : Int32) {P : Option Value × xH × Nat × Nat → Prop} (kk : x_R x_mt (some (L, xs)) 10 M_law (18, [(3, .int (i + Int32.ofInt (6))), (2, .ref 75), (1, .ref 0), (0, .ref x_scr)], [], h, 98, 10728) P) : x_R x_mt (some (L, xs)) 10 M_law (2364, [(3, .int i), (2, .ref 75), (1, .ref 0), (0, .ref x_scr)], [.int w], h, 98, 10728) P := by
  refine j_Lst (c' := (2365, [(3, .int i), (2, .ref 75), (1, .ref 0), (0, .ref x_scr)], [], h, 98, 10728)) lr_2364 rfl ?_
  refine j_Lst (c' := (2368, [(3, .int i), (2, .ref 75), (1, .ref 0), (0, .ref x_scr)], [], h, 98, 10728)) lr_2365 rfl ?_
  refine j_Lst (c' := (2371, [(3, .int (i + Int32.ofInt (6))), (2, .ref 75), (1, .ref 0), (0, .ref x_scr)], [], h, 98, 10728)) lr_2368 rfl ?_
  refine j_Lst (c' := (18, [(3, .int (i + Int32.ofInt (6))), (2, .ref 75), (1, .ref 0), (0, .ref x_scr)], [], h, 98, 10728)) lr_2371 rfl ?_
  exact kk

set_option maxRecDepth 100000 in
theorem x_cdef (h : xH) (L : Nat) (xs : Nat → Int32) (i : Int32) (h0 : ¬ (i < 0 ∨ L ≤ (i).toNatClampNeg)) (h1 : ¬ (i + 1 < 0 ∨ L ≤ (i + 1).toNatClampNeg)) (h2 : ¬ (i + 2 < 0 ∨ L ≤ (i + 2).toNatClampNeg)) (h3 : ¬ (i + 3 < 0 ∨ L ≤ (i + 3).toNatClampNeg)) (h4 : ¬ (i + 4 < 0 ∨ L ≤ (i + 4).toNatClampNeg)) (h5 : ¬ (i + 5 < 0 ∨ L ≤ (i + 5).toNatClampNeg)) {P : Option Value × xH × Nat × Nat → Prop} (kk : x_R x_mt (some (L, xs)) 10 M_law (18, [(3, .int (i + Int32.ofInt (6))), (2, .ref 75), (1, .ref 0), (0, .ref x_scr)], [], h, 98, 10728) P) : x_R x_mt (some (L, xs)) 10 M_law (2368, [(3, .int i), (2, .ref 75), (1, .ref 0), (0, .ref x_scr)], [], h, 98, 10728) P := by
  refine j_Lst (c' := (2371, [(3, .int (i + Int32.ofInt (6))), (2, .ref 75), (1, .ref 0), (0, .ref x_scr)], [], h, 98, 10728)) lr_2368 rfl ?_
  refine j_Lst (c' := (18, [(3, .int (i + Int32.ofInt (6))), (2, .ref 75), (1, .ref 0), (0, .ref x_scr)], [], h, 98, 10728)) lr_2371 rfl ?_
  exact kk
/-! ===== the switch ===== -/
set_option maxRecDepth 100000 in
theorem x_tb0 (h : xH) (L : Nat) (xs : Nat → Int32) (i : Int32) {P : Option Value × xH × Nat × Nat → Prop} (kk : x_R x_mt (some (L, xs)) 10 M_law (328, [(3, .int i), (2, .ref 75), (1, .ref 0), (0, .ref x_scr)], [], h, 98, 10728) P) : x_R x_mt (some (L, xs)) 10 M_law (33, [(3, .int i), (2, .ref 75), (1, .ref 0), (0, .ref x_scr)], [.int (nI 0)], h, 98, 10728) P := j_Lst lr_33 rfl kk
set_option maxRecDepth 100000 in
theorem x_tb1 (h : xH) (L : Nat) (xs : Nat → Int32) (i : Int32) {P : Option Value × xH × Nat × Nat → Prop} (kk : x_R x_mt (some (L, xs)) 10 M_law (391, [(3, .int i), (2, .ref 75), (1, .ref 0), (0, .ref x_scr)], [], h, 98, 10728) P) : x_R x_mt (some (L, xs)) 10 M_law (33, [(3, .int i), (2, .ref 75), (1, .ref 0), (0, .ref x_scr)], [.int (nI 1)], h, 98, 10728) P := j_Lst lr_33 rfl kk
set_option maxRecDepth 100000 in
theorem x_tb2 (h : xH) (L : Nat) (xs : Nat → Int32) (i : Int32) {P : Option Value × xH × Nat × Nat → Prop} (kk : x_R x_mt (some (L, xs)) 10 M_law (414, [(3, .int i), (2, .ref 75), (1, .ref 0), (0, .ref x_scr)], [], h, 98, 10728) P) : x_R x_mt (some (L, xs)) 10 M_law (33, [(3, .int i), (2, .ref 75), (1, .ref 0), (0, .ref x_scr)], [.int (nI 2)], h, 98, 10728) P := j_Lst lr_33 rfl kk
set_option maxRecDepth 100000 in
theorem x_tb3 (h : xH) (L : Nat) (xs : Nat → Int32) (i : Int32) {P : Option Value × xH × Nat × Nat → Prop} (kk : x_R x_mt (some (L, xs)) 10 M_law (427, [(3, .int i), (2, .ref 75), (1, .ref 0), (0, .ref x_scr)], [], h, 98, 10728) P) : x_R x_mt (some (L, xs)) 10 M_law (33, [(3, .int i), (2, .ref 75), (1, .ref 0), (0, .ref x_scr)], [.int (nI 3)], h, 98, 10728) P := j_Lst lr_33 rfl kk
set_option maxRecDepth 100000 in
theorem x_tb4 (h : xH) (L : Nat) (xs : Nat → Int32) (i : Int32) {P : Option Value × xH × Nat × Nat → Prop} (kk : x_R x_mt (some (L, xs)) 10 M_law (450, [(3, .int i), (2, .ref 75), (1, .ref 0), (0, .ref x_scr)], [], h, 98, 10728) P) : x_R x_mt (some (L, xs)) 10 M_law (33, [(3, .int i), (2, .ref 75), (1, .ref 0), (0, .ref x_scr)], [.int (nI 4)], h, 98, 10728) P := j_Lst lr_33 rfl kk
set_option maxRecDepth 100000 in
theorem x_tb5 (h : xH) (L : Nat) (xs : Nat → Int32) (i : Int32) {P : Option Value × xH × Nat × Nat → Prop} (kk : x_R x_mt (some (L, xs)) 10 M_law (483, [(3, .int i), (2, .ref 75), (1, .ref 0), (0, .ref x_scr)], [], h, 98, 10728) P) : x_R x_mt (some (L, xs)) 10 M_law (33, [(3, .int i), (2, .ref 75), (1, .ref 0), (0, .ref x_scr)], [.int (nI 5)], h, 98, 10728) P := j_Lst lr_33 rfl kk
set_option maxRecDepth 100000 in
theorem x_tb6 (h : xH) (L : Nat) (xs : Nat → Int32) (i : Int32) {P : Option Value × xH × Nat × Nat → Prop} (kk : x_R x_mt (some (L, xs)) 10 M_law (516, [(3, .int i), (2, .ref 75), (1, .ref 0), (0, .ref x_scr)], [], h, 98, 10728) P) : x_R x_mt (some (L, xs)) 10 M_law (33, [(3, .int i), (2, .ref 75), (1, .ref 0), (0, .ref x_scr)], [.int (nI 6)], h, 98, 10728) P := j_Lst lr_33 rfl kk
set_option maxRecDepth 100000 in
theorem x_tb7 (h : xH) (L : Nat) (xs : Nat → Int32) (i : Int32) {P : Option Value × xH × Nat × Nat → Prop} (kk : x_R x_mt (some (L, xs)) 10 M_law (539, [(3, .int i), (2, .ref 75), (1, .ref 0), (0, .ref x_scr)], [], h, 98, 10728) P) : x_R x_mt (some (L, xs)) 10 M_law (33, [(3, .int i), (2, .ref 75), (1, .ref 0), (0, .ref x_scr)], [.int (nI 7)], h, 98, 10728) P := j_Lst lr_33 rfl kk
set_option maxRecDepth 100000 in
theorem x_tb8 (h : xH) (L : Nat) (xs : Nat → Int32) (i : Int32) {P : Option Value × xH × Nat × Nat → Prop} (kk : x_R x_mt (some (L, xs)) 10 M_law (552, [(3, .int i), (2, .ref 75), (1, .ref 0), (0, .ref x_scr)], [], h, 98, 10728) P) : x_R x_mt (some (L, xs)) 10 M_law (33, [(3, .int i), (2, .ref 75), (1, .ref 0), (0, .ref x_scr)], [.int (nI 8)], h, 98, 10728) P := j_Lst lr_33 rfl kk
set_option maxRecDepth 100000 in
theorem x_tb9 (h : xH) (L : Nat) (xs : Nat → Int32) (i : Int32) {P : Option Value × xH × Nat × Nat → Prop} (kk : x_R x_mt (some (L, xs)) 10 M_law (585, [(3, .int i), (2, .ref 75), (1, .ref 0), (0, .ref x_scr)], [], h, 98, 10728) P) : x_R x_mt (some (L, xs)) 10 M_law (33, [(3, .int i), (2, .ref 75), (1, .ref 0), (0, .ref x_scr)], [.int (nI 9)], h, 98, 10728) P := j_Lst lr_33 rfl kk
set_option maxRecDepth 100000 in
theorem x_tb10 (h : xH) (L : Nat) (xs : Nat → Int32) (i : Int32) {P : Option Value × xH × Nat × Nat → Prop} (kk : x_R x_mt (some (L, xs)) 10 M_law (608, [(3, .int i), (2, .ref 75), (1, .ref 0), (0, .ref x_scr)], [], h, 98, 10728) P) : x_R x_mt (some (L, xs)) 10 M_law (33, [(3, .int i), (2, .ref 75), (1, .ref 0), (0, .ref x_scr)], [.int (nI 10)], h, 98, 10728) P := j_Lst lr_33 rfl kk
set_option maxRecDepth 100000 in
theorem x_tb11 (h : xH) (L : Nat) (xs : Nat → Int32) (i : Int32) {P : Option Value × xH × Nat × Nat → Prop} (kk : x_R x_mt (some (L, xs)) 10 M_law (621, [(3, .int i), (2, .ref 75), (1, .ref 0), (0, .ref x_scr)], [], h, 98, 10728) P) : x_R x_mt (some (L, xs)) 10 M_law (33, [(3, .int i), (2, .ref 75), (1, .ref 0), (0, .ref x_scr)], [.int (nI 11)], h, 98, 10728) P := j_Lst lr_33 rfl kk
set_option maxRecDepth 100000 in
theorem x_tb12 (h : xH) (L : Nat) (xs : Nat → Int32) (i : Int32) {P : Option Value × xH × Nat × Nat → Prop} (kk : x_R x_mt (some (L, xs)) 10 M_law (654, [(3, .int i), (2, .ref 75), (1, .ref 0), (0, .ref x_scr)], [], h, 98, 10728) P) : x_R x_mt (some (L, xs)) 10 M_law (33, [(3, .int i), (2, .ref 75), (1, .ref 0), (0, .ref x_scr)], [.int (nI 12)], h, 98, 10728) P := j_Lst lr_33 rfl kk
set_option maxRecDepth 100000 in
theorem x_tb13 (h : xH) (L : Nat) (xs : Nat → Int32) (i : Int32) {P : Option Value × xH × Nat × Nat → Prop} (kk : x_R x_mt (some (L, xs)) 10 M_law (687, [(3, .int i), (2, .ref 75), (1, .ref 0), (0, .ref x_scr)], [], h, 98, 10728) P) : x_R x_mt (some (L, xs)) 10 M_law (33, [(3, .int i), (2, .ref 75), (1, .ref 0), (0, .ref x_scr)], [.int (nI 13)], h, 98, 10728) P := j_Lst lr_33 rfl kk
set_option maxRecDepth 100000 in
theorem x_tb14 (h : xH) (L : Nat) (xs : Nat → Int32) (i : Int32) {P : Option Value × xH × Nat × Nat → Prop} (kk : x_R x_mt (some (L, xs)) 10 M_law (720, [(3, .int i), (2, .ref 75), (1, .ref 0), (0, .ref x_scr)], [], h, 98, 10728) P) : x_R x_mt (some (L, xs)) 10 M_law (33, [(3, .int i), (2, .ref 75), (1, .ref 0), (0, .ref x_scr)], [.int (nI 14)], h, 98, 10728) P := j_Lst lr_33 rfl kk
set_option maxRecDepth 100000 in
theorem x_tb15 (h : xH) (L : Nat) (xs : Nat → Int32) (i : Int32) {P : Option Value × xH × Nat × Nat → Prop} (kk : x_R x_mt (some (L, xs)) 10 M_law (743, [(3, .int i), (2, .ref 75), (1, .ref 0), (0, .ref x_scr)], [], h, 98, 10728) P) : x_R x_mt (some (L, xs)) 10 M_law (33, [(3, .int i), (2, .ref 75), (1, .ref 0), (0, .ref x_scr)], [.int (nI 15)], h, 98, 10728) P := j_Lst lr_33 rfl kk
set_option maxRecDepth 100000 in
theorem x_tb16 (h : xH) (L : Nat) (xs : Nat → Int32) (i : Int32) {P : Option Value × xH × Nat × Nat → Prop} (kk : x_R x_mt (some (L, xs)) 10 M_law (776, [(3, .int i), (2, .ref 75), (1, .ref 0), (0, .ref x_scr)], [], h, 98, 10728) P) : x_R x_mt (some (L, xs)) 10 M_law (33, [(3, .int i), (2, .ref 75), (1, .ref 0), (0, .ref x_scr)], [.int (nI 16)], h, 98, 10728) P := j_Lst lr_33 rfl kk
set_option maxRecDepth 100000 in
theorem x_tb17 (h : xH) (L : Nat) (xs : Nat → Int32) (i : Int32) {P : Option Value × xH × Nat × Nat → Prop} (kk : x_R x_mt (some (L, xs)) 10 M_law (809, [(3, .int i), (2, .ref 75), (1, .ref 0), (0, .ref x_scr)], [], h, 98, 10728) P) : x_R x_mt (some (L, xs)) 10 M_law (33, [(3, .int i), (2, .ref 75), (1, .ref 0), (0, .ref x_scr)], [.int (nI 17)], h, 98, 10728) P := j_Lst lr_33 rfl kk
set_option maxRecDepth 100000 in
theorem x_tb18 (h : xH) (L : Nat) (xs : Nat → Int32) (i : Int32) {P : Option Value × xH × Nat × Nat → Prop} (kk : x_R x_mt (some (L, xs)) 10 M_law (842, [(3, .int i), (2, .ref 75), (1, .ref 0), (0, .ref x_scr)], [], h, 98, 10728) P) : x_R x_mt (some (L, xs)) 10 M_law (33, [(3, .int i), (2, .ref 75), (1, .ref 0), (0, .ref x_scr)], [.int (nI 18)], h, 98, 10728) P := j_Lst lr_33 rfl kk
set_option maxRecDepth 100000 in
theorem x_tb19 (h : xH) (L : Nat) (xs : Nat → Int32) (i : Int32) {P : Option Value × xH × Nat × Nat → Prop} (kk : x_R x_mt (some (L, xs)) 10 M_law (865, [(3, .int i), (2, .ref 75), (1, .ref 0), (0, .ref x_scr)], [], h, 98, 10728) P) : x_R x_mt (some (L, xs)) 10 M_law (33, [(3, .int i), (2, .ref 75), (1, .ref 0), (0, .ref x_scr)], [.int (nI 19)], h, 98, 10728) P := j_Lst lr_33 rfl kk
set_option maxRecDepth 100000 in
theorem x_tb20 (h : xH) (L : Nat) (xs : Nat → Int32) (i : Int32) {P : Option Value × xH × Nat × Nat → Prop} (kk : x_R x_mt (some (L, xs)) 10 M_law (888, [(3, .int i), (2, .ref 75), (1, .ref 0), (0, .ref x_scr)], [], h, 98, 10728) P) : x_R x_mt (some (L, xs)) 10 M_law (33, [(3, .int i), (2, .ref 75), (1, .ref 0), (0, .ref x_scr)], [.int (nI 20)], h, 98, 10728) P := j_Lst lr_33 rfl kk
set_option maxRecDepth 100000 in
theorem x_tb21 (h : xH) (L : Nat) (xs : Nat → Int32) (i : Int32) {P : Option Value × xH × Nat × Nat → Prop} (kk : x_R x_mt (some (L, xs)) 10 M_law (911, [(3, .int i), (2, .ref 75), (1, .ref 0), (0, .ref x_scr)], [], h, 98, 10728) P) : x_R x_mt (some (L, xs)) 10 M_law (33, [(3, .int i), (2, .ref 75), (1, .ref 0), (0, .ref x_scr)], [.int (nI 21)], h, 98, 10728) P := j_Lst lr_33 rfl kk
set_option maxRecDepth 100000 in
theorem x_tb22 (h : xH) (L : Nat) (xs : Nat → Int32) (i : Int32) {P : Option Value × xH × Nat × Nat → Prop} (kk : x_R x_mt (some (L, xs)) 10 M_law (944, [(3, .int i), (2, .ref 75), (1, .ref 0), (0, .ref x_scr)], [], h, 98, 10728) P) : x_R x_mt (some (L, xs)) 10 M_law (33, [(3, .int i), (2, .ref 75), (1, .ref 0), (0, .ref x_scr)], [.int (nI 22)], h, 98, 10728) P := j_Lst lr_33 rfl kk
set_option maxRecDepth 100000 in
theorem x_tb23 (h : xH) (L : Nat) (xs : Nat → Int32) (i : Int32) {P : Option Value × xH × Nat × Nat → Prop} (kk : x_R x_mt (some (L, xs)) 10 M_law (977, [(3, .int i), (2, .ref 75), (1, .ref 0), (0, .ref x_scr)], [], h, 98, 10728) P) : x_R x_mt (some (L, xs)) 10 M_law (33, [(3, .int i), (2, .ref 75), (1, .ref 0), (0, .ref x_scr)], [.int (nI 23)], h, 98, 10728) P := j_Lst lr_33 rfl kk
set_option maxRecDepth 100000 in
theorem x_tb24 (h : xH) (L : Nat) (xs : Nat → Int32) (i : Int32) {P : Option Value × xH × Nat × Nat → Prop} (kk : x_R x_mt (some (L, xs)) 10 M_law (1000, [(3, .int i), (2, .ref 75), (1, .ref 0), (0, .ref x_scr)], [], h, 98, 10728) P) : x_R x_mt (some (L, xs)) 10 M_law (33, [(3, .int i), (2, .ref 75), (1, .ref 0), (0, .ref x_scr)], [.int (nI 24)], h, 98, 10728) P := j_Lst lr_33 rfl kk
set_option maxRecDepth 100000 in
theorem x_tb25 (h : xH) (L : Nat) (xs : Nat → Int32) (i : Int32) {P : Option Value × xH × Nat × Nat → Prop} (kk : x_R x_mt (some (L, xs)) 10 M_law (1033, [(3, .int i), (2, .ref 75), (1, .ref 0), (0, .ref x_scr)], [], h, 98, 10728) P) : x_R x_mt (some (L, xs)) 10 M_law (33, [(3, .int i), (2, .ref 75), (1, .ref 0), (0, .ref x_scr)], [.int (nI 25)], h, 98, 10728) P := j_Lst lr_33 rfl kk
set_option maxRecDepth 100000 in
theorem x_tb26 (h : xH) (L : Nat) (xs : Nat → Int32) (i : Int32) {P : Option Value × xH × Nat × Nat → Prop} (kk : x_R x_mt (some (L, xs)) 10 M_law (1066, [(3, .int i), (2, .ref 75), (1, .ref 0), (0, .ref x_scr)], [], h, 98, 10728) P) : x_R x_mt (some (L, xs)) 10 M_law (33, [(3, .int i), (2, .ref 75), (1, .ref 0), (0, .ref x_scr)], [.int (nI 26)], h, 98, 10728) P := j_Lst lr_33 rfl kk
set_option maxRecDepth 100000 in
theorem x_tb27 (h : xH) (L : Nat) (xs : Nat → Int32) (i : Int32) {P : Option Value × xH × Nat × Nat → Prop} (kk : x_R x_mt (some (L, xs)) 10 M_law (1089, [(3, .int i), (2, .ref 75), (1, .ref 0), (0, .ref x_scr)], [], h, 98, 10728) P) : x_R x_mt (some (L, xs)) 10 M_law (33, [(3, .int i), (2, .ref 75), (1, .ref 0), (0, .ref x_scr)], [.int (nI 27)], h, 98, 10728) P := j_Lst lr_33 rfl kk
set_option maxRecDepth 100000 in
theorem x_tb28 (h : xH) (L : Nat) (xs : Nat → Int32) (i : Int32) {P : Option Value × xH × Nat × Nat → Prop} (kk : x_R x_mt (some (L, xs)) 10 M_law (1122, [(3, .int i), (2, .ref 75), (1, .ref 0), (0, .ref x_scr)], [], h, 98, 10728) P) : x_R x_mt (some (L, xs)) 10 M_law (33, [(3, .int i), (2, .ref 75), (1, .ref 0), (0, .ref x_scr)], [.int (nI 28)], h, 98, 10728) P := j_Lst lr_33 rfl kk
set_option maxRecDepth 100000 in
theorem x_tb29 (h : xH) (L : Nat) (xs : Nat → Int32) (i : Int32) {P : Option Value × xH × Nat × Nat → Prop} (kk : x_R x_mt (some (L, xs)) 10 M_law (1145, [(3, .int i), (2, .ref 75), (1, .ref 0), (0, .ref x_scr)], [], h, 98, 10728) P) : x_R x_mt (some (L, xs)) 10 M_law (33, [(3, .int i), (2, .ref 75), (1, .ref 0), (0, .ref x_scr)], [.int (nI 29)], h, 98, 10728) P := j_Lst lr_33 rfl kk
set_option maxRecDepth 100000 in
theorem x_tb30 (h : xH) (L : Nat) (xs : Nat → Int32) (i : Int32) {P : Option Value × xH × Nat × Nat → Prop} (kk : x_R x_mt (some (L, xs)) 10 M_law (1168, [(3, .int i), (2, .ref 75), (1, .ref 0), (0, .ref x_scr)], [], h, 98, 10728) P) : x_R x_mt (some (L, xs)) 10 M_law (33, [(3, .int i), (2, .ref 75), (1, .ref 0), (0, .ref x_scr)], [.int (nI 30)], h, 98, 10728) P := j_Lst lr_33 rfl kk
set_option maxRecDepth 100000 in
theorem x_tb31 (h : xH) (L : Nat) (xs : Nat → Int32) (i : Int32) {P : Option Value × xH × Nat × Nat → Prop} (kk : x_R x_mt (some (L, xs)) 10 M_law (1201, [(3, .int i), (2, .ref 75), (1, .ref 0), (0, .ref x_scr)], [], h, 98, 10728) P) : x_R x_mt (some (L, xs)) 10 M_law (33, [(3, .int i), (2, .ref 75), (1, .ref 0), (0, .ref x_scr)], [.int (nI 31)], h, 98, 10728) P := j_Lst lr_33 rfl kk
set_option maxRecDepth 100000 in
theorem x_tb32 (h : xH) (L : Nat) (xs : Nat → Int32) (i : Int32) {P : Option Value × xH × Nat × Nat → Prop} (kk : x_R x_mt (some (L, xs)) 10 M_law (1244, [(3, .int i), (2, .ref 75), (1, .ref 0), (0, .ref x_scr)], [], h, 98, 10728) P) : x_R x_mt (some (L, xs)) 10 M_law (33, [(3, .int i), (2, .ref 75), (1, .ref 0), (0, .ref x_scr)], [.int (nI 32)], h, 98, 10728) P := j_Lst lr_33 rfl kk
set_option maxRecDepth 100000 in
theorem x_tb33 (h : xH) (L : Nat) (xs : Nat → Int32) (i : Int32) {P : Option Value × xH × Nat × Nat → Prop} (kk : x_R x_mt (some (L, xs)) 10 M_law (1267, [(3, .int i), (2, .ref 75), (1, .ref 0), (0, .ref x_scr)], [], h, 98, 10728) P) : x_R x_mt (some (L, xs)) 10 M_law (33, [(3, .int i), (2, .ref 75), (1, .ref 0), (0, .ref x_scr)], [.int (nI 33)], h, 98, 10728) P := j_Lst lr_33 rfl kk
set_option maxRecDepth 100000 in
theorem x_tb34 (h : xH) (L : Nat) (xs : Nat → Int32) (i : Int32) {P : Option Value × xH × Nat × Nat → Prop} (kk : x_R x_mt (some (L, xs)) 10 M_law (1290, [(3, .int i), (2, .ref 75), (1, .ref 0), (0, .ref x_scr)], [], h, 98, 10728) P) : x_R x_mt (some (L, xs)) 10 M_law (33, [(3, .int i), (2, .ref 75), (1, .ref 0), (0, .ref x_scr)], [.int (nI 34)], h, 98, 10728) P := j_Lst lr_33 rfl kk
set_option maxRecDepth 100000 in
theorem x_tb35 (h : xH) (L : Nat) (xs : Nat → Int32) (i : Int32) {P : Option Value × xH × Nat × Nat → Prop} (kk : x_R x_mt (some (L, xs)) 10 M_law (1313, [(3, .int i), (2, .ref 75), (1, .ref 0), (0, .ref x_scr)], [], h, 98, 10728) P) : x_R x_mt (some (L, xs)) 10 M_law (33, [(3, .int i), (2, .ref 75), (1, .ref 0), (0, .ref x_scr)], [.int (nI 35)], h, 98, 10728) P := j_Lst lr_33 rfl kk
set_option maxRecDepth 100000 in
theorem x_tb36 (h : xH) (L : Nat) (xs : Nat → Int32) (i : Int32) {P : Option Value × xH × Nat × Nat → Prop} (kk : x_R x_mt (some (L, xs)) 10 M_law (1336, [(3, .int i), (2, .ref 75), (1, .ref 0), (0, .ref x_scr)], [], h, 98, 10728) P) : x_R x_mt (some (L, xs)) 10 M_law (33, [(3, .int i), (2, .ref 75), (1, .ref 0), (0, .ref x_scr)], [.int (nI 36)], h, 98, 10728) P := j_Lst lr_33 rfl kk
set_option maxRecDepth 100000 in
theorem x_tb37 (h : xH) (L : Nat) (xs : Nat → Int32) (i : Int32) {P : Option Value × xH × Nat × Nat → Prop} (kk : x_R x_mt (some (L, xs)) 10 M_law (1359, [(3, .int i), (2, .ref 75), (1, .ref 0), (0, .ref x_scr)], [], h, 98, 10728) P) : x_R x_mt (some (L, xs)) 10 M_law (33, [(3, .int i), (2, .ref 75), (1, .ref 0), (0, .ref x_scr)], [.int (nI 37)], h, 98, 10728) P := j_Lst lr_33 rfl kk
set_option maxRecDepth 100000 in
theorem x_tb38 (h : xH) (L : Nat) (xs : Nat → Int32) (i : Int32) {P : Option Value × xH × Nat × Nat → Prop} (kk : x_R x_mt (some (L, xs)) 10 M_law (1382, [(3, .int i), (2, .ref 75), (1, .ref 0), (0, .ref x_scr)], [], h, 98, 10728) P) : x_R x_mt (some (L, xs)) 10 M_law (33, [(3, .int i), (2, .ref 75), (1, .ref 0), (0, .ref x_scr)], [.int (nI 38)], h, 98, 10728) P := j_Lst lr_33 rfl kk
set_option maxRecDepth 100000 in
theorem x_tb39 (h : xH) (L : Nat) (xs : Nat → Int32) (i : Int32) {P : Option Value × xH × Nat × Nat → Prop} (kk : x_R x_mt (some (L, xs)) 10 M_law (1415, [(3, .int i), (2, .ref 75), (1, .ref 0), (0, .ref x_scr)], [], h, 98, 10728) P) : x_R x_mt (some (L, xs)) 10 M_law (33, [(3, .int i), (2, .ref 75), (1, .ref 0), (0, .ref x_scr)], [.int (nI 39)], h, 98, 10728) P := j_Lst lr_33 rfl kk
set_option maxRecDepth 100000 in
theorem x_tb40 (h : xH) (L : Nat) (xs : Nat → Int32) (i : Int32) {P : Option Value × xH × Nat × Nat → Prop} (kk : x_R x_mt (some (L, xs)) 10 M_law (1438, [(3, .int i), (2, .ref 75), (1, .ref 0), (0, .ref x_scr)], [], h, 98, 10728) P) : x_R x_mt (some (L, xs)) 10 M_law (33, [(3, .int i), (2, .ref 75), (1, .ref 0), (0, .ref x_scr)], [.int (nI 40)], h, 98, 10728) P := j_Lst lr_33 rfl kk
set_option maxRecDepth 100000 in
theorem x_tb41 (h : xH) (L : Nat) (xs : Nat → Int32) (i : Int32) {P : Option Value × xH × Nat × Nat → Prop} (kk : x_R x_mt (some (L, xs)) 10 M_law (1461, [(3, .int i), (2, .ref 75), (1, .ref 0), (0, .ref x_scr)], [], h, 98, 10728) P) : x_R x_mt (some (L, xs)) 10 M_law (33, [(3, .int i), (2, .ref 75), (1, .ref 0), (0, .ref x_scr)], [.int (nI 41)], h, 98, 10728) P := j_Lst lr_33 rfl kk
set_option maxRecDepth 100000 in
theorem x_tb42 (h : xH) (L : Nat) (xs : Nat → Int32) (i : Int32) {P : Option Value × xH × Nat × Nat → Prop} (kk : x_R x_mt (some (L, xs)) 10 M_law (1474, [(3, .int i), (2, .ref 75), (1, .ref 0), (0, .ref x_scr)], [], h, 98, 10728) P) : x_R x_mt (some (L, xs)) 10 M_law (33, [(3, .int i), (2, .ref 75), (1, .ref 0), (0, .ref x_scr)], [.int (nI 42)], h, 98, 10728) P := j_Lst lr_33 rfl kk
set_option maxRecDepth 100000 in
theorem x_tb43 (h : xH) (L : Nat) (xs : Nat → Int32) (i : Int32) {P : Option Value × xH × Nat × Nat → Prop} (kk : x_R x_mt (some (L, xs)) 10 M_law (1497, [(3, .int i), (2, .ref 75), (1, .ref 0), (0, .ref x_scr)], [], h, 98, 10728) P) : x_R x_mt (some (L, xs)) 10 M_law (33, [(3, .int i), (2, .ref 75), (1, .ref 0), (0, .ref x_scr)], [.int (nI 43)], h, 98, 10728) P := j_Lst lr_33 rfl kk
set_option maxRecDepth 100000 in
theorem x_tb44 (h : xH) (L : Nat) (xs : Nat → Int32) (i : Int32) {P : Option Value × xH × Nat × Nat → Prop} (kk : x_R x_mt (some (L, xs)) 10 M_law (1530, [(3, .int i), (2, .ref 75), (1, .ref 0), (0, .ref x_scr)], [], h, 98, 10728) P) : x_R x_mt (some (L, xs)) 10 M_law (33, [(3, .int i), (2, .ref 75), (1, .ref 0), (0, .ref x_scr)], [.int (nI 44)], h, 98, 10728) P := j_Lst lr_33 rfl kk
set_option maxRecDepth 100000 in
theorem x_tb45 (h : xH) (L : Nat) (xs : Nat → Int32) (i : Int32) {P : Option Value × xH × Nat × Nat → Prop} (kk : x_R x_mt (some (L, xs)) 10 M_law (1553, [(3, .int i), (2, .ref 75), (1, .ref 0), (0, .ref x_scr)], [], h, 98, 10728) P) : x_R x_mt (some (L, xs)) 10 M_law (33, [(3, .int i), (2, .ref 75), (1, .ref 0), (0, .ref x_scr)], [.int (nI 45)], h, 98, 10728) P := j_Lst lr_33 rfl kk
set_option maxRecDepth 100000 in
theorem x_tb46 (h : xH) (L : Nat) (xs : Nat → Int32) (i : Int32) {P : Option Value × xH × Nat × Nat → Prop} (kk : x_R x_mt (some (L, xs)) 10 M_law (1596, [(3, .int i), (2, .ref 75), (1, .ref 0), (0, .ref x_scr)], [], h, 98, 10728) P) : x_R x_mt (some (L, xs)) 10 M_law (33, [(3, .int i), (2, .ref 75), (1, .ref 0), (0, .ref x_scr)], [.int (nI 46)], h, 98, 10728) P := j_Lst lr_33 rfl kk
set_option maxRecDepth 100000 in
theorem x_tb47 (h : xH) (L : Nat) (xs : Nat → Int32) (i : Int32) {P : Option Value × xH × Nat × Nat → Prop} (kk : x_R x_mt (some (L, xs)) 10 M_law (1619, [(3, .int i), (2, .ref 75), (1, .ref 0), (0, .ref x_scr)], [], h, 98, 10728) P) : x_R x_mt (some (L, xs)) 10 M_law (33, [(3, .int i), (2, .ref 75), (1, .ref 0), (0, .ref x_scr)], [.int (nI 47)], h, 98, 10728) P := j_Lst lr_33 rfl kk
set_option maxRecDepth 100000 in
theorem x_tb48 (h : xH) (L : Nat) (xs : Nat → Int32) (i : Int32) {P : Option Value × xH × Nat × Nat → Prop} (kk : x_R x_mt (some (L, xs)) 10 M_law (1642, [(3, .int i), (2, .ref 75), (1, .ref 0), (0, .ref x_scr)], [], h, 98, 10728) P) : x_R x_mt (some (L, xs)) 10 M_law (33, [(3, .int i), (2, .ref 75), (1, .ref 0), (0, .ref x_scr)], [.int (nI 48)], h, 98, 10728) P := j_Lst lr_33 rfl kk
set_option maxRecDepth 100000 in
theorem x_tb49 (h : xH) (L : Nat) (xs : Nat → Int32) (i : Int32) {P : Option Value × xH × Nat × Nat → Prop} (kk : x_R x_mt (some (L, xs)) 10 M_law (1665, [(3, .int i), (2, .ref 75), (1, .ref 0), (0, .ref x_scr)], [], h, 98, 10728) P) : x_R x_mt (some (L, xs)) 10 M_law (33, [(3, .int i), (2, .ref 75), (1, .ref 0), (0, .ref x_scr)], [.int (nI 49)], h, 98, 10728) P := j_Lst lr_33 rfl kk
set_option maxRecDepth 100000 in
theorem x_tb50 (h : xH) (L : Nat) (xs : Nat → Int32) (i : Int32) {P : Option Value × xH × Nat × Nat → Prop} (kk : x_R x_mt (some (L, xs)) 10 M_law (1688, [(3, .int i), (2, .ref 75), (1, .ref 0), (0, .ref x_scr)], [], h, 98, 10728) P) : x_R x_mt (some (L, xs)) 10 M_law (33, [(3, .int i), (2, .ref 75), (1, .ref 0), (0, .ref x_scr)], [.int (nI 50)], h, 98, 10728) P := j_Lst lr_33 rfl kk
set_option maxRecDepth 100000 in
theorem x_tb51 (h : xH) (L : Nat) (xs : Nat → Int32) (i : Int32) {P : Option Value × xH × Nat × Nat → Prop} (kk : x_R x_mt (some (L, xs)) 10 M_law (1721, [(3, .int i), (2, .ref 75), (1, .ref 0), (0, .ref x_scr)], [], h, 98, 10728) P) : x_R x_mt (some (L, xs)) 10 M_law (33, [(3, .int i), (2, .ref 75), (1, .ref 0), (0, .ref x_scr)], [.int (nI 51)], h, 98, 10728) P := j_Lst lr_33 rfl kk
set_option maxRecDepth 100000 in
theorem x_tb52 (h : xH) (L : Nat) (xs : Nat → Int32) (i : Int32) {P : Option Value × xH × Nat × Nat → Prop} (kk : x_R x_mt (some (L, xs)) 10 M_law (1744, [(3, .int i), (2, .ref 75), (1, .ref 0), (0, .ref x_scr)], [], h, 98, 10728) P) : x_R x_mt (some (L, xs)) 10 M_law (33, [(3, .int i), (2, .ref 75), (1, .ref 0), (0, .ref x_scr)], [.int (nI 52)], h, 98, 10728) P := j_Lst lr_33 rfl kk
set_option maxRecDepth 100000 in
theorem x_tb53 (h : xH) (L : Nat) (xs : Nat → Int32) (i : Int32) {P : Option Value × xH × Nat × Nat → Prop} (kk : x_R x_mt (some (L, xs)) 10 M_law (1757, [(3, .int i), (2, .ref 75), (1, .ref 0), (0, .ref x_scr)], [], h, 98, 10728) P) : x_R x_mt (some (L, xs)) 10 M_law (33, [(3, .int i), (2, .ref 75), (1, .ref 0), (0, .ref x_scr)], [.int (nI 53)], h, 98, 10728) P := j_Lst lr_33 rfl kk
set_option maxRecDepth 100000 in
theorem x_tb54 (h : xH) (L : Nat) (xs : Nat → Int32) (i : Int32) {P : Option Value × xH × Nat × Nat → Prop} (kk : x_R x_mt (some (L, xs)) 10 M_law (1770, [(3, .int i), (2, .ref 75), (1, .ref 0), (0, .ref x_scr)], [], h, 98, 10728) P) : x_R x_mt (some (L, xs)) 10 M_law (33, [(3, .int i), (2, .ref 75), (1, .ref 0), (0, .ref x_scr)], [.int (nI 54)], h, 98, 10728) P := j_Lst lr_33 rfl kk
set_option maxRecDepth 100000 in
theorem x_tb55 (h : xH) (L : Nat) (xs : Nat → Int32) (i : Int32) {P : Option Value × xH × Nat × Nat → Prop} (kk : x_R x_mt (some (L, xs)) 10 M_law (1793, [(3, .int i), (2, .ref 75), (1, .ref 0), (0, .ref x_scr)], [], h, 98, 10728) P) : x_R x_mt (some (L, xs)) 10 M_law (33, [(3, .int i), (2, .ref 75), (1, .ref 0), (0, .ref x_scr)], [.int (nI 55)], h, 98, 10728) P := j_Lst lr_33 rfl kk
set_option maxRecDepth 100000 in
theorem x_tb56 (h : xH) (L : Nat) (xs : Nat → Int32) (i : Int32) {P : Option Value × xH × Nat × Nat → Prop} (kk : x_R x_mt (some (L, xs)) 10 M_law (1826, [(3, .int i), (2, .ref 75), (1, .ref 0), (0, .ref x_scr)], [], h, 98, 10728) P) : x_R x_mt (some (L, xs)) 10 M_law (33, [(3, .int i), (2, .ref 75), (1, .ref 0), (0, .ref x_scr)], [.int (nI 56)], h, 98, 10728) P := j_Lst lr_33 rfl kk
set_option maxRecDepth 100000 in
theorem x_tb57 (h : xH) (L : Nat) (xs : Nat → Int32) (i : Int32) {P : Option Value × xH × Nat × Nat → Prop} (kk : x_R x_mt (some (L, xs)) 10 M_law (1859, [(3, .int i), (2, .ref 75), (1, .ref 0), (0, .ref x_scr)], [], h, 98, 10728) P) : x_R x_mt (some (L, xs)) 10 M_law (33, [(3, .int i), (2, .ref 75), (1, .ref 0), (0, .ref x_scr)], [.int (nI 57)], h, 98, 10728) P := j_Lst lr_33 rfl kk
set_option maxRecDepth 100000 in
theorem x_tb58 (h : xH) (L : Nat) (xs : Nat → Int32) (i : Int32) {P : Option Value × xH × Nat × Nat → Prop} (kk : x_R x_mt (some (L, xs)) 10 M_law (1882, [(3, .int i), (2, .ref 75), (1, .ref 0), (0, .ref x_scr)], [], h, 98, 10728) P) : x_R x_mt (some (L, xs)) 10 M_law (33, [(3, .int i), (2, .ref 75), (1, .ref 0), (0, .ref x_scr)], [.int (nI 58)], h, 98, 10728) P := j_Lst lr_33 rfl kk
set_option maxRecDepth 100000 in
theorem x_tb59 (h : xH) (L : Nat) (xs : Nat → Int32) (i : Int32) {P : Option Value × xH × Nat × Nat → Prop} (kk : x_R x_mt (some (L, xs)) 10 M_law (1905, [(3, .int i), (2, .ref 75), (1, .ref 0), (0, .ref x_scr)], [], h, 98, 10728) P) : x_R x_mt (some (L, xs)) 10 M_law (33, [(3, .int i), (2, .ref 75), (1, .ref 0), (0, .ref x_scr)], [.int (nI 59)], h, 98, 10728) P := j_Lst lr_33 rfl kk
set_option maxRecDepth 100000 in
theorem x_tb60 (h : xH) (L : Nat) (xs : Nat → Int32) (i : Int32) {P : Option Value × xH × Nat × Nat → Prop} (kk : x_R x_mt (some (L, xs)) 10 M_law (1938, [(3, .int i), (2, .ref 75), (1, .ref 0), (0, .ref x_scr)], [], h, 98, 10728) P) : x_R x_mt (some (L, xs)) 10 M_law (33, [(3, .int i), (2, .ref 75), (1, .ref 0), (0, .ref x_scr)], [.int (nI 60)], h, 98, 10728) P := j_Lst lr_33 rfl kk
set_option maxRecDepth 100000 in
theorem x_tb61 (h : xH) (L : Nat) (xs : Nat → Int32) (i : Int32) {P : Option Value × xH × Nat × Nat → Prop} (kk : x_R x_mt (some (L, xs)) 10 M_law (1981, [(3, .int i), (2, .ref 75), (1, .ref 0), (0, .ref x_scr)], [], h, 98, 10728) P) : x_R x_mt (some (L, xs)) 10 M_law (33, [(3, .int i), (2, .ref 75), (1, .ref 0), (0, .ref x_scr)], [.int (nI 61)], h, 98, 10728) P := j_Lst lr_33 rfl kk
set_option maxRecDepth 100000 in
theorem x_tb62 (h : xH) (L : Nat) (xs : Nat → Int32) (i : Int32) {P : Option Value × xH × Nat × Nat → Prop} (kk : x_R x_mt (some (L, xs)) 10 M_law (2024, [(3, .int i), (2, .ref 75), (1, .ref 0), (0, .ref x_scr)], [], h, 98, 10728) P) : x_R x_mt (some (L, xs)) 10 M_law (33, [(3, .int i), (2, .ref 75), (1, .ref 0), (0, .ref x_scr)], [.int (nI 62)], h, 98, 10728) P := j_Lst lr_33 rfl kk
set_option maxRecDepth 100000 in
theorem x_tb63 (h : xH) (L : Nat) (xs : Nat → Int32) (i : Int32) {P : Option Value × xH × Nat × Nat → Prop} (kk : x_R x_mt (some (L, xs)) 10 M_law (2067, [(3, .int i), (2, .ref 75), (1, .ref 0), (0, .ref x_scr)], [], h, 98, 10728) P) : x_R x_mt (some (L, xs)) 10 M_law (33, [(3, .int i), (2, .ref 75), (1, .ref 0), (0, .ref x_scr)], [.int (nI 63)], h, 98, 10728) P := j_Lst lr_33 rfl kk
set_option maxRecDepth 100000 in
theorem x_tb64 (h : xH) (L : Nat) (xs : Nat → Int32) (i : Int32) {P : Option Value × xH × Nat × Nat → Prop} (kk : x_R x_mt (some (L, xs)) 10 M_law (2120, [(3, .int i), (2, .ref 75), (1, .ref 0), (0, .ref x_scr)], [], h, 98, 10728) P) : x_R x_mt (some (L, xs)) 10 M_law (33, [(3, .int i), (2, .ref 75), (1, .ref 0), (0, .ref x_scr)], [.int (nI 64)], h, 98, 10728) P := j_Lst lr_33 rfl kk
set_option maxRecDepth 100000 in
theorem x_tb65 (h : xH) (L : Nat) (xs : Nat → Int32) (i : Int32) {P : Option Value × xH × Nat × Nat → Prop} (kk : x_R x_mt (some (L, xs)) 10 M_law (2143, [(3, .int i), (2, .ref 75), (1, .ref 0), (0, .ref x_scr)], [], h, 98, 10728) P) : x_R x_mt (some (L, xs)) 10 M_law (33, [(3, .int i), (2, .ref 75), (1, .ref 0), (0, .ref x_scr)], [.int (nI 65)], h, 98, 10728) P := j_Lst lr_33 rfl kk
set_option maxRecDepth 100000 in
theorem x_tb66 (h : xH) (L : Nat) (xs : Nat → Int32) (i : Int32) {P : Option Value × xH × Nat × Nat → Prop} (kk : x_R x_mt (some (L, xs)) 10 M_law (2166, [(3, .int i), (2, .ref 75), (1, .ref 0), (0, .ref x_scr)], [], h, 98, 10728) P) : x_R x_mt (some (L, xs)) 10 M_law (33, [(3, .int i), (2, .ref 75), (1, .ref 0), (0, .ref x_scr)], [.int (nI 66)], h, 98, 10728) P := j_Lst lr_33 rfl kk
set_option maxRecDepth 100000 in
theorem x_tb67 (h : xH) (L : Nat) (xs : Nat → Int32) (i : Int32) {P : Option Value × xH × Nat × Nat → Prop} (kk : x_R x_mt (some (L, xs)) 10 M_law (2189, [(3, .int i), (2, .ref 75), (1, .ref 0), (0, .ref x_scr)], [], h, 98, 10728) P) : x_R x_mt (some (L, xs)) 10 M_law (33, [(3, .int i), (2, .ref 75), (1, .ref 0), (0, .ref x_scr)], [.int (nI 67)], h, 98, 10728) P := j_Lst lr_33 rfl kk
set_option maxRecDepth 100000 in
theorem x_tb68 (h : xH) (L : Nat) (xs : Nat → Int32) (i : Int32) {P : Option Value × xH × Nat × Nat → Prop} (kk : x_R x_mt (some (L, xs)) 10 M_law (2232, [(3, .int i), (2, .ref 75), (1, .ref 0), (0, .ref x_scr)], [], h, 98, 10728) P) : x_R x_mt (some (L, xs)) 10 M_law (33, [(3, .int i), (2, .ref 75), (1, .ref 0), (0, .ref x_scr)], [.int (nI 68)], h, 98, 10728) P := j_Lst lr_33 rfl kk
set_option maxRecDepth 100000 in
theorem x_tb69 (h : xH) (L : Nat) (xs : Nat → Int32) (i : Int32) {P : Option Value × xH × Nat × Nat → Prop} (kk : x_R x_mt (some (L, xs)) 10 M_law (2305, [(3, .int i), (2, .ref 75), (1, .ref 0), (0, .ref x_scr)], [], h, 98, 10728) P) : x_R x_mt (some (L, xs)) 10 M_law (33, [(3, .int i), (2, .ref 75), (1, .ref 0), (0, .ref x_scr)], [.int (nI 69)], h, 98, 10728) P := j_Lst lr_33 rfl kk
set_option maxRecDepth 100000 in
theorem x_tb70 (h : xH) (L : Nat) (xs : Nat → Int32) (i : Int32) {P : Option Value × xH × Nat × Nat → Prop} (kk : x_R x_mt (some (L, xs)) 10 M_law (2368, [(3, .int i), (2, .ref 75), (1, .ref 0), (0, .ref x_scr)], [], h, 98, 10728) P) : x_R x_mt (some (L, xs)) 10 M_law (33, [(3, .int i), (2, .ref 75), (1, .ref 0), (0, .ref x_scr)], [.int (nI 70)], h, 98, 10728) P := j_Lst lr_33 rfl kk
set_option maxRecDepth 100000 in
theorem x_tb71 (h : xH) (L : Nat) (xs : Nat → Int32) (i : Int32) {P : Option Value × xH × Nat × Nat → Prop} (kk : x_R x_mt (some (L, xs)) 10 M_law (2368, [(3, .int i), (2, .ref 75), (1, .ref 0), (0, .ref x_scr)], [], h, 98, 10728) P) : x_R x_mt (some (L, xs)) 10 M_law (33, [(3, .int i), (2, .ref 75), (1, .ref 0), (0, .ref x_scr)], [.int (nI 71)], h, 98, 10728) P := j_Lst lr_33 rfl kk
set_option maxRecDepth 100000 in
theorem x_tb72 (h : xH) (L : Nat) (xs : Nat → Int32) (i : Int32) {P : Option Value × xH × Nat × Nat → Prop} (kk : x_R x_mt (some (L, xs)) 10 M_law (2368, [(3, .int i), (2, .ref 75), (1, .ref 0), (0, .ref x_scr)], [], h, 98, 10728) P) : x_R x_mt (some (L, xs)) 10 M_law (33, [(3, .int i), (2, .ref 75), (1, .ref 0), (0, .ref x_scr)], [.int (nI 72)], h, 98, 10728) P := j_Lst lr_33 rfl kk
set_option maxRecDepth 100000 in
theorem x_tb73 (h : xH) (L : Nat) (xs : Nat → Int32) (i : Int32) {P : Option Value × xH × Nat × Nat → Prop} (kk : x_R x_mt (some (L, xs)) 10 M_law (2368, [(3, .int i), (2, .ref 75), (1, .ref 0), (0, .ref x_scr)], [], h, 98, 10728) P) : x_R x_mt (some (L, xs)) 10 M_law (33, [(3, .int i), (2, .ref 75), (1, .ref 0), (0, .ref x_scr)], [.int (nI 73)], h, 98, 10728) P := j_Lst lr_33 rfl kk
set_option maxRecDepth 100000 in
theorem x_tb74 (h : xH) (L : Nat) (xs : Nat → Int32) (i : Int32) {P : Option Value × xH × Nat × Nat → Prop} (kk : x_R x_mt (some (L, xs)) 10 M_law (2368, [(3, .int i), (2, .ref 75), (1, .ref 0), (0, .ref x_scr)], [], h, 98, 10728) P) : x_R x_mt (some (L, xs)) 10 M_law (33, [(3, .int i), (2, .ref 75), (1, .ref 0), (0, .ref x_scr)], [.int (nI 74)], h, 98, 10728) P := j_Lst lr_33 rfl kk
set_option maxRecDepth 100000 in
theorem x_tb75 (h : xH) (L : Nat) (xs : Nat → Int32) (i : Int32) {P : Option Value × xH × Nat × Nat → Prop} (kk : x_R x_mt (some (L, xs)) 10 M_law (2368, [(3, .int i), (2, .ref 75), (1, .ref 0), (0, .ref x_scr)], [], h, 98, 10728) P) : x_R x_mt (some (L, xs)) 10 M_law (33, [(3, .int i), (2, .ref 75), (1, .ref 0), (0, .ref x_scr)], [.int (nI 75)], h, 98, 10728) P := j_Lst lr_33 rfl kk
set_option maxRecDepth 100000 in
theorem x_tb76 (h : xH) (L : Nat) (xs : Nat → Int32) (i : Int32) {P : Option Value × xH × Nat × Nat → Prop} (kk : x_R x_mt (some (L, xs)) 10 M_law (2368, [(3, .int i), (2, .ref 75), (1, .ref 0), (0, .ref x_scr)], [], h, 98, 10728) P) : x_R x_mt (some (L, xs)) 10 M_law (33, [(3, .int i), (2, .ref 75), (1, .ref 0), (0, .ref x_scr)], [.int (nI 76)], h, 98, 10728) P := j_Lst lr_33 rfl kk
set_option maxRecDepth 100000 in
theorem x_tb77 (h : xH) (L : Nat) (xs : Nat → Int32) (i : Int32) {P : Option Value × xH × Nat × Nat → Prop} (kk : x_R x_mt (some (L, xs)) 10 M_law (2368, [(3, .int i), (2, .ref 75), (1, .ref 0), (0, .ref x_scr)], [], h, 98, 10728) P) : x_R x_mt (some (L, xs)) 10 M_law (33, [(3, .int i), (2, .ref 75), (1, .ref 0), (0, .ref x_scr)], [.int (nI 77)], h, 98, 10728) P := j_Lst lr_33 rfl kk
set_option maxRecDepth 100000 in
theorem x_tb78 (h : xH) (L : Nat) (xs : Nat → Int32) (i : Int32) {P : Option Value × xH × Nat × Nat → Prop} (kk : x_R x_mt (some (L, xs)) 10 M_law (2368, [(3, .int i), (2, .ref 75), (1, .ref 0), (0, .ref x_scr)], [], h, 98, 10728) P) : x_R x_mt (some (L, xs)) 10 M_law (33, [(3, .int i), (2, .ref 75), (1, .ref 0), (0, .ref x_scr)], [.int (nI 78)], h, 98, 10728) P := j_Lst lr_33 rfl kk
set_option maxRecDepth 100000 in
theorem x_tb79 (h : xH) (L : Nat) (xs : Nat → Int32) (i : Int32) {P : Option Value × xH × Nat × Nat → Prop} (kk : x_R x_mt (some (L, xs)) 10 M_law (2368, [(3, .int i), (2, .ref 75), (1, .ref 0), (0, .ref x_scr)], [], h, 98, 10728) P) : x_R x_mt (some (L, xs)) 10 M_law (33, [(3, .int i), (2, .ref 75), (1, .ref 0), (0, .ref x_scr)], [.int (nI 79)], h, 98, 10728) P := j_Lst lr_33 rfl kk
set_option maxRecDepth 100000 in
theorem x_tb80 (h : xH) (L : Nat) (xs : Nat → Int32) (i : Int32) {P : Option Value × xH × Nat × Nat → Prop} (kk : x_R x_mt (some (L, xs)) 10 M_law (2368, [(3, .int i), (2, .ref 75), (1, .ref 0), (0, .ref x_scr)], [], h, 98, 10728) P) : x_R x_mt (some (L, xs)) 10 M_law (33, [(3, .int i), (2, .ref 75), (1, .ref 0), (0, .ref x_scr)], [.int (nI 80)], h, 98, 10728) P := j_Lst lr_33 rfl kk
set_option maxRecDepth 100000 in
theorem x_tb81 (h : xH) (L : Nat) (xs : Nat → Int32) (i : Int32) {P : Option Value × xH × Nat × Nat → Prop} (kk : x_R x_mt (some (L, xs)) 10 M_law (2368, [(3, .int i), (2, .ref 75), (1, .ref 0), (0, .ref x_scr)], [], h, 98, 10728) P) : x_R x_mt (some (L, xs)) 10 M_law (33, [(3, .int i), (2, .ref 75), (1, .ref 0), (0, .ref x_scr)], [.int (nI 81)], h, 98, 10728) P := j_Lst lr_33 rfl kk
set_option maxRecDepth 100000 in
theorem x_tb82 (h : xH) (L : Nat) (xs : Nat → Int32) (i : Int32) {P : Option Value × xH × Nat × Nat → Prop} (kk : x_R x_mt (some (L, xs)) 10 M_law (2368, [(3, .int i), (2, .ref 75), (1, .ref 0), (0, .ref x_scr)], [], h, 98, 10728) P) : x_R x_mt (some (L, xs)) 10 M_law (33, [(3, .int i), (2, .ref 75), (1, .ref 0), (0, .ref x_scr)], [.int (nI 82)], h, 98, 10728) P := j_Lst lr_33 rfl kk
set_option maxRecDepth 100000 in
theorem x_tb83 (h : xH) (L : Nat) (xs : Nat → Int32) (i : Int32) {P : Option Value × xH × Nat × Nat → Prop} (kk : x_R x_mt (some (L, xs)) 10 M_law (2368, [(3, .int i), (2, .ref 75), (1, .ref 0), (0, .ref x_scr)], [], h, 98, 10728) P) : x_R x_mt (some (L, xs)) 10 M_law (33, [(3, .int i), (2, .ref 75), (1, .ref 0), (0, .ref x_scr)], [.int (nI 83)], h, 98, 10728) P := j_Lst lr_33 rfl kk
set_option maxRecDepth 100000 in
theorem x_tb84 (h : xH) (L : Nat) (xs : Nat → Int32) (i : Int32) {P : Option Value × xH × Nat × Nat → Prop} (kk : x_R x_mt (some (L, xs)) 10 M_law (2368, [(3, .int i), (2, .ref 75), (1, .ref 0), (0, .ref x_scr)], [], h, 98, 10728) P) : x_R x_mt (some (L, xs)) 10 M_law (33, [(3, .int i), (2, .ref 75), (1, .ref 0), (0, .ref x_scr)], [.int (nI 84)], h, 98, 10728) P := j_Lst lr_33 rfl kk
set_option maxRecDepth 100000 in
theorem x_tb85 (h : xH) (L : Nat) (xs : Nat → Int32) (i : Int32) {P : Option Value × xH × Nat × Nat → Prop} (kk : x_R x_mt (some (L, xs)) 10 M_law (2368, [(3, .int i), (2, .ref 75), (1, .ref 0), (0, .ref x_scr)], [], h, 98, 10728) P) : x_R x_mt (some (L, xs)) 10 M_law (33, [(3, .int i), (2, .ref 75), (1, .ref 0), (0, .ref x_scr)], [.int (nI 85)], h, 98, 10728) P := j_Lst lr_33 rfl kk
set_option maxRecDepth 100000 in
theorem x_tb86 (h : xH) (L : Nat) (xs : Nat → Int32) (i : Int32) {P : Option Value × xH × Nat × Nat → Prop} (kk : x_R x_mt (some (L, xs)) 10 M_law (2368, [(3, .int i), (2, .ref 75), (1, .ref 0), (0, .ref x_scr)], [], h, 98, 10728) P) : x_R x_mt (some (L, xs)) 10 M_law (33, [(3, .int i), (2, .ref 75), (1, .ref 0), (0, .ref x_scr)], [.int (nI 86)], h, 98, 10728) P := j_Lst lr_33 rfl kk
set_option maxRecDepth 100000 in
theorem x_tb87 (h : xH) (L : Nat) (xs : Nat → Int32) (i : Int32) {P : Option Value × xH × Nat × Nat → Prop} (kk : x_R x_mt (some (L, xs)) 10 M_law (2368, [(3, .int i), (2, .ref 75), (1, .ref 0), (0, .ref x_scr)], [], h, 98, 10728) P) : x_R x_mt (some (L, xs)) 10 M_law (33, [(3, .int i), (2, .ref 75), (1, .ref 0), (0, .ref x_scr)], [.int (nI 87)], h, 98, 10728) P := j_Lst lr_33 rfl kk
set_option maxRecDepth 100000 in
theorem x_tb88 (h : xH) (L : Nat) (xs : Nat → Int32) (i : Int32) {P : Option Value × xH × Nat × Nat → Prop} (kk : x_R x_mt (some (L, xs)) 10 M_law (2368, [(3, .int i), (2, .ref 75), (1, .ref 0), (0, .ref x_scr)], [], h, 98, 10728) P) : x_R x_mt (some (L, xs)) 10 M_law (33, [(3, .int i), (2, .ref 75), (1, .ref 0), (0, .ref x_scr)], [.int (nI 88)], h, 98, 10728) P := j_Lst lr_33 rfl kk
set_option maxRecDepth 100000 in
theorem x_tb89 (h : xH) (L : Nat) (xs : Nat → Int32) (i : Int32) {P : Option Value × xH × Nat × Nat → Prop} (kk : x_R x_mt (some (L, xs)) 10 M_law (2368, [(3, .int i), (2, .ref 75), (1, .ref 0), (0, .ref x_scr)], [], h, 98, 10728) P) : x_R x_mt (some (L, xs)) 10 M_law (33, [(3, .int i), (2, .ref 75), (1, .ref 0), (0, .ref x_scr)], [.int (nI 89)], h, 98, 10728) P := j_Lst lr_33 rfl kk
set_option maxRecDepth 100000 in
theorem x_tb90 (h : xH) (L : Nat) (xs : Nat → Int32) (i : Int32) {P : Option Value × xH × Nat × Nat → Prop} (kk : x_R x_mt (some (L, xs)) 10 M_law (2368, [(3, .int i), (2, .ref 75), (1, .ref 0), (0, .ref x_scr)], [], h, 98, 10728) P) : x_R x_mt (some (L, xs)) 10 M_law (33, [(3, .int i), (2, .ref 75), (1, .ref 0), (0, .ref x_scr)], [.int (nI 90)], h, 98, 10728) P := j_Lst lr_33 rfl kk
set_option maxRecDepth 100000 in
theorem x_tb91 (h : xH) (L : Nat) (xs : Nat → Int32) (i : Int32) {P : Option Value × xH × Nat × Nat → Prop} (kk : x_R x_mt (some (L, xs)) 10 M_law (2368, [(3, .int i), (2, .ref 75), (1, .ref 0), (0, .ref x_scr)], [], h, 98, 10728) P) : x_R x_mt (some (L, xs)) 10 M_law (33, [(3, .int i), (2, .ref 75), (1, .ref 0), (0, .ref x_scr)], [.int (nI 91)], h, 98, 10728) P := j_Lst lr_33 rfl kk
set_option maxRecDepth 100000 in
theorem x_tb92 (h : xH) (L : Nat) (xs : Nat → Int32) (i : Int32) {P : Option Value × xH × Nat × Nat → Prop} (kk : x_R x_mt (some (L, xs)) 10 M_law (2368, [(3, .int i), (2, .ref 75), (1, .ref 0), (0, .ref x_scr)], [], h, 98, 10728) P) : x_R x_mt (some (L, xs)) 10 M_law (33, [(3, .int i), (2, .ref 75), (1, .ref 0), (0, .ref x_scr)], [.int (nI 92)], h, 98, 10728) P := j_Lst lr_33 rfl kk
set_option maxRecDepth 100000 in
theorem x_tb93 (h : xH) (L : Nat) (xs : Nat → Int32) (i : Int32) {P : Option Value × xH × Nat × Nat → Prop} (kk : x_R x_mt (some (L, xs)) 10 M_law (2368, [(3, .int i), (2, .ref 75), (1, .ref 0), (0, .ref x_scr)], [], h, 98, 10728) P) : x_R x_mt (some (L, xs)) 10 M_law (33, [(3, .int i), (2, .ref 75), (1, .ref 0), (0, .ref x_scr)], [.int (nI 93)], h, 98, 10728) P := j_Lst lr_33 rfl kk
set_option maxRecDepth 100000 in
theorem x_tb94 (h : xH) (L : Nat) (xs : Nat → Int32) (i : Int32) {P : Option Value × xH × Nat × Nat → Prop} (kk : x_R x_mt (some (L, xs)) 10 M_law (2368, [(3, .int i), (2, .ref 75), (1, .ref 0), (0, .ref x_scr)], [], h, 98, 10728) P) : x_R x_mt (some (L, xs)) 10 M_law (33, [(3, .int i), (2, .ref 75), (1, .ref 0), (0, .ref x_scr)], [.int (nI 94)], h, 98, 10728) P := j_Lst lr_33 rfl kk
set_option maxRecDepth 100000 in
theorem x_tb95 (h : xH) (L : Nat) (xs : Nat → Int32) (i : Int32) {P : Option Value × xH × Nat × Nat → Prop} (kk : x_R x_mt (some (L, xs)) 10 M_law (2368, [(3, .int i), (2, .ref 75), (1, .ref 0), (0, .ref x_scr)], [], h, 98, 10728) P) : x_R x_mt (some (L, xs)) 10 M_law (33, [(3, .int i), (2, .ref 75), (1, .ref 0), (0, .ref x_scr)], [.int (nI 95)], h, 98, 10728) P := j_Lst lr_33 rfl kk
set_option maxRecDepth 100000 in
theorem x_tb96 (h : xH) (L : Nat) (xs : Nat → Int32) (i : Int32) {P : Option Value × xH × Nat × Nat → Prop} (kk : x_R x_mt (some (L, xs)) 10 M_law (2368, [(3, .int i), (2, .ref 75), (1, .ref 0), (0, .ref x_scr)], [], h, 98, 10728) P) : x_R x_mt (some (L, xs)) 10 M_law (33, [(3, .int i), (2, .ref 75), (1, .ref 0), (0, .ref x_scr)], [.int (nI 96)], h, 98, 10728) P := j_Lst lr_33 rfl kk
set_option maxRecDepth 100000 in
theorem x_tb97 (h : xH) (L : Nat) (xs : Nat → Int32) (i : Int32) {P : Option Value × xH × Nat × Nat → Prop} (kk : x_R x_mt (some (L, xs)) 10 M_law (2368, [(3, .int i), (2, .ref 75), (1, .ref 0), (0, .ref x_scr)], [], h, 98, 10728) P) : x_R x_mt (some (L, xs)) 10 M_law (33, [(3, .int i), (2, .ref 75), (1, .ref 0), (0, .ref x_scr)], [.int (nI 97)], h, 98, 10728) P := j_Lst lr_33 rfl kk
set_option maxRecDepth 100000 in
theorem x_tb98 (h : xH) (L : Nat) (xs : Nat → Int32) (i : Int32) {P : Option Value × xH × Nat × Nat → Prop} (kk : x_R x_mt (some (L, xs)) 10 M_law (2368, [(3, .int i), (2, .ref 75), (1, .ref 0), (0, .ref x_scr)], [], h, 98, 10728) P) : x_R x_mt (some (L, xs)) 10 M_law (33, [(3, .int i), (2, .ref 75), (1, .ref 0), (0, .ref x_scr)], [.int (nI 98)], h, 98, 10728) P := j_Lst lr_33 rfl kk
set_option maxRecDepth 100000 in
theorem x_tb99 (h : xH) (L : Nat) (xs : Nat → Int32) (i : Int32) {P : Option Value × xH × Nat × Nat → Prop} (kk : x_R x_mt (some (L, xs)) 10 M_law (2368, [(3, .int i), (2, .ref 75), (1, .ref 0), (0, .ref x_scr)], [], h, 98, 10728) P) : x_R x_mt (some (L, xs)) 10 M_law (33, [(3, .int i), (2, .ref 75), (1, .ref 0), (0, .ref x_scr)], [.int (nI 99)], h, 98, 10728) P := j_Lst lr_33 rfl kk
set_option maxRecDepth 100000 in
theorem x_tb100 (h : xH) (L : Nat) (xs : Nat → Int32) (i : Int32) {P : Option Value × xH × Nat × Nat → Prop} (kk : x_R x_mt (some (L, xs)) 10 M_law (2368, [(3, .int i), (2, .ref 75), (1, .ref 0), (0, .ref x_scr)], [], h, 98, 10728) P) : x_R x_mt (some (L, xs)) 10 M_law (33, [(3, .int i), (2, .ref 75), (1, .ref 0), (0, .ref x_scr)], [.int (nI 100)], h, 98, 10728) P := j_Lst lr_33 rfl kk
set_option maxRecDepth 100000 in
theorem x_tb101 (h : xH) (L : Nat) (xs : Nat → Int32) (i : Int32) {P : Option Value × xH × Nat × Nat → Prop} (kk : x_R x_mt (some (L, xs)) 10 M_law (2368, [(3, .int i), (2, .ref 75), (1, .ref 0), (0, .ref x_scr)], [], h, 98, 10728) P) : x_R x_mt (some (L, xs)) 10 M_law (33, [(3, .int i), (2, .ref 75), (1, .ref 0), (0, .ref x_scr)], [.int (nI 101)], h, 98, 10728) P := j_Lst lr_33 rfl kk
set_option maxRecDepth 100000 in
theorem x_tb102 (h : xH) (L : Nat) (xs : Nat → Int32) (i : Int32) {P : Option Value × xH × Nat × Nat → Prop} (kk : x_R x_mt (some (L, xs)) 10 M_law (2368, [(3, .int i), (2, .ref 75), (1, .ref 0), (0, .ref x_scr)], [], h, 98, 10728) P) : x_R x_mt (some (L, xs)) 10 M_law (33, [(3, .int i), (2, .ref 75), (1, .ref 0), (0, .ref x_scr)], [.int (nI 102)], h, 98, 10728) P := j_Lst lr_33 rfl kk
set_option maxRecDepth 100000 in
theorem x_tb103 (h : xH) (L : Nat) (xs : Nat → Int32) (i : Int32) {P : Option Value × xH × Nat × Nat → Prop} (kk : x_R x_mt (some (L, xs)) 10 M_law (2368, [(3, .int i), (2, .ref 75), (1, .ref 0), (0, .ref x_scr)], [], h, 98, 10728) P) : x_R x_mt (some (L, xs)) 10 M_law (33, [(3, .int i), (2, .ref 75), (1, .ref 0), (0, .ref x_scr)], [.int (nI 103)], h, 98, 10728) P := j_Lst lr_33 rfl kk
set_option maxRecDepth 100000 in
theorem x_tb104 (h : xH) (L : Nat) (xs : Nat → Int32) (i : Int32) {P : Option Value × xH × Nat × Nat → Prop} (kk : x_R x_mt (some (L, xs)) 10 M_law (2368, [(3, .int i), (2, .ref 75), (1, .ref 0), (0, .ref x_scr)], [], h, 98, 10728) P) : x_R x_mt (some (L, xs)) 10 M_law (33, [(3, .int i), (2, .ref 75), (1, .ref 0), (0, .ref x_scr)], [.int (nI 104)], h, 98, 10728) P := j_Lst lr_33 rfl kk
set_option maxRecDepth 100000 in
theorem x_tb105 (h : xH) (L : Nat) (xs : Nat → Int32) (i : Int32) {P : Option Value × xH × Nat × Nat → Prop} (kk : x_R x_mt (some (L, xs)) 10 M_law (2368, [(3, .int i), (2, .ref 75), (1, .ref 0), (0, .ref x_scr)], [], h, 98, 10728) P) : x_R x_mt (some (L, xs)) 10 M_law (33, [(3, .int i), (2, .ref 75), (1, .ref 0), (0, .ref x_scr)], [.int (nI 105)], h, 98, 10728) P := j_Lst lr_33 rfl kk
set_option maxRecDepth 100000 in
theorem x_tb106 (h : xH) (L : Nat) (xs : Nat → Int32) (i : Int32) {P : Option Value × xH × Nat × Nat → Prop} (kk : x_R x_mt (some (L, xs)) 10 M_law (2368, [(3, .int i), (2, .ref 75), (1, .ref 0), (0, .ref x_scr)], [], h, 98, 10728) P) : x_R x_mt (some (L, xs)) 10 M_law (33, [(3, .int i), (2, .ref 75), (1, .ref 0), (0, .ref x_scr)], [.int (nI 106)], h, 98, 10728) P := j_Lst lr_33 rfl kk
set_option maxRecDepth 100000 in
theorem x_tb107 (h : xH) (L : Nat) (xs : Nat → Int32) (i : Int32) {P : Option Value × xH × Nat × Nat → Prop} (kk : x_R x_mt (some (L, xs)) 10 M_law (2368, [(3, .int i), (2, .ref 75), (1, .ref 0), (0, .ref x_scr)], [], h, 98, 10728) P) : x_R x_mt (some (L, xs)) 10 M_law (33, [(3, .int i), (2, .ref 75), (1, .ref 0), (0, .ref x_scr)], [.int (nI 107)], h, 98, 10728) P := j_Lst lr_33 rfl kk
set_option maxRecDepth 100000 in
theorem x_tb108 (h : xH) (L : Nat) (xs : Nat → Int32) (i : Int32) {P : Option Value × xH × Nat × Nat → Prop} (kk : x_R x_mt (some (L, xs)) 10 M_law (2368, [(3, .int i), (2, .ref 75), (1, .ref 0), (0, .ref x_scr)], [], h, 98, 10728) P) : x_R x_mt (some (L, xs)) 10 M_law (33, [(3, .int i), (2, .ref 75), (1, .ref 0), (0, .ref x_scr)], [.int (nI 108)], h, 98, 10728) P := j_Lst lr_33 rfl kk
set_option maxRecDepth 100000 in
theorem x_tb109 (h : xH) (L : Nat) (xs : Nat → Int32) (i : Int32) {P : Option Value × xH × Nat × Nat → Prop} (kk : x_R x_mt (some (L, xs)) 10 M_law (2368, [(3, .int i), (2, .ref 75), (1, .ref 0), (0, .ref x_scr)], [], h, 98, 10728) P) : x_R x_mt (some (L, xs)) 10 M_law (33, [(3, .int i), (2, .ref 75), (1, .ref 0), (0, .ref x_scr)], [.int (nI 109)], h, 98, 10728) P := j_Lst lr_33 rfl kk
set_option maxRecDepth 100000 in
theorem x_tb110 (h : xH) (L : Nat) (xs : Nat → Int32) (i : Int32) {P : Option Value × xH × Nat × Nat → Prop} (kk : x_R x_mt (some (L, xs)) 10 M_law (2368, [(3, .int i), (2, .ref 75), (1, .ref 0), (0, .ref x_scr)], [], h, 98, 10728) P) : x_R x_mt (some (L, xs)) 10 M_law (33, [(3, .int i), (2, .ref 75), (1, .ref 0), (0, .ref x_scr)], [.int (nI 110)], h, 98, 10728) P := j_Lst lr_33 rfl kk
set_option maxRecDepth 100000 in
theorem x_tb111 (h : xH) (L : Nat) (xs : Nat → Int32) (i : Int32) {P : Option Value × xH × Nat × Nat → Prop} (kk : x_R x_mt (some (L, xs)) 10 M_law (2368, [(3, .int i), (2, .ref 75), (1, .ref 0), (0, .ref x_scr)], [], h, 98, 10728) P) : x_R x_mt (some (L, xs)) 10 M_law (33, [(3, .int i), (2, .ref 75), (1, .ref 0), (0, .ref x_scr)], [.int (nI 111)], h, 98, 10728) P := j_Lst lr_33 rfl kk
set_option maxRecDepth 100000 in
theorem x_tb112 (h : xH) (L : Nat) (xs : Nat → Int32) (i : Int32) {P : Option Value × xH × Nat × Nat → Prop} (kk : x_R x_mt (some (L, xs)) 10 M_law (2368, [(3, .int i), (2, .ref 75), (1, .ref 0), (0, .ref x_scr)], [], h, 98, 10728) P) : x_R x_mt (some (L, xs)) 10 M_law (33, [(3, .int i), (2, .ref 75), (1, .ref 0), (0, .ref x_scr)], [.int (nI 112)], h, 98, 10728) P := j_Lst lr_33 rfl kk
set_option maxRecDepth 100000 in
theorem x_tb113 (h : xH) (L : Nat) (xs : Nat → Int32) (i : Int32) {P : Option Value × xH × Nat × Nat → Prop} (kk : x_R x_mt (some (L, xs)) 10 M_law (2368, [(3, .int i), (2, .ref 75), (1, .ref 0), (0, .ref x_scr)], [], h, 98, 10728) P) : x_R x_mt (some (L, xs)) 10 M_law (33, [(3, .int i), (2, .ref 75), (1, .ref 0), (0, .ref x_scr)], [.int (nI 113)], h, 98, 10728) P := j_Lst lr_33 rfl kk
set_option maxRecDepth 100000 in
theorem x_tb114 (h : xH) (L : Nat) (xs : Nat → Int32) (i : Int32) {P : Option Value × xH × Nat × Nat → Prop} (kk : x_R x_mt (some (L, xs)) 10 M_law (2368, [(3, .int i), (2, .ref 75), (1, .ref 0), (0, .ref x_scr)], [], h, 98, 10728) P) : x_R x_mt (some (L, xs)) 10 M_law (33, [(3, .int i), (2, .ref 75), (1, .ref 0), (0, .ref x_scr)], [.int (nI 114)], h, 98, 10728) P := j_Lst lr_33 rfl kk
set_option maxRecDepth 100000 in
theorem x_tb115 (h : xH) (L : Nat) (xs : Nat → Int32) (i : Int32) {P : Option Value × xH × Nat × Nat → Prop} (kk : x_R x_mt (some (L, xs)) 10 M_law (2368, [(3, .int i), (2, .ref 75), (1, .ref 0), (0, .ref x_scr)], [], h, 98, 10728) P) : x_R x_mt (some (L, xs)) 10 M_law (33, [(3, .int i), (2, .ref 75), (1, .ref 0), (0, .ref x_scr)], [.int (nI 115)], h, 98, 10728) P := j_Lst lr_33 rfl kk
set_option maxRecDepth 100000 in
theorem x_tb116 (h : xH) (L : Nat) (xs : Nat → Int32) (i : Int32) {P : Option Value × xH × Nat × Nat → Prop} (kk : x_R x_mt (some (L, xs)) 10 M_law (2368, [(3, .int i), (2, .ref 75), (1, .ref 0), (0, .ref x_scr)], [], h, 98, 10728) P) : x_R x_mt (some (L, xs)) 10 M_law (33, [(3, .int i), (2, .ref 75), (1, .ref 0), (0, .ref x_scr)], [.int (nI 116)], h, 98, 10728) P := j_Lst lr_33 rfl kk
set_option maxRecDepth 100000 in
theorem x_tb117 (h : xH) (L : Nat) (xs : Nat → Int32) (i : Int32) {P : Option Value × xH × Nat × Nat → Prop} (kk : x_R x_mt (some (L, xs)) 10 M_law (2368, [(3, .int i), (2, .ref 75), (1, .ref 0), (0, .ref x_scr)], [], h, 98, 10728) P) : x_R x_mt (some (L, xs)) 10 M_law (33, [(3, .int i), (2, .ref 75), (1, .ref 0), (0, .ref x_scr)], [.int (nI 117)], h, 98, 10728) P := j_Lst lr_33 rfl kk
set_option maxRecDepth 100000 in
theorem x_tb118 (h : xH) (L : Nat) (xs : Nat → Int32) (i : Int32) {P : Option Value × xH × Nat × Nat → Prop} (kk : x_R x_mt (some (L, xs)) 10 M_law (2368, [(3, .int i), (2, .ref 75), (1, .ref 0), (0, .ref x_scr)], [], h, 98, 10728) P) : x_R x_mt (some (L, xs)) 10 M_law (33, [(3, .int i), (2, .ref 75), (1, .ref 0), (0, .ref x_scr)], [.int (nI 118)], h, 98, 10728) P := j_Lst lr_33 rfl kk
set_option maxRecDepth 100000 in
theorem x_tb119 (h : xH) (L : Nat) (xs : Nat → Int32) (i : Int32) {P : Option Value × xH × Nat × Nat → Prop} (kk : x_R x_mt (some (L, xs)) 10 M_law (2368, [(3, .int i), (2, .ref 75), (1, .ref 0), (0, .ref x_scr)], [], h, 98, 10728) P) : x_R x_mt (some (L, xs)) 10 M_law (33, [(3, .int i), (2, .ref 75), (1, .ref 0), (0, .ref x_scr)], [.int (nI 119)], h, 98, 10728) P := j_Lst lr_33 rfl kk
set_option maxRecDepth 100000 in
theorem x_tb120 (h : xH) (L : Nat) (xs : Nat → Int32) (i : Int32) {P : Option Value × xH × Nat × Nat → Prop} (kk : x_R x_mt (some (L, xs)) 10 M_law (2368, [(3, .int i), (2, .ref 75), (1, .ref 0), (0, .ref x_scr)], [], h, 98, 10728) P) : x_R x_mt (some (L, xs)) 10 M_law (33, [(3, .int i), (2, .ref 75), (1, .ref 0), (0, .ref x_scr)], [.int (nI 120)], h, 98, 10728) P := j_Lst lr_33 rfl kk
set_option maxRecDepth 100000 in
theorem x_tb121 (h : xH) (L : Nat) (xs : Nat → Int32) (i : Int32) {P : Option Value × xH × Nat × Nat → Prop} (kk : x_R x_mt (some (L, xs)) 10 M_law (2368, [(3, .int i), (2, .ref 75), (1, .ref 0), (0, .ref x_scr)], [], h, 98, 10728) P) : x_R x_mt (some (L, xs)) 10 M_law (33, [(3, .int i), (2, .ref 75), (1, .ref 0), (0, .ref x_scr)], [.int (nI 121)], h, 98, 10728) P := j_Lst lr_33 rfl kk
set_option maxRecDepth 100000 in
theorem x_tb122 (h : xH) (L : Nat) (xs : Nat → Int32) (i : Int32) {P : Option Value × xH × Nat × Nat → Prop} (kk : x_R x_mt (some (L, xs)) 10 M_law (2368, [(3, .int i), (2, .ref 75), (1, .ref 0), (0, .ref x_scr)], [], h, 98, 10728) P) : x_R x_mt (some (L, xs)) 10 M_law (33, [(3, .int i), (2, .ref 75), (1, .ref 0), (0, .ref x_scr)], [.int (nI 122)], h, 98, 10728) P := j_Lst lr_33 rfl kk
set_option maxRecDepth 100000 in
theorem x_tb123 (h : xH) (L : Nat) (xs : Nat → Int32) (i : Int32) {P : Option Value × xH × Nat × Nat → Prop} (kk : x_R x_mt (some (L, xs)) 10 M_law (2368, [(3, .int i), (2, .ref 75), (1, .ref 0), (0, .ref x_scr)], [], h, 98, 10728) P) : x_R x_mt (some (L, xs)) 10 M_law (33, [(3, .int i), (2, .ref 75), (1, .ref 0), (0, .ref x_scr)], [.int (nI 123)], h, 98, 10728) P := j_Lst lr_33 rfl kk
set_option maxRecDepth 100000 in
theorem x_tb124 (h : xH) (L : Nat) (xs : Nat → Int32) (i : Int32) {P : Option Value × xH × Nat × Nat → Prop} (kk : x_R x_mt (some (L, xs)) 10 M_law (2368, [(3, .int i), (2, .ref 75), (1, .ref 0), (0, .ref x_scr)], [], h, 98, 10728) P) : x_R x_mt (some (L, xs)) 10 M_law (33, [(3, .int i), (2, .ref 75), (1, .ref 0), (0, .ref x_scr)], [.int (nI 124)], h, 98, 10728) P := j_Lst lr_33 rfl kk
set_option maxRecDepth 100000 in
theorem x_tb125 (h : xH) (L : Nat) (xs : Nat → Int32) (i : Int32) {P : Option Value × xH × Nat × Nat → Prop} (kk : x_R x_mt (some (L, xs)) 10 M_law (2368, [(3, .int i), (2, .ref 75), (1, .ref 0), (0, .ref x_scr)], [], h, 98, 10728) P) : x_R x_mt (some (L, xs)) 10 M_law (33, [(3, .int i), (2, .ref 75), (1, .ref 0), (0, .ref x_scr)], [.int (nI 125)], h, 98, 10728) P := j_Lst lr_33 rfl kk
set_option maxRecDepth 100000 in
theorem x_tb126 (h : xH) (L : Nat) (xs : Nat → Int32) (i : Int32) {P : Option Value × xH × Nat × Nat → Prop} (kk : x_R x_mt (some (L, xs)) 10 M_law (2368, [(3, .int i), (2, .ref 75), (1, .ref 0), (0, .ref x_scr)], [], h, 98, 10728) P) : x_R x_mt (some (L, xs)) 10 M_law (33, [(3, .int i), (2, .ref 75), (1, .ref 0), (0, .ref x_scr)], [.int (nI 126)], h, 98, 10728) P := j_Lst lr_33 rfl kk
set_option maxRecDepth 100000 in
theorem x_tb127 (h : xH) (L : Nat) (xs : Nat → Int32) (i : Int32) {P : Option Value × xH × Nat × Nat → Prop} (kk : x_R x_mt (some (L, xs)) 10 M_law (2368, [(3, .int i), (2, .ref 75), (1, .ref 0), (0, .ref x_scr)], [], h, 98, 10728) P) : x_R x_mt (some (L, xs)) 10 M_law (33, [(3, .int i), (2, .ref 75), (1, .ref 0), (0, .ref x_scr)], [.int (nI 127)], h, 98, 10728) P := j_Lst lr_33 rfl kk
/-! ===== an answer is there, and is such ===== -/
def j_Ok {α : Type} (o : Option α) (Q : α → Prop) : Prop := ∃ x, o = some x ∧ Q x
theorem j_Ok.some {α : Type} {x : α} {Q : α → Prop} (h : Q x) : j_Ok (Option.some x) Q := ⟨x, rfl, h⟩
theorem j_Ok.mono {α : Type} {o : Option α} {Q R : α → Prop} (h : j_Ok o Q) (k : ∀ x, Q x → R x) : j_Ok o R := by
  obtain ⟨x, e, q⟩ := h
  exact ⟨x, e, k x q⟩
theorem j_Ok.ite {α : Type} {p : Prop} [Decidable p] {a b : Option α} {Q : α → Prop} (h1 : p → j_Ok a Q) (h2 : ¬ p → j_Ok b Q) : j_Ok (if p then a else b) Q := by
  by_cases h : p
  · rw [if_pos h]; exact h1 h
  · rw [if_neg h]; exact h2 h
theorem j_Ok.b0 {α β : Type} {o : Option α} {k : Option β} {R : α → Prop} {Q : β → Prop} (h : j_Ok o R) (hk : j_Ok k Q) : j_Ok (j_b0 o k) Q := by
  obtain ⟨x, e, q⟩ := h
  rw [e]; exact hk
theorem j_Ok.b1 {α β : Type} {o : Option α} {k : α → Option β} {R : α → Prop} {Q : β → Prop} (h : j_Ok o R) (hk : ∀ x, R x → j_Ok (k x) Q) : j_Ok (j_b1 o k) Q := by
  obtain ⟨x, e, q⟩ := h
  rw [e]; exact hk x q
theorem j_Ok.b2 {α β γ : Type} {o : Option (α × β)} {k : α → β → Option γ} {R : α × β → Prop} {Q : γ → Prop} (h : j_Ok o R) (hk : ∀ x y, R (x, y) → j_Ok (k x y) Q) : j_Ok (j_b2 o k) Q := by
  obtain ⟨x, e, q⟩ := h
  rw [e]; exact hk x.1 x.2 q
theorem j_Ok.b3 {α β γ δ : Type} {o : Option (α × β × γ)} {k : α → β → γ → Option δ} {R : α × β × γ → Prop} {Q : δ → Prop} (h : j_Ok o R) (hk : ∀ x y z, R (x, y, z) → j_Ok (k x y z) Q) : j_Ok (j_b3 o k) Q := by
  obtain ⟨x, e, q⟩ := h
  rw [e]; exact hk x.1 x.2.1 x.2.2 q
theorem j_Ok.lt {α β : Type} {x : α} {k : α → Option β} {Q : β → Prop} (h : j_Ok (k x) Q) : j_Ok (j_lt x k) Q := h
theorem j_nn {i : Int32} (h : 0 ≤ i.toInt) : ¬ i < 0 := by
  rw [Int32.lt_iff_toInt_lt, show (0 : Int32).toInt = 0 from by decide]; omega
theorem j_nat {i : Int32} : i.toNatClampNeg = i.toInt.toNat := rfl
theorem j_Ok.ix {α : Type} {i : Int32} {n : Nat} {o : Option α} {Q : α → Prop} (h1 : 0 ≤ i.toInt) (h2 : i.toInt < n) (h : j_Ok o Q) : j_Ok (j_ix i n o) Q := by
  rw [j_ixp (fun z => z.elim (j_nn h1) (fun z => by rw [j_nat] at z; omega))]; exact h
theorem j_lo (x : Int32) : -2147483648 ≤ x.toInt := Int32.le_toInt x
theorem j_hi (x : Int32) : x.toInt < 2147483648 := Int32.toInt_lt x
theorem j_bm {z : Int} (h1 : -2147483648 ≤ z) (h2 : z < 2147483648) : z.bmod (2 ^ 32) = z := Int.bmod_eq_of_le (by omega) (by omega)
theorem j_adI {x y : Int32} (h1 : -2147483648 ≤ x.toInt + y.toInt) (h2 : x.toInt + y.toInt < 2147483648) : (x + y).toInt = x.toInt + y.toInt := by
  rw [Int32.toInt_add, j_bm h1 h2]
theorem j_sbI {x y : Int32} (h1 : -2147483648 ≤ x.toInt - y.toInt) (h2 : x.toInt - y.toInt < 2147483648) : (x - y).toInt = x.toInt - y.toInt := by
  rw [Int32.toInt_sub, j_bm h1 h2]
theorem j_mlI {x y : Int32} (h1 : -2147483648 ≤ x.toInt * y.toInt) (h2 : x.toInt * y.toInt < 2147483648) : (x * y).toInt = x.toInt * y.toInt := by
  rw [Int32.toInt_mul, j_bm h1 h2]
theorem j_ltI {x y : Int32} : x < y ↔ x.toInt < y.toInt := Int32.lt_iff_toInt_lt
theorem j_leI {x y : Int32} : x ≤ y ↔ x.toInt ≤ y.toInt := Int32.le_iff_toInt_le
theorem j_eqI {x y : Int32} : x = y ↔ x.toInt = y.toInt := Int32.toInt_inj.symm
/-! ===== numbers: nI k is k, nP k is k - 1 ===== -/
noncomputable def nP (k : Nat) : Int32 := nI k - 1
theorem y_lit (n : Nat) : (OfNat.ofNat n : Int32) = nI (OfNat.ofNat n) := Eq.trans rfl (Eq.refl _)
theorem y_n1 : -(nI 1) = nP 0 := by decide
theorem y_m1 : (-1 : Int32) = nP 0 := by decide
theorem y_nP (k : Nat) : nI k - nI 1 = nP k := Eq.trans rfl (Eq.refl _)
theorem y_nPs (k : Nat) : nP (k + 1) = nI k := nI_pred k
theorem y_nPt {k : Nat} (h : k < 2 ^ 31) : (nP k).toInt = (k : Int) - 1 := by
  unfold nP
  rw [j_sbI (by rw [nI_toInt h, show (1 : Int32).toInt = 1 from by decide]; omega) (by rw [nI_toInt h, show (1 : Int32).toInt = 1 from by decide]; omega), nI_toInt h]
  rfl
theorem y_lt {a b : Nat} (ha : a < 2 ^ 31) (hb : b < 2 ^ 31) : nI a < nI b ↔ a < b := nI_ltI ha hb
theorem y_le {a b : Nat} (ha : a < 2 ^ 31) (hb : b < 2 ^ 31) : nI a ≤ nI b ↔ a ≤ b := nI_leI ha hb
theorem y_eq {a b : Nat} (ha : a < 2 ^ 31) (hb : b < 2 ^ 31) : nI a = nI b ↔ a = b := nI_eq ha hb
theorem y_ltP {a b : Nat} (ha : a < 2 ^ 31) (hb : b < 2 ^ 31) : nP a < nI b ↔ a < b + 1 := by
  rw [j_ltI, y_nPt ha, nI_toInt hb]; omega
theorem y_ltQ {a b : Nat} (ha : a < 2 ^ 31) (hb : b < 2 ^ 31) : nI a < nP b ↔ a + 1 < b := by
  rw [j_ltI, y_nPt hb, nI_toInt ha]; omega
theorem y_ltPP {a b : Nat} (ha : a < 2 ^ 31) (hb : b < 2 ^ 31) : nP a < nP b ↔ a < b := by
  rw [j_ltI, y_nPt ha, y_nPt hb]; omega
theorem y_eqP {a b : Nat} (ha : a < 2 ^ 31) (hb : b < 2 ^ 31) : nP a = nI b ↔ a = b + 1 := by
  rw [j_eqI, y_nPt ha, nI_toInt hb]; omega
theorem y_eqQ {a b : Nat} (ha : a < 2 ^ 31) (hb : b < 2 ^ 31) : nI a = nP b ↔ a + 1 = b := by
  rw [j_eqI, y_nPt hb, nI_toInt ha]; omega
theorem y_eqPP {a b : Nat} (ha : a < 2 ^ 31) (hb : b < 2 ^ 31) : nP a = nP b ↔ a = b := by
  rw [j_eqI, y_nPt ha, y_nPt hb]; omega
/-- of any int -/
theorem y_ltr {x : Int32} {n : Nat} (h : n < 2 ^ 31) : x < nI n ↔ x.toInt < n := by rw [j_ltI, nI_toInt h]
theorem y_ltl {x : Int32} {n : Nat} (h : n < 2 ^ 31) : nI n < x ↔ (n : Int) < x.toInt := by rw [j_ltI, nI_toInt h]
theorem y_ltlP {x : Int32} {n : Nat} (h : n < 2 ^ 31) : nP n < x ↔ (n : Int) - 1 < x.toInt := by rw [j_ltI, y_nPt h]
theorem y_ltrP {x : Int32} {n : Nat} (h : n < 2 ^ 31) : x < nP n ↔ x.toInt < (n : Int) - 1 := by rw [j_ltI, y_nPt h]
theorem y_eqr {x : Int32} {n : Nat} (h : n < 2 ^ 31) : x = nI n ↔ x.toInt = n := by rw [j_eqI, nI_toInt h]
theorem y_of (x : Int32) (n : Nat) (h : 0 ≤ x.toInt) (h2 : x.toInt < n) : ∃ k : Nat, k < n ∧ x = nI k := by
  refine ⟨x.toInt.toNat, by omega, ?_⟩
  have := Int32.toInt_lt x
  rw [j_eqI, nI_toInt (by omega)]; omega
/-- a bit, or a choice -/
theorem y_i0 {p : Prop} [Decidable p] : ((if p then nI 1 else nI 0) = nI 0) ↔ ¬ p := by
  by_cases h : p
  · rw [if_pos h]; exact ⟨fun z => absurd z (by decide), fun z => absurd h z⟩
  · rw [if_neg h]; exact ⟨fun _ => h, fun _ => rfl⟩
theorem y_i1 {p : Prop} [Decidable p] : ((if p then nI 1 else nI 0) = nI 1) ↔ p := by
  by_cases h : p
  · rw [if_pos h]; exact ⟨fun _ => h, fun _ => rfl⟩
  · rw [if_neg h]; exact ⟨fun z => absurd z (by decide), fun z => absurd z h⟩
theorem y_bo {β : Type} {p : Prop} [Decidable p] {o : Option β} : j_bo (if p then nI 1 else nI 0) o = o := by
  unfold j_bo
  by_cases h : p
  · rw [if_pos h]; exact if_pos (Or.inr rfl)
  · rw [if_neg h]; exact if_pos (Or.inl rfl)
theorem y_bo1 {β : Type} {o : Option β} : j_bo (nI 1) o = o := if_pos (Or.inr rfl)
theorem y_bo0 {β : Type} {o : Option β} : j_bo (nI 0) o = o := if_pos (Or.inl rfl)
theorem y_ix {α : Type} {k n : Nat} {o : Option α} (h : k < n) (hn : n < 2 ^ 31) : j_ix (nI k) n o = o := j_ixn h hn
theorem y_l (x : Int32) : x.toInt64.toInt = x.toInt := j_l64 x
theorem y_lit64 {n : Nat} (h : (OfNat.ofNat n : Nat) < 2 ^ 31) : (OfNat.ofNat n : Int64) = (nI (OfNat.ofNat n)).toInt64 := by
  rw [nI_l h]; rfl
theorem y_in {x y z : Int32} : f_X12_in x.toInt64 y.toInt64 z.toInt64 = if ¬ x < y ∧ ¬ z < x then nI 1 else nI 0 := by
  unfold f_X12_in
  simp only [j_ltI, Int64.lt_iff_toInt_lt, j_l64]
  rfl
theorem y_pos {m n : Nat} (h : m < n) : ∃ k, n = k + 1 := ⟨n - 1, by omega⟩
theorem y_F {m : Nat} (h : m < 5000) : m < j_F := h
/-- cells that stay -/
def y_fr (lo hi : Nat) (σ σ' : j_G) : Prop := ∀ c, c < lo ∨ hi < c → σ'.1 c = σ.1 c ∧ σ'.2 c = σ.2 c
theorem y_fr.refl {lo hi : Nat} {σ : j_G} : y_fr lo hi σ σ := fun _ _ => ⟨rfl, rfl⟩
theorem y_fr.trans {lo hi : Nat} {σ σ' σ'' : j_G} (h1 : y_fr lo hi σ σ') (h2 : y_fr lo hi σ' σ'') : y_fr lo hi σ σ'' := fun c hc =>
  ⟨(h2 c hc).1.trans (h1 c hc).1, (h2 c hc).2.trans (h1 c hc).2⟩
theorem y_fr.wide {lo hi lo' hi' : Nat} {σ σ' : j_G} (h : y_fr lo hi σ σ') (h1 : lo' ≤ lo) (h2 : hi ≤ hi') : y_fr lo' hi' σ σ' := fun c hc => h c (by omega)
theorem y_fr.i {lo hi : Nat} {σ σ' : j_G} (h : y_fr lo hi σ σ') (c j : Nat) (hc : c < lo ∨ hi < c) : σ'.1 c j = σ.1 c j := by rw [(h c hc).1]
theorem y_fr.l {lo hi : Nat} {σ σ' : j_G} (h : y_fr lo hi σ σ') (c j : Nat) (hc : c < lo ∨ hi < c) : σ'.2 c j = σ.2 c j := by rw [(h c hc).2]
theorem y_fr.si {lo hi c j : Nat} {v : Int32} {σ σ' : j_G} (h : y_fr lo hi σ σ') (hc : lo ≤ c) (hd : c ≤ hi) : y_fr lo hi σ (j_si σ' c j v) := fun c' hc' =>
  ⟨(funext fun j' => j_r_ne (by omega)).trans (h c' hc').1, (h c' hc').2⟩
theorem y_fr.sl {lo hi c j : Nat} {v : Int64} {σ σ' : j_G} (h : y_fr lo hi σ σ') (hc : lo ≤ c) (hd : c ≤ hi) : y_fr lo hi σ (j_sl σ' c j v) := fun c' hc' =>
  ⟨(h c' hc').1, (funext fun j' => j_l_ne (by omega)).trans (h c' hc').2⟩
theorem y_fr.ci {lo hi a sp c dp n : Nat} {σ σ' : j_G} (h : y_fr lo hi σ σ') (hc : lo ≤ c) (hd : c ≤ hi) : y_fr lo hi σ (j_ci σ' a sp c dp n) := fun c' hc' =>
  ⟨(funext fun j' => j_c_ne (by omega)).trans (h c' hc').1, (h c' hc').2⟩
theorem y_fr.cl {lo hi a sp c dp n : Nat} {σ σ' : j_G} (h : y_fr lo hi σ σ') (hc : lo ≤ c) (hd : c ≤ hi) : y_fr lo hi σ (j_cl σ' a sp c dp n) := fun c' hc' =>
  ⟨(h c' hc').1, (funext fun j' => j_cl_ne (by omega)).trans (h c' hc').2⟩
/-- of the reference: fields f .. g of its object, cells lo .. hi -/
def y_fm (f g lo hi : Nat) (σ σ' : j_G) : Prop := (∀ j, j < f ∨ g < j → σ'.1 75 j = σ.1 75 j) ∧ ∀ c, c ≠ 75 → c < lo ∨ hi < c → σ'.1 c = σ.1 c ∧ σ'.2 c = σ.2 c
theorem y_fm.refl {f g lo hi : Nat} {σ : j_G} : y_fm f g lo hi σ σ := ⟨fun _ _ => rfl, fun _ _ _ => ⟨rfl, rfl⟩⟩
theorem y_fm.trans {f g lo hi : Nat} {σ σ' σ'' : j_G} (h1 : y_fm f g lo hi σ σ') (h2 : y_fm f g lo hi σ' σ'') : y_fm f g lo hi σ σ'' :=
  ⟨fun j hj => (h2.1 j hj).trans (h1.1 j hj), fun c hn hc => ⟨(h2.2 c hn hc).1.trans (h1.2 c hn hc).1, (h2.2 c hn hc).2.trans (h1.2 c hn hc).2⟩⟩
theorem y_fm.wide {f g lo hi f' g' lo' hi' : Nat} {σ σ' : j_G} (h : y_fm f g lo hi σ σ') (h1 : f' ≤ f) (h2 : g ≤ g') (h3 : lo' ≤ lo) (h4 : hi ≤ hi') : y_fm f' g' lo' hi' σ σ' :=
  ⟨fun j hj => h.1 j (by omega), fun c hn hc => h.2 c hn (by omega)⟩
theorem y_fm.o {f g lo hi : Nat} {σ σ' : j_G} (h : y_fm f g lo hi σ σ') (j : Nat) (hc : j < f ∨ g < j) : σ'.1 75 j = σ.1 75 j := h.1 j hc
theorem y_fm.i {f g lo hi : Nat} {σ σ' : j_G} (h : y_fm f g lo hi σ σ') (c j : Nat) (hn : c ≠ 75) (hc : c < lo ∨ hi < c) : σ'.1 c j = σ.1 c j := by rw [(h.2 c hn hc).1]
theorem y_fm.l {f g lo hi : Nat} {σ σ' : j_G} (h : y_fm f g lo hi σ σ') (c j : Nat) (hn : c ≠ 75) (hc : c < lo ∨ hi < c) : σ'.2 c j = σ.2 c j := by rw [(h.2 c hn hc).2]
theorem y_fm.so {f g lo hi j : Nat} {v : Int32} {σ σ' : j_G} (h : y_fm f g lo hi σ σ') (hc : f ≤ j) (hd : j ≤ g) : y_fm f g lo hi σ (j_si σ' 75 j v) :=
  ⟨fun j' hj => (j_r_nj (by omega)).trans (h.1 j' hj), fun c' hn hc' => ⟨(funext fun j' => j_r_ne (by omega)).trans (h.2 c' hn hc').1, (h.2 c' hn hc').2⟩⟩
theorem y_fm.si {f g lo hi c j : Nat} {v : Int32} {σ σ' : j_G} (h : y_fm f g lo hi σ σ') (hn : c ≠ 75) (hc : lo ≤ c) (hd : c ≤ hi) : y_fm f g lo hi σ (j_si σ' c j v) :=
  ⟨fun j' hj => (j_r_ne (by omega)).trans (h.1 j' hj), fun c' hn hc' => ⟨(funext fun j' => j_r_ne (by omega)).trans (h.2 c' hn hc').1, (h.2 c' hn hc').2⟩⟩
theorem y_fm.sl {f g lo hi c j : Nat} {v : Int64} {σ σ' : j_G} (h : y_fm f g lo hi σ σ') (hn : c ≠ 75) (hc : lo ≤ c) (hd : c ≤ hi) : y_fm f g lo hi σ (j_sl σ' c j v) :=
  ⟨h.1, fun c' hn hc' => ⟨(h.2 c' hn hc').1, (funext fun j' => j_l_ne (by omega)).trans (h.2 c' hn hc').2⟩⟩
theorem y_fm.slo {f g lo hi j : Nat} {v : Int64} {σ σ' : j_G} (h : y_fm f g lo hi σ σ') : y_fm f g lo hi σ (j_sl σ' 75 j v) :=
  ⟨h.1, fun c' hn hc' => ⟨(h.2 c' hn hc').1, (funext fun j' => j_l_ne (by omega)).trans (h.2 c' hn hc').2⟩⟩
/-! ===== a board, told as numbers: b 0 wide, 1 high, 2 ticks, 3 pause, 4 stays, 5 comings, 6 players, 7 shut, 8 stands, 9 lines, 10 tickets, 11 each; 12 + 2k a stay's tick, 13 + 2k its length; 24 + 3k a coming's hole, 25 + 3k its other one and 1 (0: none), 26 + 3k red; 96 + 5p + q a player ===== -/
abbrev y_rg (x : Int32) (n : Nat) : Prop := 0 ≤ x.toInt ∧ x.toInt < n
def y_cb (σ : j_G) (c c1 c2 c3 c4 c5 c6 c7 : Nat) (b : Nat → Nat) : Prop :=
  (σ.1 c 1 = nI (b 9) ∧ σ.1 c 2 = nI (b 0) ∧ σ.1 c 3 = nI (b 1) ∧ σ.1 c 4 = nI (b 2) ∧ σ.1 c 5 = nI (b 3) ∧ σ.1 c 6 = nI (b 7) ∧ σ.1 c 7 = nI (b 6) ∧ σ.1 c 10 = nI (b 4) ∧ σ.1 c4 0 = nI (b 5) ∧ σ.1 c4 1 = nI (b 8)) ∧
  (0 < b 9 → σ.1 c 8 = nI (b 10) ∧ σ.1 c 9 = nI (b 11)) ∧
  (∀ k, k < b 4 → σ.1 c1 k = nI (b (12 + 2 * k)) ∧ σ.1 c2 k = nI (b (13 + 2 * k))) ∧
  (∀ p q, p < b 6 → q < 5 → σ.1 c3 (5 * p + q) = nI (b (96 + 5 * p + q))) ∧
  (∀ k, k < b 5 → σ.1 c5 k = nI (b (24 + 3 * k)) ∧ σ.1 c6 k = nP (b (25 + 3 * k)) ∧ σ.1 c7 k = nI (b (26 + 3 * k)))
abbrev y_N (σ : j_G) (b : Nat → Nat) : Prop := y_cb σ 1 2 3 4 5 6 7 8 b
def y_mb (w : Nat → Int32) (b : Nat → Nat) : Prop := ∀ j, j < 116 → w j = if 24 ≤ j ∧ j < 96 ∧ j % 3 = 1 then nP (b j) else nI (b j)
abbrev y_M (τ : j_G) (b : Nat → Nat) : Prop := y_mb (τ.1 76) b
noncomputable def y_ho (b : Nat → Nat) : Nat := b 0 * b 1
def y_W (b : Nat → Nat) : Prop :=
  (b 0 ≤ 4 ∧ b 1 ≤ 3 ∧ b 2 ≤ 200 ∧ b 3 ≤ 9 ∧ b 4 ≤ 6 ∧ b 5 ≤ 24 ∧ b 6 ≤ 4 ∧ b 7 < 2 ^ (y_ho b) ∧ b 9 ≤ 1300) ∧
  (b 9 = 0 → b 0 = 0 ∧ b 1 = 0 ∧ b 2 = 0 ∧ b 3 = 0 ∧ b 4 = 0 ∧ b 5 = 0 ∧ b 6 = 0) ∧
  (0 < b 9 → 1 ≤ b 0 ∧ 1 ≤ b 1 ∧ 1 ≤ b 2 ∧ 1 ≤ b 10 ∧ b 10 ≤ 99 ∧ 1 ≤ b 11 ∧ b 11 ≤ 500) ∧
  (0 < b 5 → b 8 < b 5) ∧ (b 5 = 0 → b 8 = 0) ∧
  (∀ k, k < b 4 → b (12 + 2 * k) < b 2 ∧ 1 ≤ b (13 + 2 * k) ∧ b (13 + 2 * k) ≤ 40) ∧
  (∀ k l, k < l → l < b 4 → b (12 + 2 * k) ≠ b (12 + 2 * l)) ∧
  (∀ k, k < b 5 → b (24 + 3 * k) < y_ho b ∧ b (25 + 3 * k) ≤ y_ho b ∧ b (25 + 3 * k) ≠ b (24 + 3 * k) + 1 ∧ b (26 + 3 * k) ≤ 1 ∧ (0 < b (25 + 3 * k) → b (26 + 3 * k) = 0) ∧ b 7 / 2 ^ b (24 + 3 * k) % 2 = 0 ∧ (0 < b (25 + 3 * k) → b 7 / 2 ^ (b (25 + 3 * k) - 1) % 2 = 0)) ∧
  (∀ p, p < b 6 → 1 ≤ b (96 + 5 * p) ∧ b (96 + 5 * p) ≤ 9 ∧ b (97 + 5 * p) ≤ 20 ∧ b (98 + 5 * p) ≤ 99 ∧ b (99 + 5 * p) ≤ 9 ∧ b (100 + 5 * p) < y_ho b)
theorem y_W.b0 {b : Nat → Nat} (h : y_W b) : b 0 ≤ 4 := h.1.1
theorem y_W.b1 {b : Nat → Nat} (h : y_W b) : b 1 ≤ 3 := h.1.2.1
theorem y_W.b2 {b : Nat → Nat} (h : y_W b) : b 2 ≤ 200 := h.1.2.2.1
theorem y_W.b3 {b : Nat → Nat} (h : y_W b) : b 3 ≤ 9 := h.1.2.2.2.1
theorem y_W.b4 {b : Nat → Nat} (h : y_W b) : b 4 ≤ 6 := h.1.2.2.2.2.1
theorem y_W.b5 {b : Nat → Nat} (h : y_W b) : b 5 ≤ 24 := h.1.2.2.2.2.2.1
theorem y_W.b6 {b : Nat → Nat} (h : y_W b) : b 6 ≤ 4 := h.1.2.2.2.2.2.2.1
theorem y_W.ho {b : Nat → Nat} (h : y_W b) : y_ho b ≤ 12 := Nat.mul_le_mul h.b0 h.b1
theorem y_W.b7 {b : Nat → Nat} (h : y_W b) : b 7 < 4096 := Nat.lt_of_lt_of_le h.1.2.2.2.2.2.2.2.1 (Nat.pow_le_pow_right (n := 2) (by omega) h.ho)
theorem y_W.b9 {b : Nat → Nat} (h : y_W b) : b 9 ≤ 1300 := h.1.2.2.2.2.2.2.2.2
theorem y_W.b8 {b : Nat → Nat} (h : y_W b) : b 8 < 24 := by
  have := h.2.2.2.1; have := h.2.2.2.2.1; have := h.b5; omega
theorem y_W.off {b : Nat → Nat} (h : y_W b) (h9 : b 9 = 0) : b 0 = 0 ∧ b 1 = 0 ∧ b 2 = 0 ∧ b 3 = 0 ∧ b 4 = 0 ∧ b 5 = 0 ∧ b 6 = 0 := h.2.1 h9
theorem y_W.on {b : Nat → Nat} (h : y_W b) (h9 : 0 < b 9) : 1 ≤ b 0 ∧ 1 ≤ b 1 ∧ 1 ≤ b 2 ∧ 1 ≤ b 10 ∧ b 10 ≤ 99 ∧ 1 ≤ b 11 ∧ b 11 ≤ 500 := h.2.2.1 h9
theorem y_W.st {b : Nat → Nat} (h : y_W b) {k : Nat} (hk : k < b 4) : b (12 + 2 * k) < b 2 ∧ 1 ≤ b (13 + 2 * k) ∧ b (13 + 2 * k) ≤ 40 := h.2.2.2.2.2.1 k hk
theorem y_W.sd {b : Nat → Nat} (h : y_W b) {k l : Nat} (hk : k < l) (hl : l < b 4) : b (12 + 2 * k) ≠ b (12 + 2 * l) := h.2.2.2.2.2.2.1 k l hk hl
theorem y_W.co {b : Nat → Nat} (h : y_W b) {k : Nat} (hk : k < b 5) : b (24 + 3 * k) < y_ho b ∧ b (25 + 3 * k) ≤ y_ho b ∧ b (25 + 3 * k) ≠ b (24 + 3 * k) + 1 ∧ b (26 + 3 * k) ≤ 1 ∧ (0 < b (25 + 3 * k) → b (26 + 3 * k) = 0) ∧ b 7 / 2 ^ b (24 + 3 * k) % 2 = 0 ∧ (0 < b (25 + 3 * k) → b 7 / 2 ^ (b (25 + 3 * k) - 1) % 2 = 0) := h.2.2.2.2.2.2.2.1 k hk
theorem y_W.pl {b : Nat → Nat} (h : y_W b) {p : Nat} (hp : p < b 6) : 1 ≤ b (96 + 5 * p) ∧ b (96 + 5 * p) ≤ 9 ∧ b (97 + 5 * p) ≤ 20 ∧ b (98 + 5 * p) ≤ 99 ∧ b (99 + 5 * p) ≤ 9 ∧ b (100 + 5 * p) < y_ho b := h.2.2.2.2.2.2.2.2 p hp
/-- told: a board is there -/
theorem y_W.on0 {b : Nat → Nat} (h : y_W b) (h0 : 0 < b 0 ∨ 0 < b 2 ∨ 0 < b 5 ∨ 0 < b 6 ∨ 0 < y_ho b) : 0 < b 9 := by
  rcases Nat.eq_zero_or_pos (b 9) with z | z
  · have q := h.off z
    have : y_ho b = 0 := by unfold y_ho; rw [q.1, Nat.zero_mul]
    omega
  · exact z
theorem y_W.on1 {b : Nat → Nat} (h : y_W b) (h0 : 0 < b 9) : 0 < y_ho b := by
  have q := h.on h0
  exact Nat.mul_pos (by omega) (by omega)
section CB
variable {σ : j_G} {c c1 c2 c3 c4 c5 c6 c7 : Nat} {b : Nat → Nat}
theorem y_cb.f1 (h : y_cb σ c c1 c2 c3 c4 c5 c6 c7 b) : σ.1 c 1 = nI (b 9) := h.1.1
theorem y_cb.f2 (h : y_cb σ c c1 c2 c3 c4 c5 c6 c7 b) : σ.1 c 2 = nI (b 0) := h.1.2.1
theorem y_cb.f3 (h : y_cb σ c c1 c2 c3 c4 c5 c6 c7 b) : σ.1 c 3 = nI (b 1) := h.1.2.2.1
theorem y_cb.f4 (h : y_cb σ c c1 c2 c3 c4 c5 c6 c7 b) : σ.1 c 4 = nI (b 2) := h.1.2.2.2.1
theorem y_cb.f5 (h : y_cb σ c c1 c2 c3 c4 c5 c6 c7 b) : σ.1 c 5 = nI (b 3) := h.1.2.2.2.2.1
theorem y_cb.f6 (h : y_cb σ c c1 c2 c3 c4 c5 c6 c7 b) : σ.1 c 6 = nI (b 7) := h.1.2.2.2.2.2.1
theorem y_cb.f7 (h : y_cb σ c c1 c2 c3 c4 c5 c6 c7 b) : σ.1 c 7 = nI (b 6) := h.1.2.2.2.2.2.2.1
theorem y_cb.f10 (h : y_cb σ c c1 c2 c3 c4 c5 c6 c7 b) : σ.1 c 10 = nI (b 4) := h.1.2.2.2.2.2.2.2.1
theorem y_cb.d0 (h : y_cb σ c c1 c2 c3 c4 c5 c6 c7 b) : σ.1 c4 0 = nI (b 5) := h.1.2.2.2.2.2.2.2.2.1
theorem y_cb.d1 (h : y_cb σ c c1 c2 c3 c4 c5 c6 c7 b) : σ.1 c4 1 = nI (b 8) := h.1.2.2.2.2.2.2.2.2.2
theorem y_cb.f8 (h : y_cb σ c c1 c2 c3 c4 c5 c6 c7 b) (h9 : 0 < b 9) : σ.1 c 8 = nI (b 10) := (h.2.1 h9).1
theorem y_cb.f9 (h : y_cb σ c c1 c2 c3 c4 c5 c6 c7 b) (h9 : 0 < b 9) : σ.1 c 9 = nI (b 11) := (h.2.1 h9).2
theorem y_cb.s1 (h : y_cb σ c c1 c2 c3 c4 c5 c6 c7 b) {k : Nat} (hk : k < b 4) : σ.1 c1 k = nI (b (12 + 2 * k)) := (h.2.2.1 k hk).1
theorem y_cb.s2 (h : y_cb σ c c1 c2 c3 c4 c5 c6 c7 b) {k : Nat} (hk : k < b 4) : σ.1 c2 k = nI (b (13 + 2 * k)) := (h.2.2.1 k hk).2
theorem y_cb.t (h : y_cb σ c c1 c2 c3 c4 c5 c6 c7 b) {p q : Nat} (hp : p < b 6) (hq : q < 5) : σ.1 c3 (5 * p + q) = nI (b (96 + 5 * p + q)) := h.2.2.2.1 p q hp hq
theorem y_cb.k0 (h : y_cb σ c c1 c2 c3 c4 c5 c6 c7 b) {k : Nat} (hk : k < b 5) : σ.1 c5 k = nI (b (24 + 3 * k)) := (h.2.2.2.2 k hk).1
theorem y_cb.k1 (h : y_cb σ c c1 c2 c3 c4 c5 c6 c7 b) {k : Nat} (hk : k < b 5) : σ.1 c6 k = nP (b (25 + 3 * k)) := (h.2.2.2.2 k hk).2.1
theorem y_cb.k2 (h : y_cb σ c c1 c2 c3 c4 c5 c6 c7 b) {k : Nat} (hk : k < b 5) : σ.1 c7 k = nI (b (26 + 3 * k)) := (h.2.2.2.2 k hk).2.2
end CB
theorem y_N.fr {σ σ' : j_G} {b : Nat → Nat} {lo hi : Nat} (h : y_N σ b) (hf : y_fr lo hi σ σ') (hl : 9 ≤ lo) : y_N σ' b := by
  have e : ∀ c, c < 9 → σ'.1 c = σ.1 c := fun c hc => (hf c (by omega)).1
  unfold y_N y_cb at *
  rw [e 1 (by omega), e 2 (by omega), e 3 (by omega), e 4 (by omega), e 5 (by omega), e 6 (by omega), e 7 (by omega), e 8 (by omega)]
  exact h
theorem y_M.fr {τ τ' : j_G} {b : Nat → Nat} {f g lo hi : Nat} (h : y_M τ b) (hf : y_fm f g lo hi τ τ') (hl : 77 ≤ lo) : y_M τ' b := by
  unfold y_M
  rw [(hf.2 76 (by omega) (by omega)).1]
  exact h
section MB
variable {w : Nat → Int32} {b : Nat → Nat}
theorem y_mb.f (h : y_mb w b) {j : Nat} (hj : j < 24) : w j = nI (b j) := by rw [h j (by omega), if_neg (by omega)]
theorem y_mb.k0 (h : y_mb w b) {k : Nat} (hk : k < 24) : w (24 + 3 * k) = nI (b (24 + 3 * k)) := by rw [h _ (by omega), if_neg (by omega)]
theorem y_mb.k1 (h : y_mb w b) {k : Nat} (hk : k < 24) : w (25 + 3 * k) = nP (b (25 + 3 * k)) := by rw [h _ (by omega), if_pos (by omega)]
theorem y_mb.k2 (h : y_mb w b) {k : Nat} (hk : k < 24) : w (26 + 3 * k) = nI (b (26 + 3 * k)) := by rw [h _ (by omega), if_neg (by omega)]
theorem y_mb.p (h : y_mb w b) {p q : Nat} (hp : p < 4) (hq : q < 5) : w (96 + 5 * p + q) = nI (b (96 + 5 * p + q)) := by rw [h _ (by omega), if_neg (by omega)]
end MB
/-! ===== small questions to the board, both sides ===== -/
theorem y_c1 {x : Int32} {n : Nat} (hn : n < 2 ^ 31) : (¬ x < nI 0 ∧ x < nI n) ↔ y_rg x n := by
  rw [j_ltI, j_ltI, nI_toInt hn, nI_toInt (by omega)]; unfold y_rg; omega
theorem y_c2 {x : Int32} {n : Nat} (hn : n < 2 ^ 31) : (¬ x < nI 0 ∧ ¬ nP n < x) ↔ y_rg x n := by
  rw [j_ltI, j_ltI, y_nPt hn, nI_toInt (by omega)]; unfold y_rg; omega
theorem y_rn {k n : Nat} (hk : k < 2 ^ 31) : y_rg (nI k) n ↔ k < n := by unfold y_rg; rw [nI_toInt hk]; omega
theorem y_r0 {x : Int32} : y_rg x 0 ↔ False := ⟨fun z => by have a := z.1; have c := z.2; omega, fun z => z.elim⟩
theorem y_rP {k n : Nat} (hk : k < 2 ^ 31) : y_rg (nP k) n ↔ 0 < k ∧ k < n + 1 := by unfold y_rg; rw [y_nPt hk]; omega
theorem y_sm : ∀ h, h < 32 → ((nI h).toBitVec.smod 32).toNat = h := by decide
theorem y_an {h : Nat} (hh : h < 31) : nI h &&& nI 31 = nI h := by
  rw [show nI 31 = (31 : Int32) from rfl, pk_andN (by omega) 5 (by decide), Nat.mod_eq_of_lt (by omega)]
theorem y_shr {s h : Nat} (hs : s < 2 ^ 31) (hh : h < 31) : nI s >>> (nI h &&& nI 31) = nI (s / 2 ^ h) := by
  rw [y_an hh, pk_shrN hs _ h (y_sm h (by omega))]
theorem y_one {s : Nat} (hs : s < 2 ^ 31) : nI s &&& nI 1 = nI (s % 2) := by
  rw [show nI 1 = (1 : Int32) from rfl, pk_andN (by omega) 1 (by decide)]
theorem y_bit {s h : Nat} (hs : s < 2 ^ 31) (hh : h < 31) : (nI s >>> (nI h &&& nI 31)) &&& nI 1 = nI (s / 2 ^ h % 2) := by
  rw [y_shr hs hh, y_one (Nat.lt_of_le_of_lt (Nat.div_le_self _ _) hs)]
theorem y_shl {h : Nat} (hh : h < 31) : nI 1 <<< (nI h &&& nI 31) = nI (2 ^ h) := by
  have : 2 ^ h < 2 ^ 32 := Nat.pow_lt_pow_right (by omega) (by omega)
  rw [y_an hh, pk_shlN _ h (y_sm h (by omega)) (by omega), Nat.one_mul]
noncomputable def y_sh (b : Nat → Nat) (h : Nat) : Nat := b 7 / 2 ^ h % 2
noncomputable def y_df (a c : Nat) : Nat := (a - c) + (c - a)
noncomputable def y_ap (b : Nat → Nat) (a c : Nat) : Nat := y_df (a / b 0) (c / b 0) + y_df (a % b 0) (c % b 0)
theorem y_abs {a c : Nat} (ha : a < 2 ^ 30) (hc : c < 2 ^ 30) : (if nI 0 ≤ nI a - nI c then nI a - nI c else nI 0 - (nI a - nI c)) = nI (y_df a c) := by
  have e := pk_sub_toInt ha hc
  have z : (nI 0).toInt = 0 := by decide
  have hd : y_df a c < 2 ^ 31 := by unfold y_df; omega
  by_cases h : nI 0 ≤ nI a - nI c
  · rw [if_pos h, j_eqI, e, nI_toInt hd]
    rw [j_leI, e, z] at h
    unfold y_df; omega
  · rw [if_neg h, j_eqI, nI_toInt hd]
    rw [j_leI, e, z] at h
    rw [j_sbI (by rw [e, z]; omega) (by rw [e, z]; omega), e, z]
    unfold y_df; omega
section C
variable {σ : j_G} {b : Nat → Nat}
theorem yc_holes (hN : y_N σ b) : f_X2_holes 1 σ = nI (y_ho b) := by
  unfold f_X2_holes y_ho; rw [hN.f2, hN.f3, pk_mul]
theorem yc_isHole (hN : y_N σ b) (hW : y_W b) (x : Int32) : f_X2_isHole 1 x σ = if y_rg x (y_ho b) then nI 1 else nI 0 := by
  have := hW.ho
  unfold f_X2_isHole; rw [yc_holes hN]; simp only [y_lit]; simp (disch := omega) only [y_c1]
theorem yc_isTick (hN : y_N σ b) (hW : y_W b) (x : Int32) : f_X2_isTick 1 x σ = if y_rg x (b 2) then nI 1 else nI 0 := by
  have := hW.b2
  unfold f_X2_isTick; rw [hN.f4]; simp only [y_lit]; simp (disch := omega) only [y_c1]
theorem yc_isPlayer (hN : y_N σ b) (hW : y_W b) (x : Int32) : f_X2_isPlayer x σ = if y_rg x (b 6) then nI 1 else nI 0 := by
  have := hW.b6
  unfold f_X2_isPlayer; rw [hN.f7]; simp only [y_lit]; simp (disch := omega) only [y_c1]
theorem yc_has (hN : y_N σ b) (hW : y_W b) (x : Int32) : f_X3_has x σ = if y_rg x (b 5) then nI 1 else nI 0 := by
  have := hW.b5
  unfold f_X3_has; rw [hN.d0]; simp only [y_lit]; simp (disch := omega) only [y_c1]
theorem yc_isTold (hN : y_N σ b) (hW : y_W b) : f_X2_isTold σ = if 0 < b 9 then nI 1 else nI 0 := by
  have := hW.b9
  unfold f_X2_isTold; rw [hN.f1]; simp (disch := omega) only [y_lit, y_n1, nI_add, pk_mul, j_lt, j_b1_s, j_b2_s, j_b3_s, j_b0_s, y_bo, y_bo1, y_bo0, y_i0, y_i1, Classical.not_not, nI_clamp, y_ix, y_lt, y_le, y_eq, y_nP, y_nPs, y_ltP, y_ltQ, y_ltPP, y_eqP, y_eqQ, y_eqPP, if_pos, if_neg, ite_true, ite_false, not_true_eq_false, not_false_eq_true, and_true, true_and, and_false, false_and, or_true, true_or, or_false, false_or]
theorem yc_isShut (hN : y_N σ b) (hW : y_W b) {h : Nat} (hh : h < 31) : f_X2_isShut 1 (nI h) σ = if y_sh b h = 1 then nI 1 else nI 0 := by
  have := hW.b7
  have h2 : y_sh b h < 2 := Nat.mod_lt _ (by omega)
  unfold f_X2_isShut; rw [hN.f6]; simp only [y_lit]; rw [y_bit (by omega) hh]
  by_cases e : y_sh b h = 1
  · have e' : b 7 / 2 ^ h % 2 = 1 := e
    rw [e', if_pos e, if_pos (by decide)]
  · have e' : b 7 / 2 ^ h % 2 = 0 := by show y_sh b h = 0; omega
    rw [e', if_neg e, if_neg (by decide)]
theorem yc_trait (hN : y_N σ b) (hW : y_W b) {p q : Nat} (hp : p < b 6) (hq : q < 5) : f_X2_trait (nI p) (nI q) σ = some (nI (b (96 + 5 * p + q))) := by
  have := hW.b6
  unfold f_X2_trait; simp (disch := omega) only [y_lit, y_n1, nI_add, pk_mul, j_lt, j_b1_s, j_b2_s, j_b3_s, j_b0_s, y_bo, y_bo1, y_bo0, y_i0, y_i1, Classical.not_not, nI_clamp, y_ix, y_lt, y_le, y_eq, y_nP, y_nPs, y_ltP, y_ltQ, y_ltPP, y_eqP, y_eqQ, y_eqPP, if_pos, if_neg, ite_true, ite_false, not_true_eq_false, not_false_eq_true, and_true, true_and, and_false, false_and, or_true, true_or, or_false, false_or]
  rw [Nat.mul_comm p 5, hN.t hp hq]
theorem yc_apart (hN : y_N σ b) (hW : y_W b) (h9 : 0 < b 9) {a c : Nat} (ha : a < 100) (hc : c < 100) : f_X2_apart (nI a) (nI c) σ = some (nI (y_ap b a c)) := by
  have h0 := hW.on h9
  have h4 := hW.b0
  have r : ∀ x, x < 100 → x / b 0 ≤ x := fun x _ => Nat.div_le_self _ _
  have r2 : ∀ x, x < 100 → x % b 0 ≤ x := fun x _ => Nat.mod_le _ _
  have q1 := r a ha; have q2 := r c hc; have q3 := r2 a ha; have q4 := r2 c hc
  unfold f_X2_apart; rw [hN.f2]; simp only [y_lit]
  rw [pk_rem (by omega) (by omega) (by omega), pk_rem (by omega) (by omega) (by omega), pk_div (by omega) (by omega) (by omega), pk_div (by omega) (by omega) (by omega)]
  rw [y_abs (by omega) (by omega), y_abs (by omega) (by omega)]
  simp (disch := omega) only [y_lit, y_n1, nI_add, pk_mul, j_lt, j_b1_s, j_b2_s, j_b3_s, j_b0_s, y_bo, y_bo1, y_bo0, y_i0, y_i1, Classical.not_not, nI_clamp, y_ix, y_lt, y_le, y_eq, y_nP, y_nPs, y_ltP, y_ltQ, y_ltPP, y_eqP, y_eqQ, y_eqPP, if_pos, if_neg, ite_true, ite_false, not_true_eq_false, not_false_eq_true, and_true, true_and, and_false, false_and, or_true, true_or, or_false, false_or]
  rfl
end C
section M
variable {τ : j_G} {b : Nat → Nat}
theorem ym_holes (hM : y_M τ b) : f_X12_holes τ = some (nI (y_ho b)) := by
  unfold f_X12_holes y_ho; simp (disch := omega) only [y_lit, y_n1, nI_add, pk_mul, j_lt, j_b1_s, j_b2_s, j_b3_s, j_b0_s, y_bo, y_bo1, y_bo0, y_i0, y_i1, Classical.not_not, nI_clamp, y_ix, y_lt, y_le, y_eq, y_nP, y_nPs, y_ltP, y_ltQ, y_ltPP, y_eqP, y_eqQ, y_eqPP, if_pos, if_neg, ite_true, ite_false, not_true_eq_false, not_false_eq_true, and_true, true_and, and_false, false_and, or_true, true_or, or_false, false_or, hM.f]
theorem ym_isHole (hM : y_M τ b) (hW : y_W b) (x : Int32) : f_X12_isHole x.toInt64 τ = some (if y_rg x (y_ho b) then nI 1 else nI 0) := by
  have := hW.ho
  unfold f_X12_isHole; rw [ym_holes hM]; simp (disch := omega) only [y_lit, y_n1, nI_add, pk_mul, j_lt, j_b1_s, j_b2_s, j_b3_s, j_b0_s, y_bo, y_bo1, y_bo0, y_i0, y_i1, Classical.not_not, nI_clamp, y_ix, y_lt, y_le, y_eq, y_nP, y_nPs, y_ltP, y_ltQ, y_ltPP, y_eqP, y_eqQ, y_eqPP, if_pos, if_neg, ite_true, ite_false, not_true_eq_false, not_false_eq_true, and_true, true_and, and_false, false_and, or_true, true_or, or_false, false_or, y_lit64, y_in, y_c2]
theorem ym_isTick (hM : y_M τ b) (hW : y_W b) (x : Int32) : f_X12_isTick x.toInt64 τ = some (if y_rg x (b 2) then nI 1 else nI 0) := by
  have := hW.b2
  unfold f_X12_isTick; simp (disch := omega) only [y_lit, y_n1, nI_add, pk_mul, j_lt, j_b1_s, j_b2_s, j_b3_s, j_b0_s, y_bo, y_bo1, y_bo0, y_i0, y_i1, Classical.not_not, nI_clamp, y_ix, y_lt, y_le, y_eq, y_nP, y_nPs, y_ltP, y_ltQ, y_ltPP, y_eqP, y_eqQ, y_eqPP, if_pos, if_neg, ite_true, ite_false, not_true_eq_false, not_false_eq_true, and_true, true_and, and_false, false_and, or_true, true_or, or_false, false_or, hM.f, y_lit64, y_in, y_c2]
theorem ym_isPlayer (hM : y_M τ b) (hW : y_W b) (x : Int32) : f_X12_isPlayer x τ = some (if y_rg x (b 6) then nI 1 else nI 0) := by
  have := hW.b6
  unfold f_X12_isPlayer; simp (disch := omega) only [y_lit, y_n1, nI_add, pk_mul, j_lt, j_b1_s, j_b2_s, j_b3_s, j_b0_s, y_bo, y_bo1, y_bo0, y_i0, y_i1, Classical.not_not, nI_clamp, y_ix, y_lt, y_le, y_eq, y_nP, y_nPs, y_ltP, y_ltQ, y_ltPP, y_eqP, y_eqQ, y_eqPP, if_pos, if_neg, ite_true, ite_false, not_true_eq_false, not_false_eq_true, and_true, true_and, and_false, false_and, or_true, true_or, or_false, false_or, hM.f, y_lit64, y_in, y_c2]
theorem ym_isComing (hM : y_M τ b) (hW : y_W b) (x : Int32) : f_X12_isComing x τ = some (if y_rg x (b 5) then nI 1 else nI 0) := by
  have := hW.b5
  unfold f_X12_isComing; simp (disch := omega) only [y_lit, y_n1, nI_add, pk_mul, j_lt, j_b1_s, j_b2_s, j_b3_s, j_b0_s, y_bo, y_bo1, y_bo0, y_i0, y_i1, Classical.not_not, nI_clamp, y_ix, y_lt, y_le, y_eq, y_nP, y_nPs, y_ltP, y_ltQ, y_ltPP, y_eqP, y_eqQ, y_eqPP, if_pos, if_neg, ite_true, ite_false, not_true_eq_false, not_false_eq_true, and_true, true_and, and_false, false_and, or_true, true_or, or_false, false_or, hM.f, y_lit64, y_in, y_c2]
theorem ym_isBoard (hM : y_M τ b) (hW : y_W b) : f_X12_isBoard τ = some (if 0 < b 9 then nI 1 else nI 0) := by
  have := hW.b0
  have e : 0 < b 0 ↔ 0 < b 9 := ⟨fun h => hW.on0 (Or.inl h), fun h => (hW.on h).1⟩
  unfold f_X12_isBoard; simp (disch := omega) only [y_lit, y_n1, nI_add, pk_mul, j_lt, j_b1_s, j_b2_s, j_b3_s, j_b0_s, y_bo, y_bo1, y_bo0, y_i0, y_i1, Classical.not_not, nI_clamp, y_ix, y_lt, y_le, y_eq, y_nP, y_nPs, y_ltP, y_ltQ, y_ltPP, y_eqP, y_eqQ, y_eqPP, if_pos, if_neg, ite_true, ite_false, not_true_eq_false, not_false_eq_true, and_true, true_and, and_false, false_and, or_true, true_or, or_false, false_or, hM.f, e]
  by_cases h : 0 < b 9
  · rw [if_pos h, if_pos h]
  · rw [if_neg h, if_neg h]
theorem ym_isShut (hM : y_M τ b) (hW : y_W b) {h : Nat} (hh : h < 31) : f_X12_isShut (nI h) τ = some (if y_sh b h = 1 then nI 1 else nI 0) := by
  have := hW.b7
  have h2 : y_sh b h < 2 := Nat.mod_lt _ (by omega)
  unfold f_X12_isShut; simp (disch := omega) only [y_lit, y_n1, nI_add, pk_mul, j_lt, j_b1_s, j_b2_s, j_b3_s, j_b0_s, y_bo, y_bo1, y_bo0, y_i0, y_i1, Classical.not_not, nI_clamp, y_ix, y_lt, y_le, y_eq, y_nP, y_nPs, y_ltP, y_ltQ, y_ltPP, y_eqP, y_eqQ, y_eqPP, if_pos, if_neg, ite_true, ite_false, not_true_eq_false, not_false_eq_true, and_true, true_and, and_false, false_and, or_true, true_or, or_false, false_or, hM.f, y_bit]
  by_cases e : y_sh b h = 1
  · have e' : b 7 / 2 ^ h % 2 = 1 := e
    rw [e', if_pos e, if_pos (by decide)]
  · have e' : b 7 / 2 ^ h % 2 = 0 := by show y_sh b h = 0; omega
    rw [e', if_neg e, if_neg (by decide)]
theorem ym_of (hM : y_M τ b) {p q : Nat} (hp : p < 4) (hq : q < 5) : f_X12_of (nI p) (nI q) τ = some (nI (b (96 + 5 * p + q))) := by
  unfold f_X12_of; simp (disch := omega) only [y_lit, y_n1, nI_add, pk_mul, j_lt, j_b1_s, j_b2_s, j_b3_s, j_b0_s, y_bo, y_bo1, y_bo0, y_i0, y_i1, Classical.not_not, nI_clamp, y_ix, y_lt, y_le, y_eq, y_nP, y_nPs, y_ltP, y_ltQ, y_ltPP, y_eqP, y_eqQ, y_eqPP, if_pos, if_neg, ite_true, ite_false, not_true_eq_false, not_false_eq_true, and_true, true_and, and_false, false_and, or_true, true_or, or_false, false_or, hM.p]
theorem ym_co0 (hM : y_M τ b) {k : Nat} (hk : k < 24) : f_X12_ofComing (nI k) (nI 0) τ = some (nI (b (24 + 3 * k))) := by
  unfold f_X12_ofComing; simp (disch := omega) only [y_lit, y_n1, nI_add, pk_mul, j_lt, j_b1_s, j_b2_s, j_b3_s, j_b0_s, y_bo, y_bo1, y_bo0, y_i0, y_i1, Classical.not_not, nI_clamp, y_ix, y_lt, y_le, y_eq, y_nP, y_nPs, y_ltP, y_ltQ, y_ltPP, y_eqP, y_eqQ, y_eqPP, if_pos, if_neg, ite_true, ite_false, not_true_eq_false, not_false_eq_true, and_true, true_and, and_false, false_and, or_true, true_or, or_false, false_or, Nat.add_zero, hM.k0]
theorem ym_co1 (hM : y_M τ b) {k : Nat} (hk : k < 24) : f_X12_ofComing (nI k) (nI 1) τ = some (nP (b (25 + 3 * k))) := by
  unfold f_X12_ofComing; simp (disch := omega) only [y_lit, y_n1, nI_add, pk_mul, j_lt, j_b1_s, j_b2_s, j_b3_s, j_b0_s, y_bo, y_bo1, y_bo0, y_i0, y_i1, Classical.not_not, nI_clamp, y_ix, y_lt, y_le, y_eq, y_nP, y_nPs, y_ltP, y_ltQ, y_ltPP, y_eqP, y_eqQ, y_eqPP, if_pos, if_neg, ite_true, ite_false, not_true_eq_false, not_false_eq_true, and_true, true_and, and_false, false_and, or_true, true_or, or_false, false_or, Nat.add_right_comm 24 _ 1, hM.k1]
theorem ym_co2 (hM : y_M τ b) {k : Nat} (hk : k < 24) : f_X12_ofComing (nI k) (nI 2) τ = some (nI (b (26 + 3 * k))) := by
  unfold f_X12_ofComing; simp (disch := omega) only [y_lit, y_n1, nI_add, pk_mul, j_lt, j_b1_s, j_b2_s, j_b3_s, j_b0_s, y_bo, y_bo1, y_bo0, y_i0, y_i1, Classical.not_not, nI_clamp, y_ix, y_lt, y_le, y_eq, y_nP, y_nPs, y_ltP, y_ltQ, y_ltPP, y_eqP, y_eqQ, y_eqPP, if_pos, if_neg, ite_true, ite_false, not_true_eq_false, not_false_eq_true, and_true, true_and, and_false, false_and, or_true, true_or, or_false, false_or, Nat.add_right_comm 24 _ 2, hM.k2]
theorem ym_stepsOf (hM : y_M τ b) (hW : y_W b) (h9 : 0 < b 9) {a c : Nat} (ha : a < 100) (hc : c < 100) : f_X12_stepsOf (nI a) (nI c) τ = some (nI (y_ap b a c)) := by
  have h0 := hW.on h9
  have h4 := hW.b0
  have r : ∀ x, x < 100 → x / b 0 ≤ x := fun x _ => Nat.div_le_self _ _
  have r2 : ∀ x, x < 100 → x % b 0 ≤ x := fun x _ => Nat.mod_le _ _
  have q1 := r a ha; have q2 := r c hc; have q3 := r2 a ha; have q4 := r2 c hc
  unfold f_X12_stepsOf; simp (disch := omega) only [y_lit, nI_clamp, hM.f]
  rw [pk_rem (by omega) (by omega) (by omega), pk_rem (by omega) (by omega) (by omega), pk_div (by omega) (by omega) (by omega), pk_div (by omega) (by omega) (by omega)]
  rw [y_abs (by omega) (by omega), y_abs (by omega) (by omega)]
  simp (disch := omega) only [y_lit, y_n1, nI_add, pk_mul, j_lt, j_b1_s, j_b2_s, j_b3_s, j_b0_s, y_bo, y_bo1, y_bo0, y_i0, y_i1, Classical.not_not, nI_clamp, y_ix, y_lt, y_le, y_eq, y_nP, y_nPs, y_ltP, y_ltQ, y_ltPP, y_eqP, y_eqQ, y_eqPP, if_pos, if_neg, ite_true, ite_false, not_true_eq_false, not_false_eq_true, and_true, true_and, and_false, false_and, or_true, true_or, or_false, false_or]
  unfold y_ap
  rw [Nat.add_comm]
end M
/-! ===== stays, and the game laid out ===== -/
noncomputable def y_st (b : Nat → Nat) (t : Nat) : Nat → Nat → Nat → Nat → Nat
  | 0, _, _, v => v
  | m + 1, i, s, v => if b (12 + 2 * i) ≤ t ∧ s ≤ b (12 + 2 * i) then y_st b t m (i + 1) (b (12 + 2 * i) + 1) (b (13 + 2 * i)) else y_st b t m (i + 1) s v
noncomputable def y_stay (b : Nat → Nat) (t : Nat) : Nat := y_st b t (b 4) 0 0 7
theorem y_st_bd {b : Nat → Nat} (hW : y_W b) (t : Nat) : ∀ m i s v, i + m = b 4 → 1 ≤ v → v ≤ 40 → 1 ≤ y_st b t m i s v ∧ y_st b t m i s v ≤ 40 := by
  intro m
  induction m with
  | zero => intro i s v _ h1 h2; exact ⟨h1, h2⟩
  | succ m ih =>
    intro i s v h h1 h2
    unfold y_st
    have q := hW.st (k := i) (by omega)
    split
    · exact ih _ _ _ (by omega) q.2.1 q.2.2
    · exact ih _ _ _ (by omega) h1 h2
theorem y_stay_bd {b : Nat → Nat} (hW : y_W b) (t : Nat) : 1 ≤ y_stay b t ∧ y_stay b t ≤ 40 := y_st_bd hW t _ _ _ _ (by omega) (by omega) (by omega)
theorem yc_stay_l {σ : j_G} {b : Nat → Nat} (hN : y_N σ b) (hW : y_W b) {t : Nat} (ht : t < 1000000) : ∀ m i s v n, i + m = b 4 → m < n → s < 1000 → p_X2_stayIn_8 (nI t) σ n (nP s) (nI v) (nI i) = some (nI (y_st b t m i s v)) := by
  have h4 := hW.b4
  have h2 := hW.b2
  intro m
  induction m with
  | zero =>
    intro i s v n h hn hs
    obtain ⟨n, rfl⟩ := y_pos hn
    unfold p_X2_stayIn_8 y_st
    rw [hN.f10]; simp (disch := omega) only [y_lit, y_n1, nI_add, pk_mul, j_lt, j_b1_s, j_b2_s, j_b3_s, j_b0_s, y_bo, y_bo1, y_bo0, y_i0, y_i1, Classical.not_not, nI_clamp, y_ix, y_lt, y_le, y_eq, y_nP, y_nPs, y_ltP, y_ltQ, y_ltPP, y_eqP, y_eqQ, y_eqPP, if_pos, if_neg, ite_true, ite_false, not_true_eq_false, not_false_eq_true, and_true, true_and, and_false, false_and, or_true, true_or, or_false, false_or]
  | succ m ih =>
    intro i s v n h hn hs
    obtain ⟨n, rfl⟩ := y_pos hn
    have q := hW.st (k := i) (by omega)
    have e1 := hN.s1 (k := i) (by omega)
    have e2 := hN.s2 (k := i) (by omega)
    unfold p_X2_stayIn_8 y_st
    rw [hN.f10]; simp (disch := omega) only [y_lit, y_n1, nI_add, pk_mul, j_lt, j_b1_s, j_b2_s, j_b3_s, j_b0_s, y_bo, y_bo1, y_bo0, y_i0, y_i1, Classical.not_not, nI_clamp, y_ix, y_lt, y_le, y_eq, y_nP, y_nPs, y_ltP, y_ltQ, y_ltPP, y_eqP, y_eqQ, y_eqPP, if_pos, if_neg, ite_true, ite_false, not_true_eq_false, not_false_eq_true, and_true, true_and, and_false, false_and, or_true, true_or, or_false, false_or, e1, e2]
    by_cases c1 : b (12 + 2 * i) ≤ t
    · by_cases c2 : s ≤ b (12 + 2 * i)
      · simp (disch := omega) only [y_lit, y_n1, nI_add, pk_mul, j_lt, j_b1_s, j_b2_s, j_b3_s, j_b0_s, y_bo, y_bo1, y_bo0, y_i0, y_i1, Classical.not_not, nI_clamp, y_ix, y_lt, y_le, y_eq, y_nP, y_nPs, y_ltP, y_ltQ, y_ltPP, y_eqP, y_eqQ, y_eqPP, if_pos, if_neg, ite_true, ite_false, not_true_eq_false, not_false_eq_true, and_true, true_and, and_false, false_and, or_true, true_or, or_false, false_or]
        have w := ih (i + 1) (b (12 + 2 * i) + 1) (b (13 + 2 * i)) n (by omega) (by omega) (by omega)
        rw [y_nPs] at w
        exact w
      · simp (disch := omega) only [y_lit, y_n1, nI_add, pk_mul, j_lt, j_b1_s, j_b2_s, j_b3_s, j_b0_s, y_bo, y_bo1, y_bo0, y_i0, y_i1, Classical.not_not, nI_clamp, y_ix, y_lt, y_le, y_eq, y_nP, y_nPs, y_ltP, y_ltQ, y_ltPP, y_eqP, y_eqQ, y_eqPP, if_pos, if_neg, ite_true, ite_false, not_true_eq_false, not_false_eq_true, and_true, true_and, and_false, false_and, or_true, true_or, or_false, false_or]
        exact ih _ _ _ _ (by omega) (by omega) (by omega)
    · simp (disch := omega) only [y_lit, y_n1, nI_add, pk_mul, j_lt, j_b1_s, j_b2_s, j_b3_s, j_b0_s, y_bo, y_bo1, y_bo0, y_i0, y_i1, Classical.not_not, nI_clamp, y_ix, y_lt, y_le, y_eq, y_nP, y_nPs, y_ltP, y_ltQ, y_ltPP, y_eqP, y_eqQ, y_eqPP, if_pos, if_neg, ite_true, ite_false, not_true_eq_false, not_false_eq_true, and_true, true_and, and_false, false_and, or_true, true_or, or_false, false_or]
      exact ih _ _ _ _ (by omega) (by omega) (by omega)
theorem yc_stay {σ : j_G} {b : Nat → Nat} (hN : y_N σ b) (hW : y_W b) {t : Nat} (ht : t < 1000000) : f_X2_stayIn (nI t) σ = some (nI (y_stay b t)) := by
  have h4 := hW.b4
  unfold f_X2_stayIn
  rw [y_m1, y_lit, y_lit, yc_stay_l hN hW ht _ _ _ _ _ (Nat.zero_add (b 4)) (y_F (by omega)) (by omega)]
  rfl
theorem ym_stay_l {τ : j_G} {b : Nat → Nat} (hM : y_M τ b) (hW : y_W b) {t : Nat} (ht : t < 1000000) : ∀ m i s v n, i + m = b 4 → m < n → s < 1000 → (∀ j, i ≤ j → j < b 4 → s ≠ b (12 + 2 * j) + 1) → p_X12_stayIn_8 (nI t) τ n (nP s) (nI v) (nI i) = some (nI (y_st b t m i s v)) := by
  have h4 := hW.b4
  have h2 := hW.b2
  intro m
  induction m with
  | zero =>
    intro i s v n h hn hs _
    obtain ⟨n, rfl⟩ := y_pos hn
    unfold p_X12_stayIn_8 y_st
    simp (disch := omega) only [y_lit, y_n1, nI_add, pk_mul, j_lt, j_b1_s, j_b2_s, j_b3_s, j_b0_s, y_bo, y_bo1, y_bo0, y_i0, y_i1, Classical.not_not, nI_clamp, y_ix, y_lt, y_le, y_eq, y_nP, y_nPs, y_ltP, y_ltQ, y_ltPP, y_eqP, y_eqQ, y_eqPP, if_pos, if_neg, ite_true, ite_false, not_true_eq_false, not_false_eq_true, and_true, true_and, and_false, false_and, or_true, true_or, or_false, false_or, hM.f]
  | succ m ih =>
    intro i s v n h hn hs hd
    obtain ⟨n, rfl⟩ := y_pos hn
    have q := hW.st (k := i) (by omega)
    have d := hd i (by omega) (by omega)
    unfold p_X12_stayIn_8 y_st
    simp (disch := omega) only [y_lit, y_n1, nI_add, pk_mul, j_lt, j_b1_s, j_b2_s, j_b3_s, j_b0_s, y_bo, y_bo1, y_bo0, y_i0, y_i1, Classical.not_not, nI_clamp, y_ix, y_lt, y_le, y_eq, y_nP, y_nPs, y_ltP, y_ltQ, y_ltPP, y_eqP, y_eqQ, y_eqPP, if_pos, if_neg, ite_true, ite_false, not_true_eq_false, not_false_eq_true, and_true, true_and, and_false, false_and, or_true, true_or, or_false, false_or, hM.f, Nat.add_right_comm 12 _ 1]
    by_cases c1 : b (12 + 2 * i) ≤ t
    · by_cases c2 : s ≤ b (12 + 2 * i)
      · simp (disch := omega) only [y_lit, y_n1, nI_add, pk_mul, j_lt, j_b1_s, j_b2_s, j_b3_s, j_b0_s, y_bo, y_bo1, y_bo0, y_i0, y_i1, Classical.not_not, nI_clamp, y_ix, y_lt, y_le, y_eq, y_nP, y_nPs, y_ltP, y_ltQ, y_ltPP, y_eqP, y_eqQ, y_eqPP, if_pos, if_neg, ite_true, ite_false, not_true_eq_false, not_false_eq_true, and_true, true_and, and_false, false_and, or_true, true_or, or_false, false_or]
        have w := ih (i + 1) (b (12 + 2 * i) + 1) (b (13 + 2 * i)) n (by omega) (by omega) (by omega) (fun j h1 h2 z => by
          have := hW.sd (k := i) (l := j) (by omega) (by omega)
          omega)
        rw [y_nPs] at w
        exact w
      · simp (disch := omega) only [y_lit, y_n1, nI_add, pk_mul, j_lt, j_b1_s, j_b2_s, j_b3_s, j_b0_s, y_bo, y_bo1, y_bo0, y_i0, y_i1, Classical.not_not, nI_clamp, y_ix, y_lt, y_le, y_eq, y_nP, y_nPs, y_ltP, y_ltQ, y_ltPP, y_eqP, y_eqQ, y_eqPP, if_pos, if_neg, ite_true, ite_false, not_true_eq_false, not_false_eq_true, and_true, true_and, and_false, false_and, or_true, true_or, or_false, false_or]
        exact ih _ _ _ _ (by omega) (by omega) (by omega) (fun j h1 h2 => hd j (by omega) h2)
    · simp (disch := omega) only [y_lit, y_n1, nI_add, pk_mul, j_lt, j_b1_s, j_b2_s, j_b3_s, j_b0_s, y_bo, y_bo1, y_bo0, y_i0, y_i1, Classical.not_not, nI_clamp, y_ix, y_lt, y_le, y_eq, y_nP, y_nPs, y_ltP, y_ltQ, y_ltPP, y_eqP, y_eqQ, y_eqPP, if_pos, if_neg, ite_true, ite_false, not_true_eq_false, not_false_eq_true, and_true, true_and, and_false, false_and, or_true, true_or, or_false, false_or]
      exact ih _ _ _ _ (by omega) (by omega) (by omega) (fun j h1 h2 => hd j (by omega) h2)
theorem ym_stay {τ : j_G} {b : Nat → Nat} (hM : y_M τ b) (hW : y_W b) {t : Nat} (ht : t < 1000000) : f_X12_stayIn (nI t) τ = some (nI (y_stay b t)) := by
  have h4 := hW.b4
  unfold f_X12_stayIn
  rw [y_m1, y_lit, y_lit, ym_stay_l hM hW ht _ _ _ _ _ (Nat.zero_add (b 4)) (y_F (by omega)) (by omega) (fun j _ _ z => by omega)]
  rfl
/-! ===== the game ===== -/
noncomputable def y_from (b : Nat → Nat) : Nat → Nat
  | 0 => 0
  | i + 1 => y_from b i + y_stay b (y_from b i) - 1 + b 3 + 1
noncomputable def y_last (b : Nat → Nat) (i : Nat) : Nat := y_from b i + y_stay b (y_from b i) - 1
noncomputable def y_gn (b : Nat → Nat) : Nat → Nat → Nat
  | 0, i => i
  | m + 1, i => if y_last b i < b 2 then y_gn b m (i + 1) else i
noncomputable def y_gs (b : Nat → Nat) : Nat := if b 5 = 0 then 0 else y_gn b 60 0
def y_cg (σ : j_G) (b : Nat → Nat) (s : Nat) (g : Nat → Nat) : Prop := σ.1 22 0 = nI s ∧ ∀ i, i < s → σ.1 23 i = nI (g (3 * i)) ∧ σ.1 24 i = nP (g (3 * i + 1)) ∧ σ.1 25 i = nI (g (3 * i + 2)) ∧ σ.1 26 i = nI (y_from b i) ∧ σ.1 27 i = nI (y_last b i)
def y_mg (τ : j_G) (b : Nat → Nat) (s : Nat) (g : Nat → Nat) : Prop := τ.1 75 18 = nI s ∧ ∀ i, i < s → τ.1 82 (3 * i) = nI (g (3 * i)) ∧ τ.1 82 (3 * i + 1) = nP (g (3 * i + 1)) ∧ τ.1 82 (3 * i + 2) = nI (g (3 * i + 2)) ∧ τ.1 83 i = nI (y_from b i) ∧ τ.1 84 i = nI (y_last b i)
/-- a game that may be -/
def y_vg (b : Nat → Nat) (s : Nat) (g : Nat → Nat) : Prop := s ≤ 60 ∧ ∀ i, i < s → g (3 * i) < y_ho b ∧ g (3 * i + 1) ≤ y_ho b ∧ g (3 * i + 1) ≠ g (3 * i) + 1 ∧ g (3 * i + 2) ≤ 1 ∧ (0 < g (3 * i + 1) → g (3 * i + 2) = 0) ∧ y_last b i < b 2
noncomputable def y_dg (b : Nat → Nat) (st : Nat) : Nat → Nat := fun j => b (24 + 3 * ((st + j / 3) % b 5) + j % 3)
theorem y_dg0 {b : Nat → Nat} {st i : Nat} : y_dg b st (3 * i) = b (24 + 3 * ((st + i) % b 5)) := by
  unfold y_dg; rw [Nat.mul_div_cancel_left _ (by omega), Nat.mul_mod_right]; rfl
theorem y_dg1 {b : Nat → Nat} {st i : Nat} : y_dg b st (3 * i + 1) = b (25 + 3 * ((st + i) % b 5)) := by
  unfold y_dg; rw [show (3 * i + 1) / 3 = i from by omega, show (3 * i + 1) % 3 = 1 from by omega]; congr 1; omega
theorem y_dg2 {b : Nat → Nat} {st i : Nat} : y_dg b st (3 * i + 2) = b (26 + 3 * ((st + i) % b 5)) := by
  unfold y_dg; rw [show (3 * i + 2) / 3 = i from by omega, show (3 * i + 2) % 3 = 2 from by omega]; congr 1; omega
theorem y_from_s (b : Nat → Nat) (i : Nat) : y_from b (i + 1) = y_last b i + b 3 + 1 := rfl
theorem y_gn_le {b : Nat → Nat} : ∀ m i, i ≤ y_gn b m i ∧ y_gn b m i ≤ i + m := by
  intro m
  induction m with
  | zero => intro i; exact ⟨Nat.le_refl _, Nat.le_refl _⟩
  | succ m ih =>
    intro i
    unfold y_gn
    have := ih (i + 1)
    split <;> omega
theorem y_gn_last {b : Nat → Nat} : ∀ m i j, i ≤ j → j < y_gn b m i → y_last b j < b 2 := by
  intro m
  induction m with
  | zero => intro i j h1 h2; exact absurd h2 (by unfold y_gn; omega)
  | succ m ih =>
    intro i j h1 h2
    unfold y_gn at h2
    split at h2
    · by_cases e : j = i
      · subst e; assumption
      · exact ih (i + 1) j (by omega) h2
    · omega
theorem y_gs_le {b : Nat → Nat} : y_gs b ≤ 60 := by
  unfold y_gs
  have := y_gn_le (b := b) 60 0
  split <;> omega
theorem y_dg_vg {b : Nat → Nat} (hW : y_W b) (st : Nat) : y_vg b (y_gs b) (y_dg b st) := by
  refine ⟨y_gs_le, fun i hi => ?_⟩
  have h5 : ¬ b 5 = 0 := by intro z; unfold y_gs at hi; rw [if_pos z] at hi; omega
  have hm : (st + i) % b 5 < b 5 := Nat.mod_lt _ (by omega)
  have q := hW.co hm
  rw [y_dg0, y_dg1, y_dg2]
  refine ⟨q.1, q.2.1, q.2.2.1, q.2.2.2.1, q.2.2.2.2.1, ?_⟩
  unfold y_gs at hi
  rw [if_neg h5] at hi
  exact y_gn_last 60 0 i (by omega) hi
/-- ticks stay small -/
theorem y_last_le {b : Nat → Nat} (hW : y_W b) (i : Nat) : y_from b i ≤ y_last b i ∧ y_last b i ≤ y_from b i + 39 := by
  have := y_stay_bd hW (y_from b i)
  unfold y_last; omega
theorem yc_stay_si {x v : Int32} {c j : Nat} {σ : j_G} (hc : 3 < c) : f_X2_stayIn x (j_si σ c j v) = f_X2_stayIn x σ := by
  unfold f_X2_stayIn
  congr 1
  generalize j_F = n
  generalize (-1 : Int32) = a; generalize (7 : Int32) = d; generalize (0 : Int32) = e
  induction n generalizing a d e with
  | zero => rfl
  | succ n ih =>
    unfold p_X2_stayIn_8
    simp (disch := omega) only [j_r_ne, ih]
theorem ym_stay_si {x v : Int32} {c j : Nat} {σ : j_G} (hc : c ≠ 76) : f_X12_stayIn x (j_si σ c j v) = f_X12_stayIn x σ := by
  unfold f_X12_stayIn
  congr 1
  generalize j_F = n
  generalize (-1 : Int32) = a; generalize (7 : Int32) = d; generalize (0 : Int32) = e
  induction n generalizing a d e with
  | zero => rfl
  | succ n ih =>
    unfold p_X12_stayIn_8
    simp (disch := omega) only [j_r_ne, ih]
/-! ===== deal and lay ===== -/
/-- the game with i comings and its next tick told -/
def y_ci (σ : j_G) (b : Nat → Nat) (i : Nat) (g : Nat → Nat) : Prop := y_cg σ b i g ∧ σ.1 22 6 = nI (y_from b i)
theorem y_from_bd {b : Nat → Nat} (hW : y_W b) {i : Nat} (h : i = 0 ∨ y_last b (i - 1) < b 2) : y_from b i ≤ 210 := by
  rcases h with h | h
  · subst h; exact Nat.zero_le _
  · obtain _ | i := i
    · exact Nat.zero_le _
    · have := hW.b2; have := hW.b3
      rw [y_from_s]
      rw [show i + 1 - 1 = i from rfl] at h
      omega
theorem yc_room {σ : j_G} {b : Nat → Nat} {i : Nat} {g : Nat → Nat} (hN : y_N σ b) (hW : y_W b) (hi : i ≤ 60) (hf : y_from b i ≤ 210) (hc : y_ci σ b i g) : f_X4_hasRoom σ = some (if i < 60 ∧ y_last b i < b 2 then nI 1 else nI 0) := by
  have h2 := hW.b2
  have hl := y_last_le hW i
  have hs := y_stay_bd hW (y_from b i)
  unfold f_X4_hasRoom
  rw [hc.1.1, hc.2]
  simp (disch := omega) only [y_lit, y_n1, nI_add, pk_mul, j_lt, j_b1_s, j_b2_s, j_b3_s, j_b0_s, y_bo, y_bo1, y_bo0, y_i0, y_i1, Classical.not_not, nI_clamp, y_ix, y_lt, y_le, y_eq, y_nP, y_nPs, y_ltP, y_ltQ, y_ltPP, y_eqP, y_eqQ, y_eqPP, if_pos, if_neg, ite_true, ite_false, not_true_eq_false, not_false_eq_true, and_true, true_and, and_false, false_and, or_true, true_or, or_false, false_or, yc_stay hN hW, yc_isTick hN hW, y_rn, pk_sub]
  by_cases h : i < 60
  · rw [if_pos h]
    by_cases h2 : y_last b i < b 2
    · rw [if_pos (show y_from b i + y_stay b (y_from b i) - 1 < b 2 from h2), if_pos (And.intro h h2)]
    · rw [if_neg (show ¬ y_from b i + y_stay b (y_from b i) - 1 < b 2 from h2), if_neg (fun z : i < 60 ∧ y_last b i < b 2 => h2 z.2)]
  · rw [if_neg h, if_neg (fun z : i < 60 ∧ y_last b i < b 2 => h z.1)]
theorem yc_add {σ : j_G} {b : Nat → Nat} {i : Nat} {g : Nat → Nat} {x y z : Int32} (hN : y_N σ b) (hW : y_W b) (hi : i < 60) (hf : y_from b i ≤ 210) (hc : y_ci σ b i g) (hx : x = nI (g (3 * i))) (hy : y = nP (g (3 * i + 1))) (hz : z = nI (g (3 * i + 2))) : ∃ σ', f_X4_add x y z σ = some σ' ∧ y_ci σ' b (i + 1) g ∧ y_fr 22 27 σ σ' := by
  have h2 := hW.b2
  have h3 := hW.b3
  have hl := y_last_le hW i
  have hs := y_stay_bd hW (y_from b i)
  have e0 := hc.1.1
  have e6 := hc.2
  have e5 := hN.f5
  subst hx hy hz
  unfold f_X4_add
  simp (disch := omega) only [y_lit, y_n1, nI_add, pk_mul, j_lt, j_b1_s, j_b2_s, j_b3_s, j_b0_s, y_bo, y_bo1, y_bo0, y_i0, y_i1, Classical.not_not, nI_clamp, y_ix, y_lt, y_le, y_eq, y_nP, y_nPs, y_ltP, y_ltQ, y_ltPP, y_eqP, y_eqQ, y_eqPP, if_pos, if_neg, ite_true, ite_false, not_true_eq_false, not_false_eq_true, and_true, true_and, and_false, false_and, or_true, true_or, or_false, false_or, j_r_ne, j_r_eq, j_r_nj, e0, e6, e5, yc_stay_si, yc_stay hN hW, pk_sub]
  refine ⟨_, rfl, ⟨⟨?_, fun j hj => ?_⟩, ?_⟩, ?_⟩
  · simp (disch := omega) only [y_lit, y_n1, nI_add, pk_mul, j_lt, j_b1_s, j_b2_s, j_b3_s, j_b0_s, y_bo, y_bo1, y_bo0, y_i0, y_i1, Classical.not_not, nI_clamp, y_ix, y_lt, y_le, y_eq, y_nP, y_nPs, y_ltP, y_ltQ, y_ltPP, y_eqP, y_eqQ, y_eqPP, if_pos, if_neg, ite_true, ite_false, not_true_eq_false, not_false_eq_true, and_true, true_and, and_false, false_and, or_true, true_or, or_false, false_or, j_r_ne, j_r_eq, j_r_nj, e0]
  · by_cases h : j = i
    · subst h
      simp (disch := omega) only [y_lit, y_n1, nI_add, pk_mul, j_lt, j_b1_s, j_b2_s, j_b3_s, j_b0_s, y_bo, y_bo1, y_bo0, y_i0, y_i1, Classical.not_not, nI_clamp, y_ix, y_lt, y_le, y_eq, y_nP, y_nPs, y_ltP, y_ltQ, y_ltPP, y_eqP, y_eqQ, y_eqPP, if_pos, if_neg, ite_true, ite_false, not_true_eq_false, not_false_eq_true, and_true, true_and, and_false, false_and, or_true, true_or, or_false, false_or, j_r_ne, j_r_eq, j_r_nj]
      rfl
    · have q := hc.1.2 j (by omega)
      simp (disch := omega) only [y_lit, y_n1, nI_add, pk_mul, j_lt, j_b1_s, j_b2_s, j_b3_s, j_b0_s, y_bo, y_bo1, y_bo0, y_i0, y_i1, Classical.not_not, nI_clamp, y_ix, y_lt, y_le, y_eq, y_nP, y_nPs, y_ltP, y_ltQ, y_ltPP, y_eqP, y_eqQ, y_eqPP, if_pos, if_neg, ite_true, ite_false, not_true_eq_false, not_false_eq_true, and_true, true_and, and_false, false_and, or_true, true_or, or_false, false_or, j_r_ne, j_r_eq, j_r_nj]
      exact q
  · simp (disch := omega) only [y_lit, y_n1, nI_add, pk_mul, j_lt, j_b1_s, j_b2_s, j_b3_s, j_b0_s, y_bo, y_bo1, y_bo0, y_i0, y_i1, Classical.not_not, nI_clamp, y_ix, y_lt, y_le, y_eq, y_nP, y_nPs, y_ltP, y_ltQ, y_ltPP, y_eqP, y_eqQ, y_eqPP, if_pos, if_neg, ite_true, ite_false, not_true_eq_false, not_false_eq_true, and_true, true_and, and_false, false_and, or_true, true_or, or_false, false_or, j_r_ne, j_r_eq, j_r_nj]
    rfl
  · exact ((((((((y_fr.refl.si (by omega) (by omega)).si (by omega) (by omega)).si (by omega) (by omega)).si (by omega) (by omega)).si (by omega) (by omega)).si (by omega) (by omega)).si (by omega) (by omega)))
theorem yc_deal_l {b : Nat → Nat} (hW : y_W b) {st : Nat} (h5 : 0 < b 5) (hst : st < b 5) : ∀ m i n σ, i + m = 60 → m < n → y_N σ b → (i = 0 ∨ y_last b (i - 1) < b 2) → y_ci σ b i (y_dg b st) → ∃ σ', p_X4_deal_15 n (nI ((st + i) % b 5)) (nI i) σ = some σ' ∧ y_cg σ' b (y_gn b m i) (y_dg b st) ∧ y_fr 22 27 σ σ' := by
  have hb := hW.b5
  intro m
  induction m with
  | zero =>
    intro i n σ h hn hN hl hc
    obtain ⟨n, rfl⟩ := y_pos hn
    unfold p_X4_deal_15
    refine ⟨σ, ?_, hc.1, y_fr.refl⟩
    simp (disch := omega) only [y_lit, y_n1, nI_add, pk_mul, j_lt, j_b1_s, j_b2_s, j_b3_s, j_b0_s, y_bo, y_bo1, y_bo0, y_i0, y_i1, Classical.not_not, nI_clamp, y_ix, y_lt, y_le, y_eq, y_nP, y_nPs, y_ltP, y_ltQ, y_ltPP, y_eqP, y_eqQ, y_eqPP, if_pos, if_neg, ite_true, ite_false, not_true_eq_false, not_false_eq_true, and_true, true_and, and_false, false_and, or_true, true_or, or_false, false_or]
  | succ m ih =>
    intro i n σ h hn hN hl hc
    obtain ⟨n, rfl⟩ := y_pos hn
    have hm : (st + i) % b 5 < b 5 := Nat.mod_lt _ (by omega)
    have hf := y_from_bd hW hl
    unfold p_X4_deal_15
    simp (disch := omega) only [y_lit, y_n1, nI_add, pk_mul, j_lt, j_b1_s, j_b2_s, j_b3_s, j_b0_s, y_bo, y_bo1, y_bo0, y_i0, y_i1, Classical.not_not, nI_clamp, y_ix, y_lt, y_le, y_eq, y_nP, y_nPs, y_ltP, y_ltQ, y_ltPP, y_eqP, y_eqQ, y_eqPP, if_pos, if_neg, ite_true, ite_false, not_true_eq_false, not_false_eq_true, and_true, true_and, and_false, false_and, or_true, true_or, or_false, false_or, yc_has hN hW, y_rn, yc_room hN hW (by omega) hf hc]
    unfold y_gn
    by_cases c : y_last b i < b 2
    · obtain ⟨σ1, a1, a2, a3⟩ := yc_add hN hW (by omega) hf hc (x := σ.1 6 ((st + i) % b 5)) (y := σ.1 7 ((st + i) % b 5)) (z := σ.1 8 ((st + i) % b 5)) (by rw [hN.k0 hm, y_dg0]) (by rw [hN.k1 hm, y_dg1]) (by rw [hN.k2 hm, y_dg2])
      rw [if_pos ⟨by omega, c⟩, if_pos c, a1]
      have hN1 := hN.fr a3 (by omega)
      simp (disch := omega) only [y_lit, y_n1, nI_add, pk_mul, j_lt, j_b1_s, j_b2_s, j_b3_s, j_b0_s, y_bo, y_bo1, y_bo0, y_i0, y_i1, Classical.not_not, nI_clamp, y_ix, y_lt, y_le, y_eq, y_nP, y_nPs, y_ltP, y_ltQ, y_ltPP, y_eqP, y_eqQ, y_eqPP, if_pos, if_neg, ite_true, ite_false, not_true_eq_false, not_false_eq_true, and_true, true_and, and_false, false_and, or_true, true_or, or_false, false_or, hN1.d0]
      have e : (if (st + i) % b 5 + 1 < b 5 then nI ((st + i) % b 5 + 1) else nI 0) = nI ((st + (i + 1)) % b 5) := by
        rw [← Nat.add_assoc st i 1, Nat.add_mod (st + i) 1]
        by_cases q : (st + i) % b 5 + 1 < b 5
        · rw [if_pos q, Nat.mod_eq_of_lt (a := 1) (by omega), Nat.mod_eq_of_lt q]
        · rw [if_neg q]
          by_cases q1 : b 5 = 1
          · rw [q1, Nat.mod_one]
          · rw [Nat.mod_eq_of_lt (a := 1) (by omega), show (st + i) % b 5 + 1 = b 5 from by omega, Nat.mod_self]
      rw [e]
      obtain ⟨σ2, g1, g2, g3⟩ := ih (i + 1) n σ1 (by omega) (by omega) hN1 (Or.inr c) a2
      exact ⟨σ2, g1, g2, a3.trans g3⟩
    · rw [if_neg (fun z => c z.2), if_neg c]
      exact ⟨σ, by simp (disch := omega) only [y_lit, y_n1, nI_add, pk_mul, j_lt, j_b1_s, j_b2_s, j_b3_s, j_b0_s, y_bo, y_bo1, y_bo0, y_i0, y_i1, Classical.not_not, nI_clamp, y_ix, y_lt, y_le, y_eq, y_nP, y_nPs, y_ltP, y_ltQ, y_ltPP, y_eqP, y_eqQ, y_eqPP, if_pos, if_neg, ite_true, ite_false, not_true_eq_false, not_false_eq_true, and_true, true_and, and_false, false_and, or_true, true_or, or_false, false_or], hc.1, y_fr.refl⟩
theorem yc_deal {σ : j_G} {b : Nat → Nat} (hN : y_N σ b) (hW : y_W b) {st : Nat} (hst : b 5 = 0 ∨ st < b 5) : ∃ σ', f_X4_deal (nI st) σ = some σ' ∧ y_cg σ' b (y_gs b) (y_dg b st) ∧ y_fr 22 27 σ σ' := by
  have hb := hW.b5
  unfold f_X4_deal f_X4_begin
  simp only [j_lt, j_b1_s, y_lit]
  have f : y_fr 22 27 σ (j_si (j_si σ 22 0 (nI 0)) 22 6 (nI 0)) := (y_fr.refl.si (by omega) (by omega)).si (by omega) (by omega)
  have hN1 := hN.fr f (by omega)
  have hc : y_ci (j_si (j_si σ 22 0 (nI 0)) 22 6 (nI 0)) b 0 (y_dg b st) := ⟨⟨by simp (disch := omega) only [j_r_ne, j_r_eq, j_r_nj], fun i hi => absurd hi (by omega)⟩, j_r_eq⟩
  unfold y_gs
  by_cases h5 : b 5 = 0
  · rw [if_pos h5, show j_F = 4999 + 1 from rfl]
    refine ⟨_, ?_, hc.1, f⟩
    unfold p_X4_deal_15
    simp (disch := omega) only [y_lit, y_n1, nI_add, pk_mul, j_lt, j_b1_s, j_b2_s, j_b3_s, j_b0_s, y_bo, y_bo1, y_bo0, y_i0, y_i1, Classical.not_not, nI_clamp, y_ix, y_lt, y_le, y_eq, y_nP, y_nPs, y_ltP, y_ltQ, y_ltPP, y_eqP, y_eqQ, y_eqPP, if_pos, if_neg, ite_true, ite_false, not_true_eq_false, not_false_eq_true, and_true, true_and, and_false, false_and, or_true, true_or, or_false, false_or, yc_has hN1 hW, h5, y_r0, and_false]
  · rw [if_neg h5]
    obtain ⟨σ2, g1, g2, g3⟩ := yc_deal_l hW (st := st) (by omega) (by omega) 60 0 j_F _ (by omega) (y_F (by omega)) hN1 (Or.inl rfl) hc
    rw [Nat.add_zero, Nat.mod_eq_of_lt (by omega)] at g1
    rw [g1]
    exact ⟨σ2, rfl, g2, f.trans g3⟩
theorem ym_next {τ : j_G} {b : Nat → Nat} {i : Nat} {g : Nat → Nat} (hM : y_M τ b) (hi : i ≤ 60) (hc : y_mg τ b i g) : f_X12_nextTick τ = some (nI (y_from b i)) := by
  unfold f_X12_nextTick
  rw [hc.1]
  obtain _ | i := i
  · simp (disch := omega) only [y_lit, y_n1, nI_add, pk_mul, j_lt, j_b1_s, j_b2_s, j_b3_s, j_b0_s, y_bo, y_bo1, y_bo0, y_i0, y_i1, Classical.not_not, nI_clamp, y_ix, y_lt, y_le, y_eq, y_nP, y_nPs, y_ltP, y_ltQ, y_ltPP, y_eqP, y_eqQ, y_eqPP, if_pos, if_neg, ite_true, ite_false, not_true_eq_false, not_false_eq_true, and_true, true_and, and_false, false_and, or_true, true_or, or_false, false_or]
    rfl
  · have q := hc.2 i (by omega)
    simp (disch := omega) only [y_lit, y_n1, nI_add, pk_mul, j_lt, j_b1_s, j_b2_s, j_b3_s, j_b0_s, y_bo, y_bo1, y_bo0, y_i0, y_i1, Classical.not_not, nI_clamp, y_ix, y_lt, y_le, y_eq, y_nP, y_nPs, y_ltP, y_ltQ, y_ltPP, y_eqP, y_eqQ, y_eqPP, if_pos, if_neg, ite_true, ite_false, not_true_eq_false, not_false_eq_true, and_true, true_and, and_false, false_and, or_true, true_or, or_false, false_or, pk_sub, Nat.add_sub_cancel, q, hM.f]
    rfl
theorem ym_may {τ : j_G} {b : Nat → Nat} {i : Nat} {g : Nat → Nat} (hM : y_M τ b) (hW : y_W b) (hi : i ≤ 60) (hf : y_from b i ≤ 210) (h2 : 0 < b 2) (hc : y_mg τ b i g) : f_X12_mayCome τ = some (if i < 60 ∧ y_last b i < b 2 then nI 1 else nI 0) := by
  have h2 := hW.b2
  have hl := y_last_le hW i
  have hs := y_stay_bd hW (y_from b i)
  unfold f_X12_mayCome
  rw [ym_next hM hi hc, hc.1]
  simp (disch := omega) only [y_lit, y_n1, nI_add, pk_mul, j_lt, j_b1_s, j_b2_s, j_b3_s, j_b0_s, y_bo, y_bo1, y_bo0, y_i0, y_i1, Classical.not_not, nI_clamp, y_ix, y_lt, y_le, y_eq, y_nP, y_nPs, y_ltP, y_ltQ, y_ltPP, y_eqP, y_eqQ, y_eqPP, if_pos, if_neg, ite_true, ite_false, not_true_eq_false, not_false_eq_true, and_true, true_and, and_false, false_and, or_true, true_or, or_false, false_or, ym_stay hM hW, hM.f, pk_sub]
  by_cases h : i < 60
  · rw [if_pos h]
    by_cases h2 : y_last b i < b 2
    · rw [if_pos (And.intro h h2)]
      unfold y_last at h2
      simp (disch := omega) only [y_lit, y_n1, nI_add, pk_mul, j_lt, j_b1_s, j_b2_s, j_b3_s, j_b0_s, y_bo, y_bo1, y_bo0, y_i0, y_i1, Classical.not_not, nI_clamp, y_ix, y_lt, y_le, y_eq, y_nP, y_nPs, y_ltP, y_ltQ, y_ltPP, y_eqP, y_eqQ, y_eqPP, if_pos, if_neg, ite_true, ite_false, not_true_eq_false, not_false_eq_true, and_true, true_and, and_false, false_and, or_true, true_or, or_false, false_or]
    · rw [if_neg (fun z : i < 60 ∧ y_last b i < b 2 => h2 z.2)]
      unfold y_last at h2
      simp (disch := omega) only [y_lit, y_n1, nI_add, pk_mul, j_lt, j_b1_s, j_b2_s, j_b3_s, j_b0_s, y_bo, y_bo1, y_bo0, y_i0, y_i1, Classical.not_not, nI_clamp, y_ix, y_lt, y_le, y_eq, y_nP, y_nPs, y_ltP, y_ltQ, y_ltPP, y_eqP, y_eqQ, y_eqPP, if_pos, if_neg, ite_true, ite_false, not_true_eq_false, not_false_eq_true, and_true, true_and, and_false, false_and, or_true, true_or, or_false, false_or]
  · rw [if_neg h, if_neg (fun z : i < 60 ∧ y_last b i < b 2 => h z.1)]
theorem ym_come {τ : j_G} {b : Nat → Nat} {i : Nat} {g : Nat → Nat} {x y z : Int32} (hM : y_M τ b) (hW : y_W b) (hi : i < 60) (hf : y_from b i ≤ 210) (hc : y_mg τ b i g) (hx : x = nI (g (3 * i))) (hy : y = nP (g (3 * i + 1))) (hz : z = nI (g (3 * i + 2))) : ∃ τ', f_X12_come x y z τ = some τ' ∧ y_mg τ' b (i + 1) g ∧ y_fm 18 18 82 84 τ τ' ∧ τ'.2 = τ.2 := by
  have hl := y_last_le hW i
  have hs := y_stay_bd hW (y_from b i)
  have e0 := hc.1
  subst hx hy hz
  unfold f_X12_come
  rw [ym_next hM (by omega) hc]
  simp (disch := omega) only [y_lit, y_n1, nI_add, pk_mul, j_lt, j_b1_s, j_b2_s, j_b3_s, j_b0_s, y_bo, y_bo1, y_bo0, y_i0, y_i1, Classical.not_not, nI_clamp, y_ix, y_lt, y_le, y_eq, y_nP, y_nPs, y_ltP, y_ltQ, y_ltPP, y_eqP, y_eqQ, y_eqPP, if_pos, if_neg, ite_true, ite_false, not_true_eq_false, not_false_eq_true, and_true, true_and, and_false, false_and, or_true, true_or, or_false, false_or, j_r_ne, j_r_eq, j_r_nj, e0, ym_stay_si, ym_stay hM hW, pk_sub, Nat.add_zero]
  refine ⟨_, rfl, ⟨?_, fun j hj => ?_⟩, ?_, rfl⟩
  · simp (disch := omega) only [y_lit, y_n1, nI_add, pk_mul, j_lt, j_b1_s, j_b2_s, j_b3_s, j_b0_s, y_bo, y_bo1, y_bo0, y_i0, y_i1, Classical.not_not, nI_clamp, y_ix, y_lt, y_le, y_eq, y_nP, y_nPs, y_ltP, y_ltQ, y_ltPP, y_eqP, y_eqQ, y_eqPP, if_pos, if_neg, ite_true, ite_false, not_true_eq_false, not_false_eq_true, and_true, true_and, and_false, false_and, or_true, true_or, or_false, false_or, j_r_ne, j_r_eq, j_r_nj, e0]
  · by_cases h : j = i
    · subst h
      simp (disch := omega) only [y_lit, y_n1, nI_add, pk_mul, j_lt, j_b1_s, j_b2_s, j_b3_s, j_b0_s, y_bo, y_bo1, y_bo0, y_i0, y_i1, Classical.not_not, nI_clamp, y_ix, y_lt, y_le, y_eq, y_nP, y_nPs, y_ltP, y_ltQ, y_ltPP, y_eqP, y_eqQ, y_eqPP, if_pos, if_neg, ite_true, ite_false, not_true_eq_false, not_false_eq_true, and_true, true_and, and_false, false_and, or_true, true_or, or_false, false_or, j_r_ne, j_r_eq, j_r_nj]
      rfl
    · have q := hc.2 j (by omega)
      simp (disch := omega) only [y_lit, y_n1, nI_add, pk_mul, j_lt, j_b1_s, j_b2_s, j_b3_s, j_b0_s, y_bo, y_bo1, y_bo0, y_i0, y_i1, Classical.not_not, nI_clamp, y_ix, y_lt, y_le, y_eq, y_nP, y_nPs, y_ltP, y_ltQ, y_ltPP, y_eqP, y_eqQ, y_eqPP, if_pos, if_neg, ite_true, ite_false, not_true_eq_false, not_false_eq_true, and_true, true_and, and_false, false_and, or_true, true_or, or_false, false_or, j_r_ne, j_r_eq, j_r_nj]
      exact q
  · exact (((((y_fm.refl.si (by omega) (by omega) (by omega)).si (by omega) (by omega) (by omega)).si (by omega) (by omega) (by omega)).si (by omega) (by omega) (by omega)).si (by omega) (by omega) (by omega)).so (by omega) (by omega)
theorem ym_lay_l {b : Nat → Nat} (hW : y_W b) (h5 : 0 < b 5) : ∀ m i n τ, i + m = 60 → m < n → y_M τ b → (i = 0 ∨ y_last b (i - 1) < b 2) → y_mg τ b i (y_dg b (b 8)) → ∃ τ', p_X12_lay_5 n τ = some τ' ∧ y_mg τ' b (y_gn b m i) (y_dg b (b 8)) ∧ y_fm 18 18 82 84 τ τ' := by
  have hb := hW.b5
  have h8 := hW.b8
  have h9 := hW.on0 (Or.inr (Or.inr (Or.inl h5)))
  have h2 := (hW.on h9).2.2.1
  intro m
  induction m with
  | zero =>
    intro i n τ h hn hM hl hc
    obtain ⟨n, rfl⟩ := y_pos hn
    have hf := y_from_bd hW hl
    unfold p_X12_lay_5
    refine ⟨τ, ?_, hc, y_fm.refl⟩
    simp (disch := omega) only [y_lit, y_n1, nI_add, pk_mul, j_lt, j_b1_s, j_b2_s, j_b3_s, j_b0_s, y_bo, y_bo1, y_bo0, y_i0, y_i1, Classical.not_not, nI_clamp, y_ix, y_lt, y_le, y_eq, y_nP, y_nPs, y_ltP, y_ltQ, y_ltPP, y_eqP, y_eqQ, y_eqPP, if_pos, if_neg, ite_true, ite_false, not_true_eq_false, not_false_eq_true, and_true, true_and, and_false, false_and, or_true, true_or, or_false, false_or, hM.f, ym_may hM hW (by omega) hf h2 hc]
  | succ m ih =>
    intro i n τ h hn hM hl hc
    obtain ⟨n, rfl⟩ := y_pos hn
    have hm : (b 8 + i) % b 5 < b 5 := Nat.mod_lt _ (by omega)
    have hf := y_from_bd hW hl
    have hr : nI (b 8 + i) - nI ((b 8 + i) / b 5 * b 5) = nI ((b 8 + i) % b 5) := by
      rw [← pk_mul, ← pk_div (by omega) (by omega) (by omega), pk_rem (by omega) (by omega) (by omega)]
    unfold p_X12_lay_5
    simp (disch := omega) only [y_lit, y_n1, nI_add, pk_mul, j_lt, j_b1_s, j_b2_s, j_b3_s, j_b0_s, y_bo, y_bo1, y_bo0, y_i0, y_i1, Classical.not_not, nI_clamp, y_ix, y_lt, y_le, y_eq, y_nP, y_nPs, y_ltP, y_ltQ, y_ltPP, y_eqP, y_eqQ, y_eqPP, if_pos, if_neg, ite_true, ite_false, not_true_eq_false, not_false_eq_true, and_true, true_and, and_false, false_and, or_true, true_or, or_false, false_or, hM.f, ym_may hM hW (by omega) hf h2 hc]
    unfold y_gn
    by_cases c : y_last b i < b 2
    · rw [if_pos ⟨by omega, c⟩, if_pos c, hc.1]
      simp (disch := omega) only [y_lit, y_n1, nI_add, pk_mul, j_lt, j_b1_s, j_b2_s, j_b3_s, j_b0_s, y_bo, y_bo1, y_bo0, y_i0, y_i1, Classical.not_not, nI_clamp, y_ix, y_lt, y_le, y_eq, y_nP, y_nPs, y_ltP, y_ltQ, y_ltPP, y_eqP, y_eqQ, y_eqPP, if_pos, if_neg, ite_true, ite_false, not_true_eq_false, not_false_eq_true, and_true, true_and, and_false, false_and, or_true, true_or, or_false, false_or, pk_div]
      rw [hr, ym_co0 hM (by omega), ym_co1 hM (by omega), ym_co2 hM (by omega)]
      simp only [j_b1_s]
      obtain ⟨τ1, a1, a2, a3, _⟩ := ym_come hM hW (by omega) hf hc (x := nI (b (24 + 3 * ((b 8 + i) % b 5)))) (y := nP (b (25 + 3 * ((b 8 + i) % b 5)))) (z := nI (b (26 + 3 * ((b 8 + i) % b 5)))) (by rw [y_dg0]) (by rw [y_dg1]) (by rw [y_dg2])
      rw [a1]
      obtain ⟨τ2, g1, g2, g3⟩ := ih (i + 1) n τ1 (by omega) (by omega) (hM.fr a3 (by omega)) (Or.inr c) a2
      exact ⟨τ2, g1, g2, a3.trans g3⟩
    · rw [if_neg (fun z => c z.2), if_neg c]
      exact ⟨τ, by simp (disch := omega) only [y_lit, y_n1, nI_add, pk_mul, j_lt, j_b1_s, j_b2_s, j_b3_s, j_b0_s, y_bo, y_bo1, y_bo0, y_i0, y_i1, Classical.not_not, nI_clamp, y_ix, y_lt, y_le, y_eq, y_nP, y_nPs, y_ltP, y_ltQ, y_ltPP, y_eqP, y_eqQ, y_eqPP, if_pos, if_neg, ite_true, ite_false, not_true_eq_false, not_false_eq_true, and_true, true_and, and_false, false_and, or_true, true_or, or_false, false_or], hc, y_fm.refl⟩
theorem ym_lay {τ : j_G} {b : Nat → Nat} (hM : y_M τ b) (hW : y_W b) : ∃ τ', f_X12_lay τ = some τ' ∧ y_mg τ' b (y_gs b) (y_dg b (b 8)) ∧ y_fm 18 18 82 84 τ τ' := by
  have hb := hW.b5
  unfold f_X12_lay
  simp only [j_lt, y_lit]
  have f : y_fm 18 18 82 84 τ (j_si τ 75 18 (nI 0)) := y_fm.refl.so (by omega) (by omega)
  have hM1 := hM.fr f (by omega)
  have hc : y_mg (j_si τ 75 18 (nI 0)) b 0 (y_dg b (b 8)) := ⟨j_r_eq, fun i hi => absurd hi (by omega)⟩
  unfold y_gs
  by_cases h5 : b 5 = 0
  · rw [if_pos h5, show j_F = 4999 + 1 from rfl]
    refine ⟨_, ?_, hc, f⟩
    unfold p_X12_lay_5
    simp (disch := omega) only [y_lit, y_n1, nI_add, pk_mul, j_lt, j_b1_s, j_b2_s, j_b3_s, j_b0_s, y_bo, y_bo1, y_bo0, y_i0, y_i1, Classical.not_not, nI_clamp, y_ix, y_lt, y_le, y_eq, y_nP, y_nPs, y_ltP, y_ltQ, y_ltPP, y_eqP, y_eqQ, y_eqPP, if_pos, if_neg, ite_true, ite_false, not_true_eq_false, not_false_eq_true, and_true, true_and, and_false, false_and, or_true, true_or, or_false, false_or, hM1.f, h5]
  · rw [if_neg h5]
    obtain ⟨σ2, g1, g2, g3⟩ := ym_lay_l hW (by omega) 60 0 j_F _ (by omega) (y_F (by omega)) hM1 (Or.inl rfl) hc
    rw [g1]
    exact ⟨σ2, rfl, g2, f.trans g3⟩
/-! ===== a run: R 0 hits, 1 steps, 2 where, 3 free, 4 red hits, 8 + 2k the tick, 9 + 2k the hole of a strike, 1000 + 2i the tick and 1 of a coming, 1001 + 2i its hits ===== -/
noncomputable def y_u (R : Nat → Nat) (k v : Nat) : Nat → Nat := fun j => if j = k then v else R j
theorem y_ue {R : Nat → Nat} {k v : Nat} : y_u R k v k = v := if_pos rfl
theorem y_un {R : Nat → Nat} {k v j : Nat} (h : j ≠ k) : y_u R k v j = R j := if_neg h
noncomputable def y_pc (q : Nat → Nat) (t : Nat) : Nat := q 0 + t / q 2
noncomputable def y_aw (b q : Nat → Nat) (i : Nat) : Nat := if q 3 = 0 then y_from b i + q 1 else if (if i < q 3 then 0 else y_from b (i - q 3)) < y_from b i + q 1 then (if i < q 3 then 0 else y_from b (i - q 3)) else y_from b i + q 1
noncomputable def y_th (b q : Nat → Nat) (a c t : Nat) : Nat := t + y_ap b a c * y_pc q t
noncomputable def y_mx (a c : Nat) : Nat := if a < c then c else a
noncomputable def y_at (b q : Nat → Nat) (i to : Nat) (R : Nat → Nat) : Nat := y_mx (y_th b q (R 2) to (y_mx (R 3) (y_aw b q i))) (y_from b i)
noncomputable def y_set (b g : Nat → Nat) (i to t : Nat) (R : Nat → Nat) : Nat → Nat := y_u (y_u (y_u (y_u (y_u (y_u (y_u (y_u (y_u R (8 + 2 * R 0) t) (9 + 2 * R 0) to) 0 (R 0 + 1)) (1000 + 2 * i) (t + 1)) (1001 + 2 * i) (R (1001 + 2 * i) + 1)) 1 (R 1 + y_ap b (R 2) to)) 2 to) 3 (t + 1)) 4 (R 4 + g (3 * i + 2))
noncomputable def y_go (b g q : Nat → Nat) (i to : Nat) (R : Nat → Nat) : Nat → Nat := if y_at b q i to R ≤ y_last b i then y_set b g i to (y_at b q i to R) R else R
noncomputable def y_go2 (b g q : Nat → Nat) (i to th : Nat) (R : Nat → Nat) : Nat → Nat := if y_at b q i to R ≤ y_last b i then y_go b g q i th (y_go b g q i to R) else R
/-- what is asked of a player's numbers -/
def y_vq (b q : Nat → Nat) : Prop := q 0 ≤ 9 ∧ q 1 ≤ 40 ∧ q 2 ≤ 99 ∧ q 3 ≤ 9 ∧ q 4 < y_ho b
def y_cp (σ : j_G) (a : Nat) (q : Nat → Nat) : Prop := ∀ j, j < 5 → σ.1 a j = nI (q j)
def y_mp (τ : j_G) (b : Nat → Nat) (p : Nat) (q : Nat → Nat) : Prop := τ.1 75 19 = nI p ∧ τ.1 75 20 = nI (q 1) ∧ τ.1 75 21 = nI (q 3) ∧ τ.1 75 22 = nI (q 4) ∧ p < b 6 ∧ b (96 + 5 * p) = q 0 ∧ b (98 + 5 * p) = q 2
def y_cr (σ : j_G) (R : Nat → Nat) (s : Nat) : Prop := (σ.1 30 0 = nI (R 0) ∧ σ.1 30 1 = nI (R 1) ∧ σ.1 30 7 = nI (R 2) ∧ σ.1 30 8 = nI (R 3)) ∧ (∀ k, k < R 0 → σ.1 33 k = nI (R (8 + 2 * k)) ∧ σ.1 34 k = nI (R (9 + 2 * k))) ∧ (∀ i, i < s → σ.1 31 i = nP (R (1000 + 2 * i)) ∧ σ.1 32 i = nI (R (1001 + 2 * i)))
def y_mr (τ : j_G) (R : Nat → Nat) (s : Nat) : Prop := (τ.1 75 29 = nI (R 0) ∧ τ.1 75 33 = nI (R 1) ∧ τ.1 75 31 = nI (R 2) ∧ τ.1 75 32 = nI (R 3) ∧ τ.1 75 30 = nI (R 4)) ∧ (∀ k, k < R 0 → τ.1 87 k = nI (R (8 + 2 * k)) ∧ τ.1 88 k = nI (R (9 + 2 * k))) ∧ (∀ i, i < s → τ.1 86 i = nP (R (1000 + 2 * i)) ∧ τ.1 85 i = nI (R (1001 + 2 * i)))
/-- bounds of a run -/
def y_br (b R : Nat → Nat) (m : Nat) : Prop := R 0 ≤ m ∧ R 1 ≤ 24 * m ∧ R 2 < y_ho b ∧ R 3 ≤ 200 ∧ R 4 ≤ m ∧ (∀ k, k < R 0 → R (8 + 2 * k) < 200 ∧ R (9 + 2 * k) < y_ho b) ∧ (∀ j, R (1000 + 2 * j) ≤ 200) ∧ (∀ j, R (1001 + 2 * j) ≤ m)
theorem y_ap_bd {b : Nat → Nat} {a c : Nat} (ha : a < 12) (hc : c < 12) : y_ap b a c ≤ 24 := by
  have h1 := Nat.div_le_self a (b 0); have h2 := Nat.div_le_self c (b 0)
  have h3 := Nat.mod_le a (b 0); have h4 := Nat.mod_le c (b 0)
  unfold y_ap y_df
  generalize a / b 0 = x1 at *; generalize c / b 0 = x2 at *; generalize a % b 0 = x3 at *; generalize c % b 0 = x4 at *
  omega
theorem y_pc_bd {b q : Nat → Nat} (hq : y_vq b q) (t : Nat) : y_pc q t ≤ 9 + t := by
  have := hq.1
  have h1 := Nat.div_le_self t (q 2)
  unfold y_pc; omega
theorem y_aw_bd {b q : Nat → Nat} (hq : y_vq b q) {i : Nat} : y_aw b q i ≤ y_from b i + 40 := by
  have := hq.2.1
  unfold y_aw
  split
  · omega
  · generalize (if i < q 3 then 0 else y_from b (i - q 3)) = z
    split <;> omega
theorem y_th_bd {b q : Nat → Nat} (hq : y_vq b q) {a c t : Nat} (ha : a < 12) (hc : c < 12) (ht : t ≤ 1000) : y_th b q a c t ≤ 30000 := by
  have h1 := y_ap_bd (b := b) ha hc
  have h2 := y_pc_bd hq t
  have h3 : y_ap b a c * y_pc q t ≤ 24 * (9 + t) := Nat.mul_le_mul h1 h2
  unfold y_th; omega
theorem y_rs {a b n : Nat} (ha : a < 2 ^ 30) (hb : b < 2 ^ 30) : y_rg (nI a - nI b) n ↔ b ≤ a ∧ a < n + b := by
  unfold y_rg; rw [pk_sub_toInt ha hb]; omega
theorem y_mxI {a c : Nat} : (if a < c then nI c else nI a) = nI (y_mx a c) := by
  unfold y_mx
  split <;> rfl
theorem y_pI {p : Prop} [Decidable p] {a c : Nat} : (if p then nI a else nI c) = nI (if p then a else c) := by
  split <;> rfl
section C
variable {σ : j_G} {b g q : Nat → Nat} {s a : Nat}
theorem yc_ghas (hc : y_cg σ b s g) (hs : s ≤ 60) (x : Int32) : f_X4_has x σ = if y_rg x s then nI 1 else nI 0 := by
  unfold f_X4_has; rw [hc.1]; simp only [y_lit]; simp (disch := omega) only [y_c1]
theorem yc_pace (hp : y_cp σ a q) (hq : y_vq b q) {t : Nat} (ht : t < 2 ^ 30) : f_X6_paceIn a (nI t) σ = some (nI (y_pc q t)) := by
  have h0 := hq.1; have h2 := hq.2.2.1
  have e0 := hp 0 (by omega); have e2 := hp 2 (by omega)
  have := Nat.div_le_self t (q 2)
  unfold f_X6_paceIn y_pc; simp (disch := omega) only [y_lit, y_n1, nI_add, pk_mul, j_lt, j_b1_s, j_b2_s, j_b3_s, j_b0_s, y_bo, y_bo1, y_bo0, y_i0, y_i1, Classical.not_not, nI_clamp, y_ix, y_lt, y_le, y_eq, y_nP, y_nPs, y_ltP, y_ltQ, y_ltPP, y_eqP, y_eqQ, y_eqPP, if_pos, if_neg, ite_true, ite_false, not_true_eq_false, not_false_eq_true, and_true, true_and, and_false, false_and, or_true, true_or, or_false, false_or, e0, e2]
  by_cases z : q 2 = 0
  · simp (disch := omega) only [z, Nat.div_zero, Nat.add_zero, y_lit, y_n1, nI_add, pk_mul, j_lt, j_b1_s, j_b2_s, j_b3_s, j_b0_s, y_bo, y_bo1, y_bo0, y_i0, y_i1, Classical.not_not, nI_clamp, y_ix, y_lt, y_le, y_eq, y_nP, y_nPs, y_ltP, y_ltQ, y_ltPP, y_eqP, y_eqQ, y_eqPP, if_pos, if_neg, ite_true, ite_false, not_true_eq_false, not_false_eq_true, and_true, true_and, and_false, false_and, or_true, true_or, or_false, false_or]
  · simp (disch := omega) only [y_lit, y_n1, nI_add, pk_mul, j_lt, j_b1_s, j_b2_s, j_b3_s, j_b0_s, y_bo, y_bo1, y_bo0, y_i0, y_i1, Classical.not_not, nI_clamp, y_ix, y_lt, y_le, y_eq, y_nP, y_nPs, y_ltP, y_ltQ, y_ltPP, y_eqP, y_eqQ, y_eqPP, if_pos, if_neg, ite_true, ite_false, not_true_eq_false, not_false_eq_true, and_true, true_and, and_false, false_and, or_true, true_or, or_false, false_or, pk_div]
theorem yc_awareOf (hc : y_cg σ b s g) (hv : y_vg b s g) (hp : y_cp σ a q) (hq : y_vq b q) (hW : y_W b) {i : Nat} (hi : i < s) : f_X6_awareOf 26 a (nI i) σ = some (nI (y_aw b q i)) := by
  have hs := hv.1
  have h2 := hW.b2
  have h1 := hq.2.1; have h3 := hq.2.2.2.1
  have e1 := hp 1 (by omega); have e3 := hp 3 (by omega)
  have ei := (hc.2 i hi).2.2.2.1
  have li := (hv.2 i hi).2.2.2.2.2
  have le := y_last_le hW i
  unfold f_X6_awareOf y_aw
  simp (disch := omega) only [y_lit, y_n1, nI_add, pk_mul, j_lt, j_b1_s, j_b2_s, j_b3_s, j_b0_s, y_bo, y_bo1, y_bo0, y_i0, y_i1, Classical.not_not, nI_clamp, y_ix, y_lt, y_le, y_eq, y_nP, y_nPs, y_ltP, y_ltQ, y_ltPP, y_eqP, y_eqQ, y_eqPP, if_pos, if_neg, ite_true, ite_false, not_true_eq_false, not_false_eq_true, and_true, true_and, and_false, false_and, or_true, true_or, or_false, false_or, yc_ghas hc hs, y_rn, e1, e3, ei, y_rs]
  by_cases z : q 3 = 0
  · simp (disch := omega) only [y_lit, y_n1, nI_add, pk_mul, j_lt, j_b1_s, j_b2_s, j_b3_s, j_b0_s, y_bo, y_bo1, y_bo0, y_i0, y_i1, Classical.not_not, nI_clamp, y_ix, y_lt, y_le, y_eq, y_nP, y_nPs, y_ltP, y_ltQ, y_ltPP, y_eqP, y_eqQ, y_eqPP, if_pos, if_neg, ite_true, ite_false, not_true_eq_false, not_false_eq_true, and_true, true_and, and_false, false_and, or_true, true_or, or_false, false_or]
  · by_cases y : i < q 3
    · simp (disch := omega) only [y_lit, y_n1, nI_add, pk_mul, j_lt, j_b1_s, j_b2_s, j_b3_s, j_b0_s, y_bo, y_bo1, y_bo0, y_i0, y_i1, Classical.not_not, nI_clamp, y_ix, y_lt, y_le, y_eq, y_nP, y_nPs, y_ltP, y_ltQ, y_ltPP, y_eqP, y_eqQ, y_eqPP, if_pos, if_neg, ite_true, ite_false, not_true_eq_false, not_false_eq_true, and_true, true_and, and_false, false_and, or_true, true_or, or_false, false_or, y_pI]
    · have ej := (hc.2 (i - q 3) (by omega)).2.2.2.1
      have lj := (hv.2 (i - q 3) (by omega)).2.2.2.2.2
      have lf := y_last_le hW (i - q 3)
      have hh : (q 3 ≤ i ∧ i < s + q 3) := ⟨by omega, by omega⟩
      simp (disch := omega) only [y_lit, y_n1, nI_add, pk_mul, j_lt, j_b1_s, j_b2_s, j_b3_s, j_b0_s, y_bo, y_bo1, y_bo0, y_i0, y_i1, Classical.not_not, nI_clamp, y_ix, y_lt, y_le, y_eq, y_nP, y_nPs, y_ltP, y_ltQ, y_ltPP, y_eqP, y_eqQ, y_eqPP, if_pos, if_neg, ite_true, ite_false, not_true_eq_false, not_false_eq_true, and_true, true_and, and_false, false_and, or_true, true_or, or_false, false_or, pk_sub, ej, if_pos hh, y_pI]
theorem yc_there (hN : y_N σ b) (hW : y_W b) (h9 : 0 < b 9) (hp : y_cp σ a q) (hq : y_vq b q) {h to t : Nat} (hh : h < 12) (hto : to < 12) (ht : t ≤ 1000) : f_X6_there a (nI h) (nI to) (nI t) σ = some (nI (y_th b q h to t)) := by
  unfold f_X6_there y_th
  rw [yc_apart hN hW h9 (by omega) (by omega), yc_pace hp hq (by omega)]
  simp (disch := omega) only [y_lit, y_n1, nI_add, pk_mul, j_lt, j_b1_s, j_b2_s, j_b3_s, j_b0_s, y_bo, y_bo1, y_bo0, y_i0, y_i1, Classical.not_not, nI_clamp, y_ix, y_lt, y_le, y_eq, y_nP, y_nPs, y_ltP, y_ltQ, y_ltPP, y_eqP, y_eqQ, y_eqPP, if_pos, if_neg, ite_true, ite_false, not_true_eq_false, not_false_eq_true, and_true, true_and, and_false, false_and, or_true, true_or, or_false, false_or]
theorem yc_strikeG (hc : y_cg σ b s g) (hv : y_vg b s g) (hW : y_W b) {i t : Nat} (hi : i < s) (ht : t < 2 ^ 30) : f_X4_strike (nI i) (nI t) σ = some (if y_mx t (y_from b i) ≤ y_last b i then nI (y_mx t (y_from b i)) else nP 0) := by
  have hs := hv.1
  have h2 := hW.b2
  have ei := (hc.2 i hi).2.2.2.1
  have el := (hc.2 i hi).2.2.2.2
  have li := (hv.2 i hi).2.2.2.2.2
  have le := y_last_le hW i
  have hm : y_mx t (y_from b i) < 2 ^ 31 := by unfold y_mx; split <;> omega
  unfold f_X4_strike
  simp (disch := omega) only [y_lit, y_n1, nI_add, pk_mul, j_lt, j_b1_s, j_b2_s, j_b3_s, j_b0_s, y_bo, y_bo1, y_bo0, y_i0, y_i1, Classical.not_not, nI_clamp, y_ix, y_lt, y_le, y_eq, y_nP, y_nPs, y_ltP, y_ltQ, y_ltPP, y_eqP, y_eqQ, y_eqPP, if_pos, if_neg, ite_true, ite_false, not_true_eq_false, not_false_eq_true, and_true, true_and, and_false, false_and, or_true, true_or, or_false, false_or, yc_ghas hc hs, y_rn, ei, el, y_mxI, Nat.not_lt]
  split <;> rfl
end C
/-! ===== a run of the class ===== -/
theorem yc_apart_si {x y v : Int32} {c j : Nat} {σ : j_G} (hc : c ≠ 1) : f_X2_apart x y (j_si σ c j v) = f_X2_apart x y σ := by
  unfold f_X2_apart
  rw [j_r_ne (fun z => hc z.symm)]
theorem y_at_bd {b q R : Nat → Nat} {i m : Nat} (hW : y_W b) (hq : y_vq b q) (hb : y_br b R m) {to : Nat} (hto : to < y_ho b) (hf : y_from b i ≤ 200) : y_mx (R 3) (y_aw b q i) ≤ 1000 ∧ y_th b q (R 2) to (y_mx (R 3) (y_aw b q i)) ≤ 30000 ∧ y_at b q i to R ≤ 30000 := by
  have h1 := y_aw_bd hq (i := i)
  have h2 := hb.2.2.1
  have h3 := hb.2.2.2.1
  have h4 := hW.ho
  have k1 : y_mx (R 3) (y_aw b q i) ≤ 1000 := by unfold y_mx; split <;> omega
  have k2 := y_th_bd hq (a := R 2) (c := to) (by omega) (by omega) k1
  refine ⟨k1, k2, ?_⟩
  unfold y_at
  generalize y_th b q (R 2) to (y_mx (R 3) (y_aw b q i)) = z at *
  unfold y_mx; split <;> omega
theorem y_set_br {b g R : Nat → Nat} {i to t m : Nat} (hW : y_W b) (hb : y_br b R m) (hm : m < 200) (hto : to < y_ho b) (ht : t < 200) (hr : g (3 * i + 2) ≤ 1) (hi : i < 60) : y_br b (y_set b g i to t R) (m + 1) := by
  obtain ⟨b0, b1, b2, b3, b4, b5, b6, b7⟩ := hb
  have h4 := hW.ho
  have h5 := y_ap_bd (b := b) (a := R 2) (c := to) (by omega) (by omega)
  unfold y_set
  refine ⟨?_, ?_, ?_, ?_, ?_, fun k hk => ?_, fun j => ?_, fun j => ?_⟩
  · simp (disch := omega) only [y_ue, y_un]; omega
  · simp (disch := omega) only [y_ue, y_un]; omega
  · simp (disch := omega) only [y_ue, y_un]; exact hto
  · simp (disch := omega) only [y_ue, y_un]; omega
  · simp (disch := omega) only [y_ue, y_un]; omega
  · simp (disch := omega) only [y_ue, y_un] at hk
    by_cases e : k = R 0
    · subst e; simp (disch := omega) only [y_ue, y_un]; exact ⟨ht, hto⟩
    · have := b5 k (by omega)
      simp (disch := omega) only [y_ue, y_un]; exact this
  · by_cases e : j = i
    · subst e; simp (disch := omega) only [y_ue, y_un]; omega
    · have := b6 j
      simp (disch := omega) only [y_ue, y_un]; omega
  · by_cases e : j = i
    · subst e; have := b7 j; simp (disch := omega) only [y_ue, y_un]; omega
    · have := b7 j
      simp (disch := omega) only [y_ue, y_un]; omega
section C
variable {σ : j_G} {b g q R : Nat → Nat} {s a m i to : Nat}
theorem yc_strike (hN : y_N σ b) (hW : y_W b) (h9 : 0 < b 9) (hc : y_cg σ b s g) (hv : y_vg b s g) (hp : y_cp σ a q) (ha : a < 30) (hq : y_vq b q) (hr : y_cr σ R s) (hb : y_br b R m) (hm : m < 120) (hi : i < s) (hto : to < y_ho b) : ∃ σ', f_X9_strike 30 26 a 33 34 31 32 (nI i) (nI to) σ = some ((if y_at b q i to R ≤ y_last b i then nI 1 else nI 0), σ') ∧ y_cr σ' (y_go b g q i to R) s ∧ y_fr 30 34 σ σ' ∧ σ'.1 30 4 = σ.1 30 4 := by
  have hs := hv.1
  have h2 := hW.b2
  have h4 := hW.ho
  have li := (hv.2 i hi).2.2.2.2.2
  have le := y_last_le hW i
  obtain ⟨b0, b1, b2, b3, b4, b5, b6, b7⟩ := id hb
  obtain ⟨k1, k2, k3⟩ := y_at_bd hW hq hb hto (i := i) (by omega)
  have h1 := y_aw_bd hq (i := i)
  obtain ⟨⟨r0, r1, r2, r3⟩, rk, ri⟩ := id hr
  have rb := b7 i
  unfold f_X9_strike
  rw [yc_awareOf hc hv hp hq hW hi, r0, r2, r3]
  simp (disch := omega) only [y_lit, y_n1, nI_add, pk_mul, j_lt, j_b1_s, j_b2_s, j_b3_s, j_b0_s, y_bo, y_bo1, y_bo0, y_i0, y_i1, Classical.not_not, nI_clamp, y_ix, y_lt, y_le, y_eq, y_nP, y_nPs, y_ltP, y_ltQ, y_ltPP, y_eqP, y_eqQ, y_eqPP, if_pos, if_neg, ite_true, ite_false, not_true_eq_false, not_false_eq_true, and_true, true_and, and_false, false_and, or_true, true_or, or_false, false_or, y_mxI]
  rw [yc_there hN hW h9 hp hq (by omega) (by omega) k1]
  simp (disch := omega) only [y_lit, y_n1, nI_add, pk_mul, j_lt, j_b1_s, j_b2_s, j_b3_s, j_b0_s, y_bo, y_bo1, y_bo0, y_i0, y_i1, Classical.not_not, nI_clamp, y_ix, y_lt, y_le, y_eq, y_nP, y_nPs, y_ltP, y_ltQ, y_ltPP, y_eqP, y_eqQ, y_eqPP, if_pos, if_neg, ite_true, ite_false, not_true_eq_false, not_false_eq_true, and_true, true_and, and_false, false_and, or_true, true_or, or_false, false_or]
  rw [yc_strikeG hc hv hW hi (by omega), show y_mx (y_th b q (R 2) to (y_mx (R 3) (y_aw b q i))) (y_from b i) = y_at b q i to R from rfl]
  unfold y_go
  by_cases h : y_at b q i to R ≤ y_last b i
  · simp only [if_pos h]
    generalize y_at b q i to R = t at *
    have ei := ri i hi
    simp (disch := omega) only [y_lit, y_n1, nI_add, pk_mul, j_lt, j_b1_s, j_b2_s, j_b3_s, j_b0_s, y_bo, y_bo1, y_bo0, y_i0, y_i1, Classical.not_not, nI_clamp, y_ix, y_lt, y_le, y_eq, y_nP, y_nPs, y_ltP, y_ltQ, y_ltPP, y_eqP, y_eqQ, y_eqPP, if_pos, if_neg, ite_true, ite_false, not_true_eq_false, not_false_eq_true, and_true, true_and, and_false, false_and, or_true, true_or, or_false, false_or, j_r_ne, j_r_eq, j_r_nj, r0, r1, r2, ei, yc_apart_si]
    rw [yc_apart hN hW h9 (by omega) (by omega)]
    have h5 := y_ap_bd (b := b) (a := R 2) (c := to) (by omega) (by omega)
    simp (disch := omega) only [y_lit, y_n1, nI_add, pk_mul, j_lt, j_b1_s, j_b2_s, j_b3_s, j_b0_s, y_bo, y_bo1, y_bo0, y_i0, y_i1, Classical.not_not, nI_clamp, y_ix, y_lt, y_le, y_eq, y_nP, y_nPs, y_ltP, y_ltQ, y_ltPP, y_eqP, y_eqQ, y_eqPP, if_pos, if_neg, ite_true, ite_false, not_true_eq_false, not_false_eq_true, and_true, true_and, and_false, false_and, or_true, true_or, or_false, false_or, j_r_ne, j_r_eq, j_r_nj, r1]
    refine ⟨_, rfl, ⟨⟨?_, ?_, ?_, ?_⟩, fun k hk => ?_, fun j hj => ?_⟩, ?_, ?_⟩
    · unfold y_set; simp (disch := omega) only [j_r_ne, j_r_eq, j_r_nj, y_ue, y_un]
    · unfold y_set; simp (disch := omega) only [j_r_ne, j_r_eq, j_r_nj, y_ue, y_un]
    · unfold y_set; simp (disch := omega) only [j_r_ne, j_r_eq, j_r_nj, y_ue, y_un]
    · unfold y_set; simp (disch := omega) only [j_r_ne, j_r_eq, j_r_nj, y_ue, y_un]
    · unfold y_set at hk ⊢
      simp (disch := omega) only [y_ue, y_un] at hk
      by_cases e : k = R 0
      · subst e; simp (disch := omega) only [j_r_ne, j_r_eq, j_r_nj, y_ue, y_un]; exact ⟨trivial, trivial⟩
      · have := rk k (by omega)
        simp (disch := omega) only [j_r_ne, j_r_eq, j_r_nj, y_ue, y_un]; exact this
    · unfold y_set
      by_cases e : j = i
      · subst e; simp (disch := omega) only [j_r_ne, j_r_eq, j_r_nj, y_ue, y_un, y_nPs]; exact ⟨trivial, trivial⟩
      · have := ri j hj
        simp (disch := omega) only [j_r_ne, j_r_eq, j_r_nj, y_ue, y_un]; exact this
    · exact ((((((((y_fr.refl.si (by omega) (by omega)).si (by omega) (by omega)).si (by omega) (by omega)).si (by omega) (by omega)).si (by omega) (by omega)).si (by omega) (by omega)).si (by omega) (by omega)).si (by omega) (by omega))
    · simp (disch := omega) only [j_r_ne, j_r_eq, j_r_nj]
  · simp only [if_neg h]
    refine ⟨σ, ?_, hr, y_fr.refl, rfl⟩
    simp (disch := omega) only [y_lit, y_n1, nI_add, pk_mul, j_lt, j_b1_s, j_b2_s, j_b3_s, j_b0_s, y_bo, y_bo1, y_bo0, y_i0, y_i1, Classical.not_not, nI_clamp, y_ix, y_lt, y_le, y_eq, y_nP, y_nPs, y_ltP, y_ltQ, y_ltPP, y_eqP, y_eqQ, y_eqPP, if_pos, if_neg, ite_true, ite_false, not_true_eq_false, not_false_eq_true, and_true, true_and, and_false, false_and, or_true, true_or, or_false, false_or]
end C
/-! ===== for one coming, and for all ===== -/
def y_mk (hs : Int32) (k : Nat → Nat) : Prop := ∀ h, h < 12 → ((hs >>> (nI h &&& nI 31)) &&& nI 1) = nI (k h) ∧ k h ≤ 1
noncomputable def y_gf (b g q k : Nat → Nat) (i : Nat) (R : Nat → Nat) : Nat → Nat :=
  if k (g (3 * i)) = 1 then
    (if 0 < g (3 * i + 1) ∧ k (g (3 * i + 1) - 1) = 1 then
      (if y_ap b (R 2) (g (3 * i)) ≤ y_ap b (R 2) (g (3 * i + 1) - 1) then y_go2 b g q i (g (3 * i)) (g (3 * i + 1) - 1) R else y_go2 b g q i (g (3 * i + 1) - 1) (g (3 * i)) R)
    else y_go b g q i (g (3 * i)) R)
  else if 0 < g (3 * i + 1) ∧ k (g (3 * i + 1) - 1) = 1 then y_go b g q i (g (3 * i + 1) - 1) R else R
noncomputable def y_rl (b g q k : Nat → Nat) (red : Nat) : Nat → Nat → (Nat → Nat) → Nat → Nat
  | 0, _, R => R
  | m + 1, i, R => y_rl b g q k red m (i + 1) (if g (3 * i + 2) = 0 ∨ red = 1 then y_gf b g q k i R else R)
noncomputable def y_R0 (q : Nat → Nat) : Nat → Nat := fun j => if j = 2 then q 4 else 0
noncomputable def y_run (b g q k : Nat → Nat) (red s : Nat) : Nat → Nat := y_rl b g q k red s 0 (y_R0 q)
theorem y_br.up {b R : Nat → Nat} {m m' : Nat} (h : y_br b R m) (hm : m ≤ m') : y_br b R m' := by
  obtain ⟨b0, b1, b2, b3, b4, b5, b6, b7⟩ := h
  exact ⟨by omega, by omega, b2, b3, by omega, b5, b6, fun j => by have := b7 j; omega⟩
theorem y_go_br {b g q R : Nat → Nat} {s i to m : Nat} (hW : y_W b) (hv : y_vg b s g) (hb : y_br b R m) (hm : m < 120) (hi : i < s) (hto : to < y_ho b) : y_br b (y_go b g q i to R) (m + 1) := by
  have h2 := hW.b2
  have li := hv.2 i hi
  have h60 := hv.1
  unfold y_go
  split
  · exact y_set_br hW hb (by omega) hto (by omega) li.2.2.2.1 (by omega)
  · exact hb.up (by omega)
theorem y_go2_br {b g q R : Nat → Nat} {s i to th m : Nat} (hW : y_W b) (hv : y_vg b s g) (hb : y_br b R m) (hm : m + 1 < 120) (hi : i < s) (hto : to < y_ho b) (hth : th < y_ho b) : y_br b (y_go2 b g q i to th R) (m + 2) := by
  unfold y_go2
  split
  · exact y_go_br hW hv (y_go_br hW hv hb (by omega) hi hto) hm hi hth
  · exact hb.up (by omega)
theorem y_gf_br {b g q k R : Nat → Nat} {s i m : Nat} (hW : y_W b) (hv : y_vg b s g) (hb : y_br b R m) (hm : m + 1 < 120) (hi : i < s) : y_br b (y_gf b g q k i R) (m + 2) := by
  have li := hv.2 i hi
  unfold y_gf
  split
  · split
    · split
      · exact y_go2_br hW hv hb hm hi li.1 (by omega)
      · exact y_go2_br hW hv hb hm hi (by omega) li.1
    · exact (y_go_br hW hv hb (by omega) hi li.1).up (by omega)
  · split
    · exact (y_go_br hW hv hb (by omega) hi (by omega)).up (by omega)
    · exact hb.up (by omega)
theorem y_rl_br {b g q k : Nat → Nat} {s red : Nat} (hW : y_W b) (hv : y_vg b s g) : ∀ m i R, i + m ≤ s → y_br b R (2 * i) → y_br b (y_rl b g q k red m i R) (2 * (i + m)) := by
  have hs := hv.1
  intro m
  induction m with
  | zero => intro i R _ h; exact h
  | succ m ih =>
    intro i R h hb
    unfold y_rl
    rw [show i + (m + 1) = i + 1 + m from by omega]
    refine ih (i + 1) _ (by omega) ?_
    split
    · exact y_gf_br (m := 2 * i) hW hv hb (by omega) (by omega)
    · exact hb.up (by omega)
theorem y_R0_br {b q : Nat → Nat} (hq : y_vq b q) : y_br b (y_R0 q) (2 * 0) := by
  have h := hq.2.2.2.2
  refine ⟨Nat.zero_le _, Nat.zero_le _, h, Nat.zero_le _, Nat.zero_le _, fun k hk => absurd hk (by show ¬ k < 0; omega), fun j => ?_, fun j => ?_⟩
  · unfold y_R0; rw [if_neg (by omega)]; omega
  · unfold y_R0; rw [if_neg (by omega)]; omega
theorem y_run_br {b g q k : Nat → Nat} {s red : Nat} (hW : y_W b) (hv : y_vg b s g) (hq : y_vq b q) : y_br b (y_run b g q k red s) 120 := by
  have hs := hv.1
  exact (y_rl_br hW hv s 0 _ (by omega) (y_R0_br hq)).up (by omega)
section C
variable {σ : j_G} {b g q k R : Nat → Nat} {s a m i : Nat} {hs : Int32}
theorem yc_am0 (hk : y_mk hs k) {h : Nat} (hh : h < 12) : f_X9_among (nI h) hs = nP (if k h = 1 then h + 1 else 0) := by
  obtain ⟨k1, k2⟩ := hk h hh
  unfold f_X9_among
  simp (disch := omega) only [y_lit, y_n1, nI_add, pk_mul, j_lt, j_b1_s, j_b2_s, j_b3_s, j_b0_s, y_bo, y_bo1, y_bo0, y_i0, y_i1, Classical.not_not, nI_clamp, y_ix, y_lt, y_le, y_eq, y_nP, y_nPs, y_ltP, y_ltQ, y_ltPP, y_eqP, y_eqQ, y_eqPP, if_pos, if_neg, ite_true, ite_false, not_true_eq_false, not_false_eq_true, and_true, true_and, and_false, false_and, or_true, true_or, or_false, false_or]
  rw [k1]
  by_cases e : k h = 1
  · simp (disch := omega) only [y_lit, y_n1, nI_add, pk_mul, j_lt, j_b1_s, j_b2_s, j_b3_s, j_b0_s, y_bo, y_bo1, y_bo0, y_i0, y_i1, Classical.not_not, nI_clamp, y_ix, y_lt, y_le, y_eq, y_nP, y_nPs, y_ltP, y_ltQ, y_ltPP, y_eqP, y_eqQ, y_eqPP, if_pos, if_neg, ite_true, ite_false, not_true_eq_false, not_false_eq_true, and_true, true_and, and_false, false_and, or_true, true_or, or_false, false_or]
  · simp (disch := omega) only [y_lit, y_n1, nI_add, pk_mul, j_lt, j_b1_s, j_b2_s, j_b3_s, j_b0_s, y_bo, y_bo1, y_bo0, y_i0, y_i1, Classical.not_not, nI_clamp, y_ix, y_lt, y_le, y_eq, y_nP, y_nPs, y_ltP, y_ltQ, y_ltPP, y_eqP, y_eqQ, y_eqPP, if_pos, if_neg, ite_true, ite_false, not_true_eq_false, not_false_eq_true, and_true, true_and, and_false, false_and, or_true, true_or, or_false, false_or]
theorem yc_am1 (hk : y_mk hs k) {o : Nat} (ho : o ≤ 12) : f_X9_among (nP o) hs = nP (if 0 < o ∧ k (o - 1) = 1 then o else 0) := by
  unfold f_X9_among
  by_cases z : o = 0
  · subst z; simp (disch := omega) only [y_lit, y_n1, nI_add, pk_mul, j_lt, j_b1_s, j_b2_s, j_b3_s, j_b0_s, y_bo, y_bo1, y_bo0, y_i0, y_i1, Classical.not_not, nI_clamp, y_ix, y_lt, y_le, y_eq, y_nP, y_nPs, y_ltP, y_ltQ, y_ltPP, y_eqP, y_eqQ, y_eqPP, if_pos, if_neg, ite_true, ite_false, not_true_eq_false, not_false_eq_true, and_true, true_and, and_false, false_and, or_true, true_or, or_false, false_or, Nat.lt_irrefl]
  · obtain ⟨o, rfl⟩ : ∃ o', o = o' + 1 := ⟨o - 1, by omega⟩
    obtain ⟨k1, k2⟩ := hk o (by omega)
    rw [y_nPs]
    simp (disch := omega) only [y_lit, y_n1, nI_add, pk_mul, j_lt, j_b1_s, j_b2_s, j_b3_s, j_b0_s, y_bo, y_bo1, y_bo0, y_i0, y_i1, Classical.not_not, nI_clamp, y_ix, y_lt, y_le, y_eq, y_nP, y_nPs, y_ltP, y_ltQ, y_ltPP, y_eqP, y_eqQ, y_eqPP, if_pos, if_neg, ite_true, ite_false, not_true_eq_false, not_false_eq_true, and_true, true_and, and_false, false_and, or_true, true_or, or_false, false_or, Nat.add_sub_cancel]
    rw [k1]
    by_cases e : k o = 1
    · simp (disch := omega) only [y_lit, y_n1, nI_add, pk_mul, j_lt, j_b1_s, j_b2_s, j_b3_s, j_b0_s, y_bo, y_bo1, y_bo0, y_i0, y_i1, Classical.not_not, nI_clamp, y_ix, y_lt, y_le, y_eq, y_nP, y_nPs, y_ltP, y_ltQ, y_ltPP, y_eqP, y_eqQ, y_eqPP, if_pos, if_neg, ite_true, ite_false, not_true_eq_false, not_false_eq_true, and_true, true_and, and_false, false_and, or_true, true_or, or_false, false_or]
    · simp (disch := omega) only [y_lit, y_n1, nI_add, pk_mul, j_lt, j_b1_s, j_b2_s, j_b3_s, j_b0_s, y_bo, y_bo1, y_bo0, y_i0, y_i1, Classical.not_not, nI_clamp, y_ix, y_lt, y_le, y_eq, y_nP, y_nPs, y_ltP, y_ltQ, y_ltPP, y_eqP, y_eqQ, y_eqPP, if_pos, if_neg, ite_true, ite_false, not_true_eq_false, not_false_eq_true, and_true, true_and, and_false, false_and, or_true, true_or, or_false, false_or]
theorem yc_go2 {x y : Nat} (hN : y_N σ b) (hW : y_W b) (h9 : 0 < b 9) (hc : y_cg σ b s g) (hv : y_vg b s g) (hp : y_cp σ a q) (ha : a < 30) (hq : y_vq b q) (hr : y_cr σ R s) (hb : y_br b R m) (hm : m + 1 < 120) (hi : i < s) (hx : x < y_ho b) (hy : y < y_ho b) : ∃ σ', (j_b2 (f_X9_strike 30 26 a 33 34 31 32 (nI i) (nI x) σ) fun v10 σ9 =>
  if (¬ v10 = nI 0) ∧ (¬ nI y = nP 0) then (j_b2 (f_X9_strike 30 26 a 33 34 31 32 (nI i) (nI y) σ9) fun v12 σ11 =>
  some σ11) else (some σ9)) = some σ' ∧ y_cr σ' (y_go2 b g q i x y R) s ∧ y_fr 30 34 σ σ' ∧ σ'.1 30 4 = σ.1 30 4 := by
  have h4 := hW.ho
  obtain ⟨σ1, e1, e2, e3, e4⟩ := yc_strike hN hW h9 hc hv hp ha hq hr hb (by omega) hi hx
  rw [e1]
  unfold y_go2
  by_cases h : y_at b q i x R ≤ y_last b i
  · have hc1 : y_cg σ1 b s g := by
      unfold y_cg at hc ⊢
      rw [(e3 22 (by omega)).1, (e3 23 (by omega)).1, (e3 24 (by omega)).1, (e3 25 (by omega)).1, (e3 26 (by omega)).1, (e3 27 (by omega)).1]
      exact hc
    have hp1 : y_cp σ1 a q := by unfold y_cp at hp ⊢; rw [(e3 a (by omega)).1]; exact hp
    obtain ⟨σ2, f1, f2, f3, f4⟩ := yc_strike (hN.fr e3 (by omega)) hW h9 hc1 hv hp1 ha hq e2 (y_go_br hW hv hb (by omega) hi hx) hm hi hy
    simp (disch := omega) only [y_lit, y_n1, nI_add, pk_mul, j_lt, j_b1_s, j_b2_s, j_b3_s, j_b0_s, y_bo, y_bo1, y_bo0, y_i0, y_i1, Classical.not_not, nI_clamp, y_ix, y_lt, y_le, y_eq, y_nP, y_nPs, y_ltP, y_ltQ, y_ltPP, y_eqP, y_eqQ, y_eqPP, if_pos, if_neg, ite_true, ite_false, not_true_eq_false, not_false_eq_true, and_true, true_and, and_false, false_and, or_true, true_or, or_false, false_or]
    rw [f1]
    exact ⟨σ2, rfl, f2, e3.trans f3, f4.trans e4⟩
  · rw [if_neg h, if_neg h]
    refine ⟨σ1, ?_, ?_, e3, e4⟩
    · simp (disch := omega) only [y_lit, y_n1, nI_add, pk_mul, j_lt, j_b1_s, j_b2_s, j_b3_s, j_b0_s, y_bo, y_bo1, y_bo0, y_i0, y_i1, Classical.not_not, nI_clamp, y_ix, y_lt, y_le, y_eq, y_nP, y_nPs, y_ltP, y_ltQ, y_ltPP, y_eqP, y_eqQ, y_eqPP, if_pos, if_neg, ite_true, ite_false, not_true_eq_false, not_false_eq_true, and_true, true_and, and_false, false_and, or_true, true_or, or_false, false_or]
    · unfold y_go at e2; rw [if_neg h] at e2; exact e2
theorem yc_go1 {x : Nat} (hN : y_N σ b) (hW : y_W b) (h9 : 0 < b 9) (hc : y_cg σ b s g) (hv : y_vg b s g) (hp : y_cp σ a q) (ha : a < 30) (hq : y_vq b q) (hr : y_cr σ R s) (hb : y_br b R m) (hm : m + 1 < 120) (hi : i < s) (hx : x < y_ho b) : ∃ σ', (j_b2 (f_X9_strike 30 26 a 33 34 31 32 (nI i) (nI x) σ) fun v10 σ9 =>
  if (¬ v10 = nI 0) ∧ False then (j_b2 (f_X9_strike 30 26 a 33 34 31 32 (nI i) (nP 0) σ9) fun v12 σ11 =>
  some σ11) else (some σ9)) = some σ' ∧ y_cr σ' (y_go b g q i x R) s ∧ y_fr 30 34 σ σ' ∧ σ'.1 30 4 = σ.1 30 4 := by
  obtain ⟨σ1, e1, e2, e3, e4⟩ := yc_strike hN hW h9 hc hv hp ha hq hr hb (by omega) hi hx
  rw [e1]
  refine ⟨σ1, ?_, e2, e3, e4⟩
  simp (disch := omega) only [y_lit, y_n1, nI_add, pk_mul, j_lt, j_b1_s, j_b2_s, j_b3_s, j_b0_s, y_bo, y_bo1, y_bo0, y_i0, y_i1, Classical.not_not, nI_clamp, y_ix, y_lt, y_le, y_eq, y_nP, y_nPs, y_ltP, y_ltQ, y_ltPP, y_eqP, y_eqQ, y_eqPP, if_pos, if_neg, ite_true, ite_false, not_true_eq_false, not_false_eq_true, and_true, true_and, and_false, false_and, or_true, true_or, or_false, false_or]
theorem yc_goFor (hN : y_N σ b) (hW : y_W b) (h9 : 0 < b 9) (hc : y_cg σ b s g) (hv : y_vg b s g) (hp : y_cp σ a q) (ha : a < 30) (hq : y_vq b q) (hk : y_mk hs k) (hr : y_cr σ R s) (hb : y_br b R m) (hm : m + 1 < 120) (hi : i < s) : ∃ σ', f_X9_goFor 23 24 30 26 a 33 34 31 32 (nI i) hs σ = some σ' ∧ y_cr σ' (y_gf b g q k i R) s ∧ y_fr 30 34 σ σ' ∧ σ'.1 30 4 = σ.1 30 4 := by
  have h4 := hW.ho
  have h60 := hv.1
  have li := hv.2 i hi
  have ci := hc.2 i hi
  have b2 := hb.2.2.1
  unfold f_X9_goFor y_gf
  rw [y_m1, y_lit]
  simp (disch := omega) only [nI_clamp, ci.1, ci.2.1, y_ix, j_lt, hr.1.2.2.1, yc_am0 hk, yc_am1 hk]
  generalize hA : g (3 * i) = A at *
  generalize hO : g (3 * i + 1) = O at *
  by_cases c1 : k A = 1
  · by_cases c2 : 0 < O ∧ k (O - 1) = 1
    · obtain ⟨O, rfl⟩ : ∃ o', O = o' + 1 := ⟨O - 1, by omega⟩
      rw [Nat.add_sub_cancel] at c2
      simp only [if_pos c1, if_pos c2, y_nPs, Nat.add_sub_cancel]
      rw [yc_apart hN hW h9 (a := R 2) (c := O) (by omega) (by omega), yc_apart hN hW h9 (a := R 2) (c := A) (by omega) (by omega)]
      have hx := y_ap_bd (b := b) (a := R 2) (c := O) (by omega) (by omega)
      have hy := y_ap_bd (b := b) (a := R 2) (c := A) (by omega) (by omega)
      by_cases c3 : y_ap b (R 2) A ≤ y_ap b (R 2) O
      · rw [if_pos c3]
        have e1 : ¬ nI A = nP 0 := by rw [y_eqQ (by omega) (by omega)]; omega
        have e2 : ¬ nI O = nP 0 := by rw [y_eqQ (by omega) (by omega)]; omega
        have e3 : ¬ nI (y_ap b (R 2) O) < nI (y_ap b (R 2) A) := by rw [y_lt (by omega) (by omega)]; omega
        simp only [y_lit, if_pos e1, if_pos e2, j_b1_s, if_neg e3, not_true_eq_false, if_false]
        exact yc_go2 hN hW h9 hc hv hp ha hq hr hb hm hi li.1 (by omega)
      · rw [if_neg c3]
        have e1 : ¬ nI A = nP 0 := by rw [y_eqQ (by omega) (by omega)]; omega
        have e2 : ¬ nI O = nP 0 := by rw [y_eqQ (by omega) (by omega)]; omega
        have e3 : nI (y_ap b (R 2) O) < nI (y_ap b (R 2) A) := by rw [y_lt (by omega) (by omega)]; omega
        simp only [y_lit, if_pos e1, if_pos e2, j_b1_s, if_pos e3]
        have e4 : ¬ nI 1 = nI 0 := by decide
        simp only [if_pos e4, if_pos e2]
        exact yc_go2 hN hW h9 hc hv hp ha hq hr hb hm hi (by omega) li.1
    · simp only [if_pos c1, if_neg c2, y_nPs]
      have e1 : ¬ nI A = nP 0 := by rw [y_eqQ (by omega) (by omega)]; omega
      simp only [y_lit, if_pos e1, j_b1_s, not_true_eq_false, if_false]
      exact yc_go1 hN hW h9 hc hv hp ha hq hr hb hm hi li.1
  · by_cases c2 : 0 < O ∧ k (O - 1) = 1
    · obtain ⟨O, rfl⟩ : ∃ o', O = o' + 1 := ⟨O - 1, by omega⟩
      rw [Nat.add_sub_cancel] at c2
      simp only [if_neg c1, if_pos c2, y_nPs, Nat.add_sub_cancel]
      have e2 : ¬ nI O = nP 0 := by rw [y_eqQ (by omega) (by omega)]; omega
      have e4 : ¬ nI 1 = nI 0 := by decide
      simp only [y_lit, not_true_eq_false, if_false, j_b1_s, if_pos e4, if_pos e2]
      exact yc_go1 (x := O) hN hW h9 hc hv hp ha hq hr hb hm hi (by omega)
    · simp only [if_neg c1, if_neg c2]
      have e4 : ¬ nI 1 = nI 0 := by decide
      simp only [y_lit, not_true_eq_false, if_false, j_b1_s, if_pos e4]
      exact ⟨σ, rfl, hr, y_fr.refl, rfl⟩
end C
/-! ===== all comings, the class ===== -/
theorem y_cg.fr {σ σ' : j_G} {b g : Nat → Nat} {s lo hi : Nat} (h : y_cg σ b s g) (hf : y_fr lo hi σ σ') (hl : 28 ≤ lo) : y_cg σ' b s g := by
  unfold y_cg at *
  rw [(hf 22 (by omega)).1, (hf 23 (by omega)).1, (hf 24 (by omega)).1, (hf 25 (by omega)).1, (hf 26 (by omega)).1, (hf 27 (by omega)).1]
  exact h
theorem y_cp.fr {σ σ' : j_G} {q : Nat → Nat} {a lo hi : Nat} (h : y_cp σ a q) (hf : y_fr lo hi σ σ') (hl : a < lo ∨ hi < a) : y_cp σ' a q := by
  unfold y_cp at *
  rw [(hf a hl).1]
  exact h
section C
variable {b g q k : Nat → Nat} {s a : Nat} {hs : Int32}
theorem yc_begin_l {R : Nat → Nat} (hsz : s ≤ 60) : ∀ m i n σ, i + m = s → m < n → σ.1 22 0 = nI s → (∀ j, j < i → σ.1 31 j = nP 0 ∧ σ.1 32 j = nI 0) → ∃ σ', p_X9_begin_30 22 31 32 n (nI i) σ = some σ' ∧ (∀ j, j < s → σ'.1 31 j = nP 0 ∧ σ'.1 32 j = nI 0) ∧ y_fr 31 32 σ σ' := by
  intro m
  induction m with
  | zero =>
    intro i n σ h hn h0 hj
    obtain ⟨n, rfl⟩ := y_pos hn
    refine ⟨σ, ?_, fun j hj' => hj j (by omega), y_fr.refl⟩
    unfold p_X9_begin_30; simp (disch := omega) only [y_lit, y_n1, nI_add, pk_mul, j_lt, j_b1_s, j_b2_s, j_b3_s, j_b0_s, y_bo, y_bo1, y_bo0, y_i0, y_i1, Classical.not_not, nI_clamp, y_ix, y_lt, y_le, y_eq, y_nP, y_nPs, y_ltP, y_ltQ, y_ltPP, y_eqP, y_eqQ, y_eqPP, if_pos, if_neg, ite_true, ite_false, not_true_eq_false, not_false_eq_true, and_true, true_and, and_false, false_and, or_true, true_or, or_false, false_or, h0]
  | succ m ih =>
    intro i n σ h hn h0 hj
    obtain ⟨n, rfl⟩ := y_pos hn
    unfold p_X9_begin_30; simp (disch := omega) only [y_lit, y_n1, nI_add, pk_mul, j_lt, j_b1_s, j_b2_s, j_b3_s, j_b0_s, y_bo, y_bo1, y_bo0, y_i0, y_i1, Classical.not_not, nI_clamp, y_ix, y_lt, y_le, y_eq, y_nP, y_nPs, y_ltP, y_ltQ, y_ltPP, y_eqP, y_eqQ, y_eqPP, if_pos, if_neg, ite_true, ite_false, not_true_eq_false, not_false_eq_true, and_true, true_and, and_false, false_and, or_true, true_or, or_false, false_or, h0]
    have f : y_fr 31 32 σ (j_si (j_si σ 31 i (nP 0)) 32 i (nI 0)) := (y_fr.refl.si (by omega) (by omega)).si (by omega) (by omega)
    obtain ⟨σ', g1, g2, g3⟩ := ih (i + 1) n (j_si (j_si σ 31 i (nP 0)) 32 i (nI 0)) (by omega) (by omega) (by simp (disch := omega) only [j_r_ne, j_r_eq, j_r_nj, h0]) (fun j hj' => by
      by_cases e : j = i
      · subst e; simp (disch := omega) only [j_r_ne, j_r_eq, j_r_nj]; exact ⟨trivial, trivial⟩
      · have := hj j (by omega); simp (disch := omega) only [j_r_ne, j_r_eq, j_r_nj]; exact this)
    exact ⟨σ', g1, g2, f.trans g3⟩
theorem yc_begin {σ : j_G} (hsz : s ≤ 60) (ha : a < 30) (h0 : σ.1 22 0 = nI s) (hp : y_cp σ a q) : ∃ σ', f_X9_begin 30 a 22 31 32 σ = some σ' ∧ y_cr σ' (y_R0 q) s ∧ σ'.1 30 4 = nI 0 ∧ y_fr 30 34 σ σ' := by
  have e4 := hp 4 (by omega)
  unfold f_X9_begin
  simp (disch := omega) only [y_lit, y_n1, nI_add, pk_mul, j_lt, j_b1_s, j_b2_s, j_b3_s, j_b0_s, y_bo, y_bo1, y_bo0, y_i0, y_i1, Classical.not_not, nI_clamp, y_ix, y_lt, y_le, y_eq, y_nP, y_nPs, y_ltP, y_ltQ, y_ltPP, y_eqP, y_eqQ, y_eqPP, if_pos, if_neg, ite_true, ite_false, not_true_eq_false, not_false_eq_true, and_true, true_and, and_false, false_and, or_true, true_or, or_false, false_or, j_r_ne, j_r_eq, j_r_nj, e4]
  have f : y_fr 30 34 σ (j_si (j_si (j_si (j_si (j_si σ 30 0 (nI 0)) 30 4 (nI 0)) 30 1 (nI 0)) 30 8 (nI 0)) 30 7 (nI (q 4))) := (((((y_fr.refl.si (by omega) (by omega)).si (by omega) (by omega)).si (by omega) (by omega)).si (by omega) (by omega)).si (by omega) (by omega))
  obtain ⟨σ', g1, g2, g3⟩ := yc_begin_l (R := q) hsz s 0 j_F (j_si (j_si (j_si (j_si (j_si σ 30 0 (nI 0)) 30 4 (nI 0)) 30 1 (nI 0)) 30 8 (nI 0)) 30 7 (nI (q 4))) (by omega) (y_F (by omega)) (by simp (disch := omega) only [j_r_ne, j_r_eq, j_r_nj, h0]) (fun j hj => absurd hj (by omega))
  rw [g1]
  refine ⟨σ', rfl, ⟨⟨?_, ?_, ?_, ?_⟩, fun j hj => absurd hj (Nat.not_lt_zero _), fun j hj => ?_⟩, ?_, f.trans (g3.wide (by omega) (by omega))⟩
  · rw [g3.i 30 0 (by omega)]; simp (disch := omega) only [j_r_ne, j_r_eq, j_r_nj]; rfl
  · rw [g3.i 30 1 (by omega)]; simp (disch := omega) only [j_r_ne, j_r_eq, j_r_nj]; rfl
  · rw [g3.i 30 7 (by omega)]; simp (disch := omega) only [j_r_ne, j_r_eq, j_r_nj]; rfl
  · rw [g3.i 30 8 (by omega)]; simp (disch := omega) only [j_r_ne, j_r_eq, j_r_nj]; rfl
  · have z1 : y_R0 q (1000 + 2 * j) = 0 := by unfold y_R0; rw [if_neg (by omega)]
    have z2 : y_R0 q (1001 + 2 * j) = 0 := by unfold y_R0; rw [if_neg (by omega)]
    rw [z1, z2]; exact g2 j hj
  · rw [g3.i 30 4 (by omega)]; simp (disch := omega) only [j_r_ne, j_r_eq, j_r_nj]
theorem yc_good_l (hW : y_W b) (h9 : 0 < b 9) (hv : y_vg b s g) (ha : a < 30) (hq : y_vq b q) (hk : y_mk hs k) : ∀ m i n σ R, i + m = s → m < n → y_N σ b → y_cg σ b s g → y_cp σ a q → y_cr σ R s → y_br b R (2 * i) → ∃ σ', p_X9_good_9 22 25 23 24 30 26 a 33 34 31 32 hs n (nI i) σ = some σ' ∧ y_cr σ' (y_rl b g q k 0 m i R) s ∧ y_fr 30 34 σ σ' := by
  have h60 := hv.1
  intro m
  induction m with
  | zero =>
    intro i n σ R h hn hN hc hp hr hb
    obtain ⟨n, rfl⟩ := y_pos hn
    refine ⟨σ, ?_, hr, y_fr.refl⟩
    unfold p_X9_good_9; simp (disch := omega) only [y_lit, y_n1, nI_add, pk_mul, j_lt, j_b1_s, j_b2_s, j_b3_s, j_b0_s, y_bo, y_bo1, y_bo0, y_i0, y_i1, Classical.not_not, nI_clamp, y_ix, y_lt, y_le, y_eq, y_nP, y_nPs, y_ltP, y_ltQ, y_ltPP, y_eqP, y_eqQ, y_eqPP, if_pos, if_neg, ite_true, ite_false, not_true_eq_false, not_false_eq_true, and_true, true_and, and_false, false_and, or_true, true_or, or_false, false_or, hc.1]
  | succ m ih =>
    intro i n σ R h hn hN hc hp hr hb
    obtain ⟨n, rfl⟩ := y_pos hn
    have ci := (hc.2 i (by omega)).2.2.1
    have vi := (hv.2 i (by omega)).2.2.2.1
    unfold p_X9_good_9 y_rl
    simp (disch := omega) only [y_lit, y_n1, nI_add, pk_mul, j_lt, j_b1_s, j_b2_s, j_b3_s, j_b0_s, y_bo, y_bo1, y_bo0, y_i0, y_i1, Classical.not_not, nI_clamp, y_ix, y_lt, y_le, y_eq, y_nP, y_nPs, y_ltP, y_ltQ, y_ltPP, y_eqP, y_eqQ, y_eqPP, if_pos, if_neg, ite_true, ite_false, not_true_eq_false, not_false_eq_true, and_true, true_and, and_false, false_and, or_true, true_or, or_false, false_or, hc.1, ci]
    by_cases e : g (3 * i + 2) = 0
    · obtain ⟨σ1, f1, f2, f3, _⟩ := yc_goFor hN hW h9 hc hv hp ha hq hk hr hb (by omega) (show i < s by omega)
      rw [if_pos (Or.inl e)]
      simp (disch := omega) only [y_lit, y_n1, nI_add, pk_mul, j_lt, j_b1_s, j_b2_s, j_b3_s, j_b0_s, y_bo, y_bo1, y_bo0, y_i0, y_i1, Classical.not_not, nI_clamp, y_ix, y_lt, y_le, y_eq, y_nP, y_nPs, y_ltP, y_ltQ, y_ltPP, y_eqP, y_eqQ, y_eqPP, if_pos, if_neg, ite_true, ite_false, not_true_eq_false, not_false_eq_true, and_true, true_and, and_false, false_and, or_true, true_or, or_false, false_or]
      rw [f1]
      obtain ⟨σ', g1, g2, g3⟩ := ih (i + 1) n σ1 (y_gf b g q k i R) (by omega) (by omega) (hN.fr f3 (by omega)) (hc.fr f3 (by omega)) (hp.fr f3 (by omega)) f2 (y_gf_br (m := 2 * i) hW hv hb (by omega) (by omega))
      exact ⟨σ', g1, g2, f3.trans g3⟩
    · rw [if_neg (fun z : g (3 * i + 2) = 0 ∨ 0 = 1 => by omega)]
      simp (disch := omega) only [y_lit, y_n1, nI_add, pk_mul, j_lt, j_b1_s, j_b2_s, j_b3_s, j_b0_s, y_bo, y_bo1, y_bo0, y_i0, y_i1, Classical.not_not, nI_clamp, y_ix, y_lt, y_le, y_eq, y_nP, y_nPs, y_ltP, y_ltQ, y_ltPP, y_eqP, y_eqQ, y_eqPP, if_pos, if_neg, ite_true, ite_false, not_true_eq_false, not_false_eq_true, and_true, true_and, and_false, false_and, or_true, true_or, or_false, false_or]
      exact ih (i + 1) n σ R (by omega) (by omega) hN hc hp hr (hb.up (by omega))
theorem yc_good {σ : j_G} (hN : y_N σ b) (hW : y_W b) (h9 : 0 < b 9) (hc : y_cg σ b s g) (hv : y_vg b s g) (hp : y_cp σ a q) (ha : a < 30) (hq : y_vq b q) (hk : y_mk hs k) : ∃ σ', f_X9_good 30 a 22 31 32 25 23 24 26 33 34 hs σ = some (nI (y_run b g q k 0 s 0), σ') ∧ y_cr σ' (y_run b g q k 0 s) s ∧ y_fr 30 34 σ σ' := by
  have h60 := hv.1
  obtain ⟨σ1, f1, f2, _, f3⟩ := yc_begin hv.1 ha hc.1 hp
  obtain ⟨σ2, g1, g2, g3⟩ := yc_good_l hW h9 hv ha hq hk s 0 j_F σ1 (y_R0 q) (by omega) (y_F (by omega)) (hN.fr f3 (by omega)) (hc.fr f3 (by omega)) (hp.fr f3 (by omega)) f2 (y_R0_br hq)
  unfold f_X9_good
  rw [f1]
  simp only [j_b1_s, y_lit]
  rw [g1]
  refine ⟨σ2, ?_, g2, f3.trans g3⟩
  rw [j_b1_s, g2.1.1]
  rfl
end C
/-- what a coming's going changes -/
def y_pr (r i : Nat) (R R' : Nat → Nat) : Prop := (r = 0 → R' 4 = R 4) ∧ (r = 1 → R' 4 + R (1001 + 2 * i) = R 4 + R' (1001 + 2 * i)) ∧ ∀ j, j ≠ i → R' (1001 + 2 * j) = R (1001 + 2 * j) ∧ R' (1000 + 2 * j) = R (1000 + 2 * j)
theorem y_pr.refl {r i : Nat} {R : Nat → Nat} : y_pr r i R R := ⟨fun _ => rfl, fun _ => rfl, fun _ _ => ⟨rfl, rfl⟩⟩
theorem y_pr.trans {r i : Nat} {R R' R'' : Nat → Nat} (h : y_pr r i R R') (h' : y_pr r i R' R'') : y_pr r i R R'' :=
  ⟨fun z => (h'.1 z).trans (h.1 z), fun z => by have := h.2.1 z; have := h'.2.1 z; omega, fun j hj => ⟨(h'.2.2 j hj).1.trans (h.2.2 j hj).1, (h'.2.2 j hj).2.trans (h.2.2 j hj).2⟩⟩
theorem y_go_pr {b g q R : Nat → Nat} {i to m : Nat} (hb : y_br b R m) (hm : m < 200) (hi : i < 60) : y_pr (g (3 * i + 2)) i R (y_go b g q i to R) := by
  have h0 := hb.1
  unfold y_go
  split
  · unfold y_set
    refine ⟨fun z => ?_, fun z => ?_, fun j hj => ⟨?_, ?_⟩⟩
    · simp (disch := omega) only [y_ue, y_un, z]; omega
    · simp (disch := omega) only [y_ue, y_un, z]; omega
    · simp (disch := omega) only [y_ue, y_un]
    · simp (disch := omega) only [y_ue, y_un]
  · exact y_pr.refl
theorem y_go2_pr {b g q R : Nat → Nat} {s i to th m : Nat} (hW : y_W b) (hv : y_vg b s g) (hb : y_br b R m) (hm : m + 1 < 120) (hi : i < s) (hto : to < y_ho b) : y_pr (g (3 * i + 2)) i R (y_go2 b g q i to th R) := by
  have h60 := hv.1
  unfold y_go2
  split
  · exact (y_go_pr hb (by omega) (by omega)).trans (y_go_pr (y_go_br hW hv hb (by omega) hi hto) (by omega) (by omega))
  · exact y_pr.refl
theorem y_gf_pr {b g q k R : Nat → Nat} {s i m : Nat} (hW : y_W b) (hv : y_vg b s g) (hb : y_br b R m) (hm : m + 1 < 120) (hi : i < s) : y_pr (g (3 * i + 2)) i R (y_gf b g q k i R) := by
  have h60 := hv.1
  have li := hv.2 i hi
  unfold y_gf
  split
  · split
    · split
      · exact y_go2_pr hW hv hb hm hi li.1
      · exact y_go2_pr hW hv hb hm hi (by omega)
    · exact y_go_pr hb (by omega) (by omega)
  · split
    · exact y_go_pr hb (by omega) (by omega)
    · exact y_pr.refl
section C
variable {b g q k : Nat → Nat} {s a : Nat} {hs : Int32}
theorem yc_rash_l (hW : y_W b) (h9 : 0 < b 9) (hv : y_vg b s g) (hq : y_vq b q) (hk : y_mk (nP 0) k) : ∀ m i n σ R, i + m = s → m < n → y_N σ b → y_cg σ b s g → y_cp σ 28 q → y_cr σ R s → σ.1 30 4 = nI (R 4) → (∀ j, i ≤ j → R (1001 + 2 * j) = 0) → y_br b R (2 * i) → ∃ σ', p_X9_rashPoints_9 n (nI i) σ = some σ' ∧ y_cr σ' (y_rl b g q k 1 m i R) s ∧ σ'.1 30 4 = nI (y_rl b g q k 1 m i R 4) ∧ y_fr 30 34 σ σ' := by
  have h60 := hv.1
  intro m
  induction m with
  | zero =>
    intro i n σ R h hn hN hc hp hr h4 hz hb
    obtain ⟨n, rfl⟩ := y_pos hn
    refine ⟨σ, ?_, hr, h4, y_fr.refl⟩
    unfold p_X9_rashPoints_9; simp (disch := omega) only [y_lit, y_n1, nI_add, pk_mul, j_lt, j_b1_s, j_b2_s, j_b3_s, j_b0_s, y_bo, y_bo1, y_bo0, y_i0, y_i1, Classical.not_not, nI_clamp, y_ix, y_lt, y_le, y_eq, y_nP, y_nPs, y_ltP, y_ltQ, y_ltPP, y_eqP, y_eqQ, y_eqPP, if_pos, if_neg, ite_true, ite_false, not_true_eq_false, not_false_eq_true, and_true, true_and, and_false, false_and, or_true, true_or, or_false, false_or, hc.1]
  | succ m ih =>
    intro i n σ R h hn hN hc hp hr h4 hz hb
    obtain ⟨n, rfl⟩ := y_pos hn
    have ci := (hc.2 i (by omega)).2.2.1
    have vi := (hv.2 i (by omega)).2.2.2.1
    obtain ⟨σ1, f1, f2, f3, f4⟩ := yc_goFor hN hW h9 hc hv hp (by omega) hq hk hr hb (by omega) (show i < s by omega)
    have pr := y_gf_pr (q := q) (k := k) (i := i) hW hv hb (by omega) (by omega)
    have br := y_gf_br (m := 2 * i) (q := q) (k := k) (i := i) hW hv hb (by omega) (by omega)
    have c1 := hc.fr f3 (by omega)
    have e25 := (c1.2 i (by omega)).2.2.1
    have e32 := (f2.2.2 i (by omega)).2
    have z0 := hz i (by omega)
    unfold p_X9_rashPoints_9 y_rl
    rw [y_m1]
    simp (disch := omega) only [y_lit, y_n1, nI_add, pk_mul, j_lt, j_b1_s, j_b2_s, j_b3_s, j_b0_s, y_bo, y_bo1, y_bo0, y_i0, y_i1, Classical.not_not, nI_clamp, y_ix, y_lt, y_le, y_eq, y_nP, y_nPs, y_ltP, y_ltQ, y_ltPP, y_eqP, y_eqQ, y_eqPP, if_pos, if_neg, ite_true, ite_false, not_true_eq_false, not_false_eq_true, and_true, true_and, and_false, false_and, or_true, true_or, or_false, false_or, hc.1]
    rw [f1]
    simp (disch := omega) only [y_lit, y_n1, nI_add, pk_mul, j_lt, j_b1_s, j_b2_s, j_b3_s, j_b0_s, y_bo, y_bo1, y_bo0, y_i0, y_i1, Classical.not_not, nI_clamp, y_ix, y_lt, y_le, y_eq, y_nP, y_nPs, y_ltP, y_ltQ, y_ltPP, y_eqP, y_eqQ, y_eqPP, if_pos, if_neg, ite_true, ite_false, not_true_eq_false, not_false_eq_true, and_true, true_and, and_false, false_and, or_true, true_or, or_false, false_or, e25, f4, h4, e32]
    have zz : ∀ j, i + 1 ≤ j → y_gf b g q k i R (1001 + 2 * j) = 0 := fun j hj => by rw [(pr.2.2 j (by omega)).1]; exact hz j (by omega)
    by_cases e : g (3 * i + 2) = 0
    · simp (disch := omega) only [y_lit, y_n1, nI_add, pk_mul, j_lt, j_b1_s, j_b2_s, j_b3_s, j_b0_s, y_bo, y_bo1, y_bo0, y_i0, y_i1, Classical.not_not, nI_clamp, y_ix, y_lt, y_le, y_eq, y_nP, y_nPs, y_ltP, y_ltQ, y_ltPP, y_eqP, y_eqQ, y_eqPP, if_pos, if_neg, ite_true, ite_false, not_true_eq_false, not_false_eq_true, and_true, true_and, and_false, false_and, or_true, true_or, or_false, false_or]
      have p4 := pr.1 e
      obtain ⟨σ', g1, g2, g3, g4⟩ := ih (i + 1) n σ1 (y_gf b g q k i R) (by omega) (by omega) (hN.fr f3 (by omega)) c1 (hp.fr f3 (by omega)) f2 (by rw [f4, h4, p4]) zz br
      exact ⟨σ', g1, g2, g3, f3.trans g4⟩
    · simp (disch := omega) only [y_lit, y_n1, nI_add, pk_mul, j_lt, j_b1_s, j_b2_s, j_b3_s, j_b0_s, y_bo, y_bo1, y_bo0, y_i0, y_i1, Classical.not_not, nI_clamp, y_ix, y_lt, y_le, y_eq, y_nP, y_nPs, y_ltP, y_ltQ, y_ltPP, y_eqP, y_eqQ, y_eqPP, if_pos, if_neg, ite_true, ite_false, not_true_eq_false, not_false_eq_true, and_true, true_and, and_false, false_and, or_true, true_or, or_false, false_or]
      have p4 := pr.2.1 (by omega)
      have fr : y_fr 30 34 σ1 (j_si σ1 30 4 (nI (R 4 + y_gf b g q k i R (1001 + 2 * i)))) := y_fr.refl.si (by omega) (by omega)
      have fc : y_cr (j_si σ1 30 4 (nI (R 4 + y_gf b g q k i R (1001 + 2 * i)))) (y_gf b g q k i R) s := by
        obtain ⟨⟨r0, r1, r2, r3⟩, rk, ri⟩ := f2
        refine ⟨⟨?_, ?_, ?_, ?_⟩, fun j hj => ?_, fun j hj => ?_⟩
        · simp (disch := omega) only [j_r_ne, j_r_eq, j_r_nj]; exact r0
        · simp (disch := omega) only [j_r_ne, j_r_eq, j_r_nj]; exact r1
        · simp (disch := omega) only [j_r_ne, j_r_eq, j_r_nj]; exact r2
        · simp (disch := omega) only [j_r_ne, j_r_eq, j_r_nj]; exact r3
        · simp (disch := omega) only [j_r_ne, j_r_eq, j_r_nj]; exact rk j hj
        · simp (disch := omega) only [j_r_ne, j_r_eq, j_r_nj]; exact ri j hj
      obtain ⟨σ', g1, g2, g3, g4⟩ := ih (i + 1) n _ (y_gf b g q k i R) (by omega) (by omega) ((hN.fr f3 (by omega)).fr fr (by omega)) (c1.fr fr (by omega)) ((hp.fr f3 (by omega)).fr fr (by omega)) fc (by rw [j_r_eq]; congr 1; omega) zz br
      exact ⟨σ', g1, g2, g3, (f3.trans fr).trans g4⟩
theorem yc_rash {σ : j_G} (hN : y_N σ b) (hW : y_W b) (h9 : 0 < b 9) (hc : y_cg σ b s g) (hv : y_vg b s g) (hp : y_cp σ 28 q) (hq : y_vq b q) (hk : y_mk (nP 0) k) : ∃ σ', f_X9_rashPoints σ = some (nI 10 * (nI (y_run b g q k 1 s 0) - nI (y_run b g q k 1 s 4)) - nI 20 * nI (y_run b g q k 1 s 4), σ') ∧ y_fr 30 34 σ σ' := by
  have h60 := hv.1
  obtain ⟨σ1, f1, f2, f4, f3⟩ := yc_begin hv.1 (by omega) hc.1 hp
  obtain ⟨σ2, g1, g2, g4, g3⟩ := yc_rash_l hW h9 hv hq hk s 0 j_F σ1 (y_R0 q) (by omega) (y_F (by omega)) (hN.fr f3 (by omega)) (hc.fr f3 (by omega)) (hp.fr f3 (by omega)) f2 (by rw [f4]; rfl) (fun j _ => by unfold y_R0; rw [if_neg (by omega)]) (y_R0_br hq)
  unfold f_X9_rashPoints
  rw [f1]
  simp only [j_b1_s, y_lit]
  rw [g1]
  refine ⟨σ2, ?_, f3.trans g3⟩
  rw [j_b1_s, g2.1.1, g4]
  rfl
end C
/-! ===== a run of the reference ===== -/
theorem ym_steps_si {x y v : Int32} {c j : Nat} {σ : j_G} (hc : c ≠ 76) : f_X12_stepsOf x y (j_si σ c j v) = f_X12_stepsOf x y σ := by
  unfold f_X12_stepsOf
  have e : ∀ j', (j_si σ c j v).1 76 j' = σ.1 76 j' := fun j' => j_r_ne (fun z => hc z.symm)
  simp only [e]
theorem y_mg.fr {τ τ' : j_G} {b g : Nat → Nat} {s f h lo hi : Nat} (hg : y_mg τ b s g) (hf : y_fm f h lo hi τ τ') (hl : 19 ≤ f) (hl2 : 85 ≤ lo) : y_mg τ' b s g := by
  unfold y_mg at *
  rw [(hf.2 82 (by omega) (by omega)).1, (hf.2 83 (by omega) (by omega)).1, (hf.2 84 (by omega) (by omega)).1, hf.1 18 (by omega)]
  exact hg
theorem y_mp.fr {τ τ' : j_G} {b q : Nat → Nat} {p f h lo hi : Nat} (hg : y_mp τ b p q) (hf : y_fm f h lo hi τ τ') (hl : 25 ≤ f) : y_mp τ' b p q := by
  unfold y_mp at *
  rw [hf.1 19 (by omega), hf.1 20 (by omega), hf.1 21 (by omega), hf.1 22 (by omega)]
  exact hg
section M
variable {τ : j_G} {b g q R k : Nat → Nat} {s p m i to : Nat}
theorem ym_pace (hM : y_M τ b) (hW : y_W b) (hp : p < b 6) (h0 : b (96 + 5 * p) = q 0) (h2 : b (98 + 5 * p) = q 2) (hq : y_vq b q) {t : Nat} (ht : t < 2 ^ 30) : f_X12_paceIn (nI p) (nI t) τ = some (nI (y_pc q t)) := by
  have h6 := hW.b6
  have q0 := hq.1; have q2 := hq.2.2.1
  have e0 := ym_of hM (p := p) (q := 0) (by omega) (by omega)
  have e2 := ym_of hM (p := p) (q := 2) (by omega) (by omega)
  rw [Nat.add_zero, h0] at e0
  rw [show 96 + 5 * p + 2 = 98 + 5 * p from by omega, h2] at e2
  have := Nat.div_le_self t (q 2)
  unfold f_X12_paceIn y_pc; simp (disch := omega) only [y_lit, y_n1, nI_add, pk_mul, j_lt, j_b1_s, j_b2_s, j_b3_s, j_b0_s, y_bo, y_bo1, y_bo0, y_i0, y_i1, Classical.not_not, nI_clamp, y_ix, y_lt, y_le, y_eq, y_nP, y_nPs, y_ltP, y_ltQ, y_ltPP, y_eqP, y_eqQ, y_eqPP, if_pos, if_neg, ite_true, ite_false, not_true_eq_false, not_false_eq_true, and_true, true_and, and_false, false_and, or_true, true_or, or_false, false_or, e0, e2]
  by_cases z : q 2 = 0
  · simp (disch := omega) only [z, Nat.div_zero, Nat.add_zero, y_lit, y_n1, nI_add, pk_mul, j_lt, j_b1_s, j_b2_s, j_b3_s, j_b0_s, y_bo, y_bo1, y_bo0, y_i0, y_i1, Classical.not_not, nI_clamp, y_ix, y_lt, y_le, y_eq, y_nP, y_nPs, y_ltP, y_ltQ, y_ltPP, y_eqP, y_eqQ, y_eqPP, if_pos, if_neg, ite_true, ite_false, not_true_eq_false, not_false_eq_true, and_true, true_and, and_false, false_and, or_true, true_or, or_false, false_or]
  · simp (disch := omega) only [y_lit, y_n1, nI_add, pk_mul, j_lt, j_b1_s, j_b2_s, j_b3_s, j_b0_s, y_bo, y_bo1, y_bo0, y_i0, y_i1, Classical.not_not, nI_clamp, y_ix, y_lt, y_le, y_eq, y_nP, y_nPs, y_ltP, y_ltQ, y_ltPP, y_eqP, y_eqQ, y_eqPP, if_pos, if_neg, ite_true, ite_false, not_true_eq_false, not_false_eq_true, and_true, true_and, and_false, false_and, or_true, true_or, or_false, false_or, pk_div]
theorem ym_awareOf (hg : y_mg τ b s g) (hv : y_vg b s g) (hp : y_mp τ b p q) (hq : y_vq b q) (hW : y_W b) (hi : i < s) : f_X12_awareOf (nI i) τ = some (nI (y_aw b q i)) := by
  have hs := hv.1
  have h2 := hW.b2
  have h1 := hq.2.1; have h3 := hq.2.2.2.1
  have e1 := hp.2.1; have e3 := hp.2.2.1
  have ei := (hg.2 i hi).2.2.2.1
  have li := (hv.2 i hi).2.2.2.2.2
  have le := y_last_le hW i
  unfold f_X12_awareOf y_aw
  simp (disch := omega) only [y_lit, y_n1, nI_add, pk_mul, j_lt, j_b1_s, j_b2_s, j_b3_s, j_b0_s, y_bo, y_bo1, y_bo0, y_i0, y_i1, Classical.not_not, nI_clamp, y_ix, y_lt, y_le, y_eq, y_nP, y_nPs, y_ltP, y_ltQ, y_ltPP, y_eqP, y_eqQ, y_eqPP, if_pos, if_neg, ite_true, ite_false, not_true_eq_false, not_false_eq_true, and_true, true_and, and_false, false_and, or_true, true_or, or_false, false_or, e1, e3, ei]
  by_cases z : q 3 = 0
  · simp (disch := omega) only [y_lit, y_n1, nI_add, pk_mul, j_lt, j_b1_s, j_b2_s, j_b3_s, j_b0_s, y_bo, y_bo1, y_bo0, y_i0, y_i1, Classical.not_not, nI_clamp, y_ix, y_lt, y_le, y_eq, y_nP, y_nPs, y_ltP, y_ltQ, y_ltPP, y_eqP, y_eqQ, y_eqPP, if_pos, if_neg, ite_true, ite_false, not_true_eq_false, not_false_eq_true, and_true, true_and, and_false, false_and, or_true, true_or, or_false, false_or]
  · by_cases y : i < q 3
    · simp (disch := omega) only [y_lit, y_n1, nI_add, pk_mul, j_lt, j_b1_s, j_b2_s, j_b3_s, j_b0_s, y_bo, y_bo1, y_bo0, y_i0, y_i1, Classical.not_not, nI_clamp, y_ix, y_lt, y_le, y_eq, y_nP, y_nPs, y_ltP, y_ltQ, y_ltPP, y_eqP, y_eqQ, y_eqPP, if_pos, if_neg, ite_true, ite_false, not_true_eq_false, not_false_eq_true, and_true, true_and, and_false, false_and, or_true, true_or, or_false, false_or, y_pI]
    · have ej := (hg.2 (i - q 3) (by omega)).2.2.2.1
      have lj := (hv.2 (i - q 3) (by omega)).2.2.2.2.2
      have lf := y_last_le hW (i - q 3)
      simp (disch := omega) only [y_lit, y_n1, nI_add, pk_mul, j_lt, j_b1_s, j_b2_s, j_b3_s, j_b0_s, y_bo, y_bo1, y_bo0, y_i0, y_i1, Classical.not_not, nI_clamp, y_ix, y_lt, y_le, y_eq, y_nP, y_nPs, y_ltP, y_ltQ, y_ltPP, y_eqP, y_eqQ, y_eqPP, if_pos, if_neg, ite_true, ite_false, not_true_eq_false, not_false_eq_true, and_true, true_and, and_false, false_and, or_true, true_or, or_false, false_or, pk_sub, ej, y_pI]
theorem ym_goes (hM : y_M τ b) (hW : y_W b) (h9 : 0 < b 9) (hg : y_mg τ b s g) (hv : y_vg b s g) (hp : y_mp τ b p q) (hq : y_vq b q) (hr : y_mr τ R (i + 1)) (hb : y_br b R m) (hm : m < 120) (hi : i < s) (hto : to < y_ho b) : ∃ τ', f_X12_goes (nI i) (nI to) τ = some ((if y_at b q i to R ≤ y_last b i then nI 1 else nI 0), τ') ∧ y_mr τ' (y_go b g q i to R) (i + 1) ∧ y_fm 29 33 85 88 τ τ' := by
  have hs := hv.1
  have h2 := hW.b2
  have h4 := hW.ho
  have h6 := hW.b6
  have li := (hv.2 i hi).2.2.2.2.2
  have ri1 := (hv.2 i hi).2.2.2.1
  have le := y_last_le hW i
  obtain ⟨b0, b1, b2, b3, b4, b5, b6, b7⟩ := id hb
  obtain ⟨k1, k2, k3⟩ := y_at_bd hW hq hb hto (i := i) (by omega)
  have h1 := y_aw_bd hq (i := i)
  obtain ⟨⟨r0, r1, r2, r3, r4⟩, rk, ri⟩ := id hr
  have rb := b7 i
  have gi := hg.2 i hi
  have h5 := y_ap_bd (b := b) (a := R 2) (c := to) (by omega) (by omega)
  unfold f_X12_goes
  rw [ym_awareOf hg hv hp hq hW hi, r3, r2, hp.1]
  simp (disch := omega) only [y_lit, y_n1, nI_add, pk_mul, j_lt, j_b1_s, j_b2_s, j_b3_s, j_b0_s, y_bo, y_bo1, y_bo0, y_i0, y_i1, Classical.not_not, nI_clamp, y_ix, y_lt, y_le, y_eq, y_nP, y_nPs, y_ltP, y_ltQ, y_ltPP, y_eqP, y_eqQ, y_eqPP, if_pos, if_neg, ite_true, ite_false, not_true_eq_false, not_false_eq_true, and_true, true_and, and_false, false_and, or_true, true_or, or_false, false_or, y_mxI]
  rw [ym_stepsOf hM hW h9 (by omega) (by omega)]
  simp (disch := omega) only [y_lit, y_n1, nI_add, pk_mul, j_lt, j_b1_s, j_b2_s, j_b3_s, j_b0_s, y_bo, y_bo1, y_bo0, y_i0, y_i1, Classical.not_not, nI_clamp, y_ix, y_lt, y_le, y_eq, y_nP, y_nPs, y_ltP, y_ltQ, y_ltPP, y_eqP, y_eqQ, y_eqPP, if_pos, if_neg, ite_true, ite_false, not_true_eq_false, not_false_eq_true, and_true, true_and, and_false, false_and, or_true, true_or, or_false, false_or]
  rw [ym_pace hM hW hp.2.2.2.2.1 hp.2.2.2.2.2.1 hp.2.2.2.2.2.2 hq (by omega)]
  have eth : y_mx (R 3) (y_aw b q i) + y_ap b (R 2) to * y_pc q (y_mx (R 3) (y_aw b q i)) = y_th b q (R 2) to (y_mx (R 3) (y_aw b q i)) := rfl
  simp (disch := omega) only [nI_add, pk_mul, j_lt, j_b1_s, gi, y_lt, eth, y_mxI, nI_clamp, y_ix]
  rw [show y_mx (y_th b q (R 2) to (y_mx (R 3) (y_aw b q i))) (y_from b i) = y_at b q i to R from rfl]
  unfold y_go
  generalize y_at b q i to R = t at *
  by_cases h : t ≤ y_last b i
  · simp only [if_pos h]
    have e2 := (ri i (by omega)).2
    unfold f_X12_inGame
    simp (disch := omega) only [y_lit, y_n1, nI_add, pk_mul, j_lt, j_b1_s, j_b2_s, j_b3_s, j_b0_s, y_bo, y_bo1, y_bo0, y_i0, y_i1, Classical.not_not, nI_clamp, y_ix, y_lt, y_le, y_eq, y_nP, y_nPs, y_ltP, y_ltQ, y_ltPP, y_eqP, y_eqQ, y_eqPP, if_pos, if_neg, ite_true, ite_false, not_true_eq_false, not_false_eq_true, and_true, true_and, and_false, false_and, or_true, true_or, or_false, false_or, j_r_ne, j_r_eq, j_r_nj, r0, r1, r2, r4, e2, gi]
    refine ⟨_, rfl, ⟨⟨?_, ?_, ?_, ?_, ?_⟩, fun k hk => ?_, fun j hj => ?_⟩, ?_⟩
    · unfold y_set; simp (disch := omega) only [j_r_ne, j_r_eq, j_r_nj, y_ue, y_un]
    · unfold y_set; simp (disch := omega) only [j_r_ne, j_r_eq, j_r_nj, y_ue, y_un]
    · unfold y_set; simp (disch := omega) only [j_r_ne, j_r_eq, j_r_nj, y_ue, y_un]
    · unfold y_set; simp (disch := omega) only [j_r_ne, j_r_eq, j_r_nj, y_ue, y_un]
    · unfold y_set; simp (disch := omega) only [j_r_ne, j_r_eq, j_r_nj, y_ue, y_un]
    · unfold y_set at hk ⊢
      simp (disch := omega) only [y_ue, y_un] at hk
      by_cases e : k = R 0
      · subst e; simp (disch := omega) only [j_r_ne, j_r_eq, j_r_nj, y_ue, y_un]; exact ⟨trivial, trivial⟩
      · have := rk k (by omega)
        simp (disch := omega) only [j_r_ne, j_r_eq, j_r_nj, y_ue, y_un]; exact this
    · unfold y_set
      by_cases e : j = i
      · subst e; simp (disch := omega) only [j_r_ne, j_r_eq, j_r_nj, y_ue, y_un, y_nPs]; exact ⟨trivial, trivial⟩
      · have := ri j hj
        simp (disch := omega) only [j_r_ne, j_r_eq, j_r_nj, y_ue, y_un]; exact this
    · exact (((((((((y_fm.refl.so (by omega) (by omega)).so (by omega) (by omega)).so (by omega) (by omega)).si (by omega) (by omega) (by omega)).si (by omega) (by omega) (by omega)).si (by omega) (by omega) (by omega)).si (by omega) (by omega) (by omega)).so (by omega) (by omega)).so (by omega) (by omega))
  · simp only [if_neg h]
    refine ⟨τ, ?_, hr, y_fm.refl⟩
    simp (disch := omega) only [y_lit, y_n1, nI_add, pk_mul, j_lt, j_b1_s, j_b2_s, j_b3_s, j_b0_s, y_bo, y_bo1, y_bo0, y_i0, y_i1, Classical.not_not, nI_clamp, y_ix, y_lt, y_le, y_eq, y_nP, y_nPs, y_ltP, y_ltQ, y_ltPP, y_eqP, y_eqQ, y_eqPP, if_pos, if_neg, ite_true, ite_false, not_true_eq_false, not_false_eq_true, and_true, true_and, and_false, false_and, or_true, true_or, or_false, false_or]
end M
/-! ===== for one coming, and for all: the reference ===== -/
section M
variable {b g q R k : Nat → Nat} {s p m i to : Nat} {hs : Int32}
theorem ym_his0 {τ : j_G} (hk : y_mk (τ.1 75 23) k) {h : Nat} (hh : h < 12) : f_X12_isHis (nI h) τ = if k h = 1 then nI 1 else nI 0 := by
  obtain ⟨k1, k2⟩ := hk h hh
  unfold f_X12_isHis
  simp (disch := omega) only [y_lit, y_n1, nI_add, pk_mul, j_lt, j_b1_s, j_b2_s, j_b3_s, j_b0_s, y_bo, y_bo1, y_bo0, y_i0, y_i1, Classical.not_not, nI_clamp, y_ix, y_lt, y_le, y_eq, y_nP, y_nPs, y_ltP, y_ltQ, y_ltPP, y_eqP, y_eqQ, y_eqPP, if_pos, if_neg, ite_true, ite_false, not_true_eq_false, not_false_eq_true, and_true, true_and, and_false, false_and, or_true, true_or, or_false, false_or]
  rw [k1]
  by_cases e : k h = 1
  · simp (disch := omega) only [y_lit, y_n1, nI_add, pk_mul, j_lt, j_b1_s, j_b2_s, j_b3_s, j_b0_s, y_bo, y_bo1, y_bo0, y_i0, y_i1, Classical.not_not, nI_clamp, y_ix, y_lt, y_le, y_eq, y_nP, y_nPs, y_ltP, y_ltQ, y_ltPP, y_eqP, y_eqQ, y_eqPP, if_pos, if_neg, ite_true, ite_false, not_true_eq_false, not_false_eq_true, and_true, true_and, and_false, false_and, or_true, true_or, or_false, false_or]
  · simp (disch := omega) only [y_lit, y_n1, nI_add, pk_mul, j_lt, j_b1_s, j_b2_s, j_b3_s, j_b0_s, y_bo, y_bo1, y_bo0, y_i0, y_i1, Classical.not_not, nI_clamp, y_ix, y_lt, y_le, y_eq, y_nP, y_nPs, y_ltP, y_ltQ, y_ltPP, y_eqP, y_eqQ, y_eqPP, if_pos, if_neg, ite_true, ite_false, not_true_eq_false, not_false_eq_true, and_true, true_and, and_false, false_and, or_true, true_or, or_false, false_or]
theorem ym_his1 {τ : j_G} (hk : y_mk (τ.1 75 23) k) {o : Nat} (ho : o ≤ 12) : f_X12_isHis (nP o) τ = if 0 < o ∧ k (o - 1) = 1 then nI 1 else nI 0 := by
  unfold f_X12_isHis
  by_cases z : o = 0
  · subst z; simp (disch := omega) only [y_lit, y_n1, nI_add, pk_mul, j_lt, j_b1_s, j_b2_s, j_b3_s, j_b0_s, y_bo, y_bo1, y_bo0, y_i0, y_i1, Classical.not_not, nI_clamp, y_ix, y_lt, y_le, y_eq, y_nP, y_nPs, y_ltP, y_ltQ, y_ltPP, y_eqP, y_eqQ, y_eqPP, if_pos, if_neg, ite_true, ite_false, not_true_eq_false, not_false_eq_true, and_true, true_and, and_false, false_and, or_true, true_or, or_false, false_or, Nat.lt_irrefl]
  · obtain ⟨o, rfl⟩ : ∃ o', o = o' + 1 := ⟨o - 1, by omega⟩
    obtain ⟨k1, k2⟩ := hk o (by omega)
    rw [y_nPs]
    simp (disch := omega) only [y_lit, y_n1, nI_add, pk_mul, j_lt, j_b1_s, j_b2_s, j_b3_s, j_b0_s, y_bo, y_bo1, y_bo0, y_i0, y_i1, Classical.not_not, nI_clamp, y_ix, y_lt, y_le, y_eq, y_nP, y_nPs, y_ltP, y_ltQ, y_ltPP, y_eqP, y_eqQ, y_eqPP, if_pos, if_neg, ite_true, ite_false, not_true_eq_false, not_false_eq_true, and_true, true_and, and_false, false_and, or_true, true_or, or_false, false_or, Nat.add_sub_cancel]
    rw [k1]
    by_cases e : k o = 1
    · simp (disch := omega) only [y_lit, y_n1, nI_add, pk_mul, j_lt, j_b1_s, j_b2_s, j_b3_s, j_b0_s, y_bo, y_bo1, y_bo0, y_i0, y_i1, Classical.not_not, nI_clamp, y_ix, y_lt, y_le, y_eq, y_nP, y_nPs, y_ltP, y_ltQ, y_ltPP, y_eqP, y_eqQ, y_eqPP, if_pos, if_neg, ite_true, ite_false, not_true_eq_false, not_false_eq_true, and_true, true_and, and_false, false_and, or_true, true_or, or_false, false_or]
    · simp (disch := omega) only [y_lit, y_n1, nI_add, pk_mul, j_lt, j_b1_s, j_b2_s, j_b3_s, j_b0_s, y_bo, y_bo1, y_bo0, y_i0, y_i1, Classical.not_not, nI_clamp, y_ix, y_lt, y_le, y_eq, y_nP, y_nPs, y_ltP, y_ltQ, y_ltPP, y_eqP, y_eqQ, y_eqPP, if_pos, if_neg, ite_true, ite_false, not_true_eq_false, not_false_eq_true, and_true, true_and, and_false, false_and, or_true, true_or, or_false, false_or]
theorem ym_go2 {x y : Nat} {X Y : Int32} {τ : j_G} (hM : y_M τ b) (hW : y_W b) (h9 : 0 < b 9) (hg : y_mg τ b s g) (hv : y_vg b s g) (hp : y_mp τ b p q) (hq : y_vq b q) (hr : y_mr τ R (i + 1)) (hb : y_br b R m) (hm : m + 1 < 120) (hi : i < s) (hx : x < y_ho b) (hy : y < y_ho b) (eX : X = nI x) (eY : Y = nI y) : ∃ τ', (j_b2 (f_X12_goes (nI i) X τ) fun v12 σ11 =>
  if ¬ v12 = nI 0 then (j_b2 (f_X12_goes (nI i) Y σ11) fun v15 σ14 =>
  some σ14) else (some σ11)) = some τ' ∧ y_mr τ' (y_go2 b g q i x y R) (i + 1) ∧ y_fm 29 33 85 88 τ τ' := by
  subst eX eY
  obtain ⟨τ1, e1, e2, e3⟩ := ym_goes hM hW h9 hg hv hp hq hr hb (by omega) hi hx
  rw [e1]
  unfold y_go2
  by_cases h : y_at b q i x R ≤ y_last b i
  · obtain ⟨τ2, f1, f2, f3⟩ := ym_goes (hM.fr e3 (by omega)) hW h9 (hg.fr e3 (by omega) (by omega)) hv (hp.fr e3 (by omega)) hq e2 (y_go_br hW hv hb (by omega) hi hx) hm hi hy
    simp (disch := omega) only [y_lit, y_n1, nI_add, pk_mul, j_lt, j_b1_s, j_b2_s, j_b3_s, j_b0_s, y_bo, y_bo1, y_bo0, y_i0, y_i1, Classical.not_not, nI_clamp, y_ix, y_lt, y_le, y_eq, y_nP, y_nPs, y_ltP, y_ltQ, y_ltPP, y_eqP, y_eqQ, y_eqPP, if_pos, if_neg, ite_true, ite_false, not_true_eq_false, not_false_eq_true, and_true, true_and, and_false, false_and, or_true, true_or, or_false, false_or]
    rw [f1]
    exact ⟨τ2, rfl, f2, e3.trans f3⟩
  · rw [if_neg h, if_neg h]
    refine ⟨τ1, ?_, ?_, e3⟩
    · simp (disch := omega) only [y_lit, y_n1, nI_add, pk_mul, j_lt, j_b1_s, j_b2_s, j_b3_s, j_b0_s, y_bo, y_bo1, y_bo0, y_i0, y_i1, Classical.not_not, nI_clamp, y_ix, y_lt, y_le, y_eq, y_nP, y_nPs, y_ltP, y_ltQ, y_ltPP, y_eqP, y_eqQ, y_eqPP, if_pos, if_neg, ite_true, ite_false, not_true_eq_false, not_false_eq_true, and_true, true_and, and_false, false_and, or_true, true_or, or_false, false_or]
    · unfold y_go at e2; rw [if_neg h] at e2; exact e2
theorem ym_goesFor {τ : j_G} (hM : y_M τ b) (hW : y_W b) (h9 : 0 < b 9) (hg : y_mg τ b s g) (hv : y_vg b s g) (hp : y_mp τ b p q) (hq : y_vq b q) (hk : y_mk (τ.1 75 23) k) (hr : y_mr τ R (i + 1)) (hb : y_br b R m) (hm : m + 1 < 120) (hi : i < s) : ∃ τ', f_X12_goesFor (nI i) τ = some τ' ∧ y_mr τ' (y_gf b g q k i R) (i + 1) ∧ y_fm 29 33 85 88 τ τ' := by
  have h4 := hW.ho
  have h60 := hv.1
  have li := hv.2 i hi
  have gi := hg.2 i hi
  have b2 := hb.2.2.1
  unfold f_X12_goesFor f_X12_inGame y_gf
  simp (disch := omega) only [y_lit, nI_add, pk_mul, nI_clamp, Nat.add_zero, gi.1, gi.2.1, y_ix, j_lt, j_b1_s, hr.1.2.2.1, ym_his0 hk, ym_his1 hk]
  generalize hA : g (3 * i) = A at *
  generalize hO : g (3 * i + 1) = O at *
  by_cases c1 : k A = 1
  · by_cases c2 : 0 < O ∧ k (O - 1) = 1
    · obtain ⟨O, rfl⟩ : ∃ o', O = o' + 1 := ⟨O - 1, by omega⟩
      rw [Nat.add_sub_cancel] at c2
      have e4 : ¬ nI 1 = nI 0 := by decide
      simp only [if_pos c1, if_pos c2, y_nPs, Nat.add_sub_cancel, e4, or_self, if_false]
      rw [ym_stepsOf hM hW h9 (a := R 2) (c := A) (by omega) (by omega), ym_stepsOf hM hW h9 (a := R 2) (c := O) (by omega) (by omega)]
      have hx := y_ap_bd (b := b) (a := R 2) (c := O) (by omega) (by omega)
      have hy := y_ap_bd (b := b) (a := R 2) (c := A) (by omega) (by omega)
      by_cases c3 : y_ap b (R 2) A ≤ y_ap b (R 2) O
      · simp (disch := omega) only [j_b1_s, y_lt, if_pos, if_neg, y_i0, Classical.not_not]
        exact ym_go2 (x := A) (y := O) hM hW h9 hg hv hp hq hr hb hm hi li.1 (by omega) rfl rfl
      · simp (disch := omega) only [j_b1_s, y_lt, if_pos, if_neg, y_i0, Classical.not_not]
        exact ym_go2 (x := O) (y := A) hM hW h9 hg hv hp hq hr hb hm hi (by omega) li.1 rfl rfl
    · have e4 : ¬ nI 1 = nI 0 := by decide
      simp only [if_pos c1, if_neg c2, y_nPs, e4, false_or, if_true, not_false_eq_true]
      obtain ⟨τ1, f1, f2, f3⟩ := ym_goes hM hW h9 hg hv hp hq hr hb (by omega) hi (show A < y_ho b from li.1)
      rw [f1]
      exact ⟨τ1, rfl, f2, f3⟩
  · by_cases c2 : 0 < O ∧ k (O - 1) = 1
    · obtain ⟨O, rfl⟩ : ∃ o', O = o' + 1 := ⟨O - 1, by omega⟩
      rw [Nat.add_sub_cancel] at c2
      have e4 : ¬ nI 1 = nI 0 := by decide
      simp only [if_neg c1, if_pos c2, y_nPs, Nat.add_sub_cancel, e4, true_or, if_true, not_true_eq_false, not_false_eq_true, if_false]
      obtain ⟨τ1, f1, f2, f3⟩ := ym_goes hM hW h9 hg hv hp hq hr hb (by omega) hi (show O < y_ho b by omega)
      rw [f1]
      exact ⟨τ1, rfl, f2, f3⟩
    · simp only [if_neg c1, if_neg c2, true_or, if_true, not_true_eq_false, if_false]
      exact ⟨τ, rfl, hr, y_fm.refl⟩
theorem ym_run_l {red : Nat} (hW : y_W b) (h9 : 0 < b 9) (hv : y_vg b s g) (hq : y_vq b q) (hred : red ≤ 1) : ∀ m i n τ R, i + m = s → m < n → y_M τ b → y_mg τ b s g → y_mp τ b p q → y_mk (τ.1 75 23) k → τ.1 75 24 = nI red → y_mr τ R i → (∀ j, i ≤ j → R (1001 + 2 * j) = 0 ∧ R (1000 + 2 * j) = 0) → y_br b R (2 * i) → ∃ τ', p_X12_run_30 n (nI i) τ = some τ' ∧ y_mr τ' (y_rl b g q k red m i R) s ∧ y_fm 29 33 85 88 τ τ' := by
  have h60 := hv.1
  intro m
  induction m with
  | zero =>
    intro i n τ R h hn hM hg hp hk hd hr hz hb
    obtain ⟨n, rfl⟩ := y_pos hn
    obtain rfl : i = s := by omega
    refine ⟨τ, ?_, hr, y_fm.refl⟩
    unfold p_X12_run_30; simp (disch := omega) only [y_lit, y_n1, nI_add, pk_mul, j_lt, j_b1_s, j_b2_s, j_b3_s, j_b0_s, y_bo, y_bo1, y_bo0, y_i0, y_i1, Classical.not_not, nI_clamp, y_ix, y_lt, y_le, y_eq, y_nP, y_nPs, y_ltP, y_ltQ, y_ltPP, y_eqP, y_eqQ, y_eqPP, if_pos, if_neg, ite_true, ite_false, not_true_eq_false, not_false_eq_true, and_true, true_and, and_false, false_and, or_true, true_or, or_false, false_or, hg.1]
  | succ m ih =>
    intro i n τ R h hn hM hg hp hk hd hr hz hb
    obtain ⟨n, rfl⟩ := y_pos hn
    have gi := (hg.2 i (by omega)).2.2.1
    have vi := (hv.2 i (by omega)).2.2.2.1
    have hzi := hz i (by omega)
    unfold p_X12_run_30 y_rl f_X12_inGame
    simp (disch := omega) only [y_lit, y_n1, nI_add, pk_mul, j_lt, j_b1_s, j_b2_s, j_b3_s, j_b0_s, y_bo, y_bo1, y_bo0, y_i0, y_i1, Classical.not_not, nI_clamp, y_ix, y_lt, y_le, y_eq, y_nP, y_nPs, y_ltP, y_ltQ, y_ltPP, y_eqP, y_eqQ, y_eqPP, if_pos, if_neg, ite_true, ite_false, not_true_eq_false, not_false_eq_true, and_true, true_and, and_false, false_and, or_true, true_or, or_false, false_or, j_r_ne, j_r_eq, j_r_nj, hg.1, gi, hd]
    have fr : y_fm 29 33 85 88 τ (j_si (j_si τ 85 i (nI 0)) 86 i (nP 0)) := (y_fm.refl.si (by omega) (by omega) (by omega)).si (by omega) (by omega) (by omega)
    have hr1 : y_mr (j_si (j_si τ 85 i (nI 0)) 86 i (nP 0)) R (i + 1) := by
      obtain ⟨⟨r0, r1, r2, r3, r4⟩, rk, ri⟩ := hr
      refine ⟨⟨?_, ?_, ?_, ?_, ?_⟩, fun j hj => ?_, fun j hj => ?_⟩
      · simp (disch := omega) only [j_r_ne, j_r_eq, j_r_nj]; exact r0
      · simp (disch := omega) only [j_r_ne, j_r_eq, j_r_nj]; exact r1
      · simp (disch := omega) only [j_r_ne, j_r_eq, j_r_nj]; exact r2
      · simp (disch := omega) only [j_r_ne, j_r_eq, j_r_nj]; exact r3
      · simp (disch := omega) only [j_r_ne, j_r_eq, j_r_nj]; exact r4
      · simp (disch := omega) only [j_r_ne, j_r_eq, j_r_nj]; exact rk j hj
      · by_cases e : j = i
        · subst e; simp (disch := omega) only [j_r_ne, j_r_eq, j_r_nj, hzi]; exact ⟨trivial, trivial⟩
        · have := ri j (by omega); simp (disch := omega) only [j_r_ne, j_r_eq, j_r_nj]; exact this
    generalize j_si (j_si τ 85 i (nI 0)) 86 i (nP 0) = τ1 at *
    have hM1 := hM.fr fr (by omega)
    have hg1 := hg.fr fr (by omega) (by omega)
    have hp1 := hp.fr fr (by omega)
    have hk1 : y_mk (τ1.1 75 23) k := by rw [fr.1 23 (by omega)]; exact hk
    have hd1 : τ1.1 75 24 = nI red := by rw [fr.1 24 (by omega)]; exact hd
    by_cases e : g (3 * i + 2) = 0 ∨ red = 1
    · rw [if_pos e, if_pos (by omega)]
      obtain ⟨τ2, f1, f2, f3⟩ := ym_goesFor hM1 hW h9 hg1 hv hp1 hq hk1 hr1 hb (by omega) (show i < s by omega)
      have pr := y_gf_pr (q := q) (k := k) (i := i) hW hv hb (by omega) (by omega)
      rw [f1]
      obtain ⟨τ3, g1, g2, g3⟩ := ih (i + 1) n τ2 (y_gf b g q k i R) (by omega) (by omega) (hM1.fr f3 (by omega)) (hg1.fr f3 (by omega) (by omega)) (hp1.fr f3 (by omega)) (by rw [f3.1 23 (by omega)]; exact hk1) (by rw [f3.1 24 (by omega)]; exact hd1) f2 (fun j hj => ⟨by rw [(pr.2.2 j (by omega)).1]; exact (hz j (by omega)).1, by rw [(pr.2.2 j (by omega)).2]; exact (hz j (by omega)).2⟩) (y_gf_br (m := 2 * i) hW hv hb (by omega) (by omega))
      exact ⟨τ3, g1, g2, fr.trans (f3.trans g3)⟩
    · rw [if_neg e, if_neg (by omega)]
      obtain ⟨τ3, g1, g2, g3⟩ := ih (i + 1) n τ1 R (by omega) (by omega) hM1 hg1 hp1 hk1 hd1 hr1 (fun j hj => hz j (by omega)) (hb.up (by omega))
      exact ⟨τ3, g1, g2, fr.trans g3⟩
theorem ym_run {red : Nat} {τ : j_G} (hM : y_M τ b) (hW : y_W b) (h9 : 0 < b 9) (hg : y_mg τ b s g) (hv : y_vg b s g) (hp : y_mp τ b p q) (hq : y_vq b q) (hk : y_mk (τ.1 75 23) k) (hred : red ≤ 1) (hd : τ.1 75 24 = nI red) : ∃ τ', f_X12_run τ = some τ' ∧ y_mr τ' (y_run b g q k red s) s ∧ y_fm 29 33 85 88 τ τ' := by
  have h60 := hv.1
  have e4 := hp.2.2.2.1
  unfold f_X12_run
  simp (disch := omega) only [y_lit, y_n1, nI_add, pk_mul, j_lt, j_b1_s, j_b2_s, j_b3_s, j_b0_s, y_bo, y_bo1, y_bo0, y_i0, y_i1, Classical.not_not, nI_clamp, y_ix, y_lt, y_le, y_eq, y_nP, y_nPs, y_ltP, y_ltQ, y_ltPP, y_eqP, y_eqQ, y_eqPP, if_pos, if_neg, ite_true, ite_false, not_true_eq_false, not_false_eq_true, and_true, true_and, and_false, false_and, or_true, true_or, or_false, false_or, j_r_ne, j_r_eq, j_r_nj, e4]
  have fr : y_fm 29 33 85 88 τ (j_si (j_si (j_si (j_si (j_si τ 75 29 (nI 0)) 75 30 (nI 0)) 75 33 (nI 0)) 75 32 (nI 0)) 75 31 (nI (q 4))) := ((((y_fm.refl.so (by omega) (by omega)).so (by omega) (by omega)).so (by omega) (by omega)).so (by omega) (by omega)).so (by omega) (by omega)
  have hr : y_mr (j_si (j_si (j_si (j_si (j_si τ 75 29 (nI 0)) 75 30 (nI 0)) 75 33 (nI 0)) 75 32 (nI 0)) 75 31 (nI (q 4))) (y_R0 q) 0 := by
    refine ⟨⟨?_, ?_, ?_, ?_, ?_⟩, fun j hj => absurd hj (Nat.not_lt_zero _), fun j hj => absurd hj (Nat.not_lt_zero _)⟩
    · simp (disch := omega) only [j_r_ne, j_r_eq, j_r_nj]; rfl
    · simp (disch := omega) only [j_r_ne, j_r_eq, j_r_nj]; rfl
    · simp (disch := omega) only [j_r_ne, j_r_eq, j_r_nj]; rfl
    · simp (disch := omega) only [j_r_ne, j_r_eq, j_r_nj]; rfl
    · simp (disch := omega) only [j_r_ne, j_r_eq, j_r_nj]; rfl
  generalize j_si (j_si (j_si (j_si (j_si τ 75 29 (nI 0)) 75 30 (nI 0)) 75 33 (nI 0)) 75 32 (nI 0)) 75 31 (nI (q 4)) = τ1 at *
  obtain ⟨τ2, g1, g2, g3⟩ := ym_run_l (k := k) hW h9 hv hq hred s 0 j_F τ1 (y_R0 q) (by omega) (y_F (by omega)) (hM.fr fr (by omega)) (hg.fr fr (by omega) (by omega)) (hp.fr fr (by omega)) (by rw [fr.1 23 (by omega)]; exact hk) (by rw [fr.1 24 (by omega)]; exact hd) hr (fun j _ => ⟨by unfold y_R0; rw [if_neg (by omega)], by unfold y_R0; rw [if_neg (by omega)]⟩) (y_R0_br hq)
  rw [g1]
  exact ⟨τ2, rfl, g2, fr.trans g3⟩
end M
/-! ===== the two objects alike ===== -/
def y_im (σ τ : j_G) (k c c1 c2 c3 c4 c5 c6 c7 : Nat) : Prop := (σ.1 c 0 = nI 0 ∧ τ.1 78 k = nI 0) ∨ (σ.1 c 0 = nI 1 ∧ τ.1 78 k = nI 1 ∧ ∃ b, y_W b ∧ y_cb σ c c1 c2 c3 c4 c5 c6 c7 b ∧ y_mb (fun j => τ.1 77 (116 * k + j)) b)
def y_sl (σ τ : j_G) (s c d : Nat) : Prop := (σ.1 c 0 = nP 0 ∧ τ.1 94 s = nP 0) ∨ ∃ n w, n ≤ 60 ∧ w ≤ 3 ∧ σ.1 c 0 = nI n ∧ τ.1 94 s = nI n ∧ σ.1 c 1 = nI w ∧ τ.1 95 s = nI w ∧ ∀ i, i < n → σ.2 d i = τ.2 96 (60 * s + i)
def y_tp (σ τ : j_G) : Prop := ∃ n, n ≤ 1200 ∧ σ.1 19 0 = nI n ∧ τ.1 75 5 = nI n ∧ ∀ i, i < n → σ.1 20 i = τ.1 79 i ∧ -128 ≤ (τ.1 79 i).toInt ∧ (τ.1 79 i).toInt ≤ 127
def y_ft (σ τ : j_G) : Prop := σ.1 10 1 = τ.1 75 12 ∧ σ.1 10 2 = τ.1 75 13
def y_K (σ τ : j_G) : Prop := (y_im σ τ 0 43 44 45 46 47 48 49 50 ∧ y_im σ τ 1 51 52 53 54 55 56 57 58 ∧ y_im σ τ 2 59 60 61 62 63 64 65 66) ∧ (y_sl σ τ 0 67 68 ∧ y_sl σ τ 1 69 70 ∧ y_sl σ τ 2 71 72 ∧ y_sl σ τ 3 73 74) ∧ y_tp σ τ ∧ y_ft σ τ
def j_Rel (σ τ : j_G) : Prop := ∃ b, y_W b ∧ y_N σ b ∧ y_M τ b ∧ y_K σ τ
theorem y_im.fr {σ τ σ' τ' : j_G} {k c c1 c2 c3 c4 c5 c6 c7 : Nat} (h : y_im σ τ k c c1 c2 c3 c4 c5 c6 c7) (e : ∀ x, x = c ∨ x = c1 ∨ x = c2 ∨ x = c3 ∨ x = c4 ∨ x = c5 ∨ x = c6 ∨ x = c7 → σ'.1 x = σ.1 x) (e1 : τ'.1 77 = τ.1 77) (e2 : τ'.1 78 = τ.1 78) : y_im σ' τ' k c c1 c2 c3 c4 c5 c6 c7 := by
  unfold y_im y_cb at *
  rw [e c (by omega), e c1 (by omega), e c2 (by omega), e c3 (by omega), e c4 (by omega), e c5 (by omega), e c6 (by omega), e c7 (by omega), e1, e2]
  exact h
theorem y_sl.fr {σ τ σ' τ' : j_G} {s c d : Nat} (h : y_sl σ τ s c d) (e : σ'.1 c = σ.1 c) (e' : σ'.2 d = σ.2 d) (e1 : τ'.1 94 = τ.1 94) (e2 : τ'.1 95 = τ.1 95) (e3 : τ'.2 96 = τ.2 96) : y_sl σ' τ' s c d := by
  unfold y_sl at *
  rw [e, e', e1, e2, e3]
  exact h
theorem y_K.fr {σ τ σ' τ' : j_G} (h : y_K σ τ) (h1 : y_fr 22 41 σ σ') (h2 : y_fm 18 42 80 93 τ τ') : y_K σ' τ' := by
  obtain ⟨⟨i0, i1, i2⟩, ⟨s0, s1, s2, s3⟩, ht, hf⟩ := h
  have e77 := (h2.2 77 (by omega) (by omega)).1
  have e78 := (h2.2 78 (by omega) (by omega)).1
  have e94 := (h2.2 94 (by omega) (by omega)).1
  have e95 := (h2.2 95 (by omega) (by omega)).1
  have e96 := (h2.2 96 (by omega) (by omega)).2
  refine ⟨⟨i0.fr (fun x hx => (h1 x (by omega)).1) e77 e78, i1.fr (fun x hx => (h1 x (by omega)).1) e77 e78, i2.fr (fun x hx => (h1 x (by omega)).1) e77 e78⟩,
    ⟨s0.fr (h1 67 (by omega)).1 (h1 68 (by omega)).2 e94 e95 e96, s1.fr (h1 69 (by omega)).1 (h1 70 (by omega)).2 e94 e95 e96, s2.fr (h1 71 (by omega)).1 (h1 72 (by omega)).2 e94 e95 e96, s3.fr (h1 73 (by omega)).1 (h1 74 (by omega)).2 e94 e95 e96⟩, ?_, ?_⟩
  · unfold y_tp at *
    rw [(h1 19 (by omega)).1, (h1 20 (by omega)).1, h2.1 5 (by omega), (h2.2 79 (by omega) (by omega)).1]
    exact ht
  · unfold y_ft at *
    rw [(h1 10 (by omega)).1, h2.1 12 (by omega), h2.1 13 (by omega)]
    exact hf
theorem y_done {σ τ σ' τ' : j_G} (hR : j_Rel σ τ) (h1 : y_fr 22 41 σ σ') (h2 : y_fm 18 42 80 93 τ τ') : j_Rel σ' τ' := by
  obtain ⟨b, hW, hN, hM, hK⟩ := hR
  exact ⟨b, hW, hN.fr h1 (by omega), hM.fr h2 (by omega), hK.fr h1 h2⟩
noncomputable def y_b0 : Nat → Nat := fun j => if 24 ≤ j ∧ j < 96 ∧ j % 3 = 1 then 1 else 0
theorem j_Rel0 : j_Rel j_s0 j_t0 := by
  have e0 : y_b0 0 = 0 := rfl
  have e1 : y_b0 1 = 0 := rfl
  have e2 : y_b0 2 = 0 := rfl
  have e3 : y_b0 3 = 0 := rfl
  have e4 : y_b0 4 = 0 := rfl
  have e5 : y_b0 5 = 0 := rfl
  have e6 : y_b0 6 = 0 := rfl
  have e7 : y_b0 7 = 0 := rfl
  have e8 : y_b0 8 = 0 := rfl
  have e9 : y_b0 9 = 0 := rfl
  refine ⟨y_b0, ?_, ?_, ?_, ⟨Or.inl ⟨rfl, rfl⟩, Or.inl ⟨rfl, rfl⟩, Or.inl ⟨rfl, rfl⟩⟩, ⟨Or.inl ⟨rfl, rfl⟩, Or.inl ⟨rfl, rfl⟩, Or.inl ⟨rfl, rfl⟩, Or.inl ⟨rfl, rfl⟩⟩, ⟨0, by omega, rfl, rfl, fun i hi => absurd hi (by omega)⟩, ⟨rfl, rfl⟩⟩
  · refine ⟨⟨by omega, by omega, by omega, by omega, by omega, by omega, by omega, ?_, by omega⟩, fun _ => ⟨rfl, rfl, rfl, rfl, rfl, rfl, rfl⟩, fun h => absurd h (by omega), fun h => absurd h (by omega), fun _ => rfl, fun k hk => absurd hk (by omega), fun k l h1 h2 => absurd h2 (by omega), fun k hk => absurd hk (by omega), fun k hk => absurd hk (by omega)⟩
    rw [e7]; exact Nat.pow_pos (by omega)
  · exact ⟨⟨rfl, rfl, rfl, rfl, rfl, rfl, rfl, rfl, rfl, rfl⟩, fun h => absurd h (by omega), fun k hk => absurd hk (by omega), fun p q hp => absurd hp (by omega), fun k hk => absurd hk (by omega)⟩
  · intro j hj
    have e : j_t0.1 76 j = nI 0 := rfl
    rw [e]
    unfold y_b0
    split
    · rfl
    · rfl
/-! ===== a player taken, a game dealt ===== -/
noncomputable def y_pq (b : Nat → Nat) (p : Nat) : Nat → Nat := fun j => b (96 + 5 * p + j)
noncomputable def y_k1 : Nat → Nat := fun _ => 1
theorem y_mkC : y_mk (nP 0) y_k1 := by
  have : ∀ h, h < 12 → ((nP 0 >>> (nI h &&& nI 31)) &&& nI 1) = nI 1 := by decide
  exact fun h hh => ⟨this h hh, Nat.le_refl _⟩
theorem y_mkM : y_mk (nI 4095) y_k1 := by
  have : ∀ h, h < 12 → ((nI 4095 >>> (nI h &&& nI 31)) &&& nI 1) = nI 1 := by decide
  exact fun h hh => ⟨this h hh, Nat.le_refl _⟩
theorem y_pqv {b : Nat → Nat} (hW : y_W b) {p : Nat} (hp : p < b 6) : y_vq b (y_pq b p) := by
  have h := hW.pl hp
  unfold y_pq
  refine ⟨h.2.1, ?_, ?_, ?_, ?_⟩
  · show b (96 + 5 * p + 1) ≤ 40; rw [show 96 + 5 * p + 1 = 97 + 5 * p from by omega]; omega
  · show b (96 + 5 * p + 2) ≤ 99; rw [show 96 + 5 * p + 2 = 98 + 5 * p from by omega]; omega
  · show b (96 + 5 * p + 3) ≤ 9; rw [show 96 + 5 * p + 3 = 99 + 5 * p from by omega]; omega
  · show b (96 + 5 * p + 4) < _; rw [show 96 + 5 * p + 4 = 100 + 5 * p from by omega]; omega
theorem yc_trait_si {x y v : Int32} {c j : Nat} {σ : j_G} (hc : c ≠ 4) : f_X2_trait x y (j_si σ c j v) = f_X2_trait x y σ := by
  unfold f_X2_trait
  have e : ∀ j', (j_si σ c j v).1 4 j' = σ.1 4 j' := fun j' => j_r_ne (fun z => hc z.symm)
  simp only [e]
theorem ym_of_si {x y v : Int32} {c j : Nat} {σ : j_G} (hc : c ≠ 76) : f_X12_of x y (j_si σ c j v) = f_X12_of x y σ := by
  unfold f_X12_of
  have e : ∀ j', (j_si σ c j v).1 76 j' = σ.1 76 j' := fun j' => j_r_ne (fun z => hc z.symm)
  simp only [e]
section Z
variable {σ τ : j_G} {b g : Nat → Nat} {p a : Nat}
theorem yc_take (hN : y_N σ b) (hW : y_W b) (hp : p < b 6) (ha : 20 < a) : ∃ σ', f_X6_take a (nI p) σ = some σ' ∧ y_cp σ' a (y_pq b p) ∧ y_fr a a σ σ' := by
  unfold f_X6_take
  simp (disch := omega) only [y_lit, y_n1, nI_add, pk_mul, j_lt, j_b1_s, j_b2_s, j_b3_s, j_b0_s, y_bo, y_bo1, y_bo0, y_i0, y_i1, Classical.not_not, nI_clamp, y_ix, y_lt, y_le, y_eq, y_nP, y_nPs, y_ltP, y_ltQ, y_ltPP, y_eqP, y_eqQ, y_eqPP, if_pos, if_neg, ite_true, ite_false, not_true_eq_false, not_false_eq_true, and_true, true_and, and_false, false_and, or_true, true_or, or_false, false_or, yc_trait_si, yc_trait hN hW hp]
  refine ⟨_, rfl, fun j hj => ?_, ((((y_fr.refl.si (by omega) (by omega)).si (by omega) (by omega)).si (by omega) (by omega)).si (by omega) (by omega)).si (by omega) (by omega)⟩
  obtain rfl | rfl | rfl | rfl | rfl : j = 0 ∨ j = 1 ∨ j = 2 ∨ j = 3 ∨ j = 4 := by omega
  · simp (disch := omega) only [j_r_ne, j_r_eq, j_r_nj]; rfl
  · simp (disch := omega) only [j_r_ne, j_r_eq, j_r_nj]; rfl
  · simp (disch := omega) only [j_r_ne, j_r_eq, j_r_nj]; rfl
  · simp (disch := omega) only [j_r_ne, j_r_eq, j_r_nj]; rfl
  · simp (disch := omega) only [j_r_ne, j_r_eq, j_r_nj]; rfl
theorem ym_told (hM : y_M τ b) (hW : y_W b) (hp : p < b 6) : ∃ τ', f_X12_asTold (nI p) τ = some τ' ∧ y_mp τ' b p (y_pq b p) ∧ τ'.1 75 23 = nI 4095 ∧ τ'.1 75 24 = nI 0 ∧ y_fm 19 24 80 79 τ τ' := by
  have h6 := hW.b6
  unfold f_X12_asTold
  simp (disch := omega) only [y_lit, y_n1, nI_add, pk_mul, j_lt, j_b1_s, j_b2_s, j_b3_s, j_b0_s, y_bo, y_bo1, y_bo0, y_i0, y_i1, Classical.not_not, nI_clamp, y_ix, y_lt, y_le, y_eq, y_nP, y_nPs, y_ltP, y_ltQ, y_ltPP, y_eqP, y_eqQ, y_eqPP, if_pos, if_neg, ite_true, ite_false, not_true_eq_false, not_false_eq_true, and_true, true_and, and_false, false_and, or_true, true_or, or_false, false_or, ym_of_si, ym_of hM]
  refine ⟨_, rfl, ⟨?_, ?_, ?_, ?_, hp, rfl, ?_⟩, ?_, ?_, (((((y_fm.refl.so (by omega) (by omega)).so (by omega) (by omega)).so (by omega) (by omega)).so (by omega) (by omega)).so (by omega) (by omega)).so (by omega) (by omega)⟩
  · simp (disch := omega) only [j_r_ne, j_r_eq, j_r_nj]
  · simp (disch := omega) only [j_r_ne, j_r_eq, j_r_nj]; rfl
  · simp (disch := omega) only [j_r_ne, j_r_eq, j_r_nj]; rfl
  · simp (disch := omega) only [j_r_ne, j_r_eq, j_r_nj]; rfl
  · show b (98 + 5 * p) = b (96 + 5 * p + 2); congr 1; omega
  · simp (disch := omega) only [j_r_ne, j_r_eq, j_r_nj]
  · simp (disch := omega) only [j_r_ne, j_r_eq, j_r_nj]
theorem yc_dealt (hN : y_N σ b) (hW : y_W b) : ∃ σ', f_X4_deal (σ.1 5 1) σ = some σ' ∧ y_cg σ' b (y_gs b) (y_dg b (b 8)) ∧ y_fr 22 27 σ σ' := by
  rw [hN.d1]
  refine yc_deal hN hW ?_
  have := hW.2.2.2.1
  omega
/-- what is there behind makeReady -/
def y_rdy (σ : j_G) (b : Nat → Nat) (p : Nat) : Prop := y_N σ b ∧ y_cg σ b (y_gs b) (y_dg b (b 8)) ∧ y_cp σ 28 (y_pq b p)
theorem yc_ready (hN : y_N σ b) (hW : y_W b) (hp : p < b 6) : ∃ σ', f_X11_makeReady (nI p) σ = some (nI 1, σ') ∧ y_rdy σ' b p ∧ y_fr 22 41 σ σ' := by
  have h6 := hW.b6
  obtain ⟨σ1, e1, e2, e3⟩ := yc_dealt hN hW
  have hN1 := hN.fr e3 (by omega)
  obtain ⟨σ2, f1, f2, f3⟩ := yc_take (a := 28) hN1 hW hp (by omega)
  unfold f_X11_makeReady
  simp (disch := omega) only [y_lit, y_n1, nI_add, pk_mul, j_lt, j_b1_s, j_b2_s, j_b3_s, j_b0_s, y_bo, y_bo1, y_bo0, y_i0, y_i1, Classical.not_not, nI_clamp, y_ix, y_lt, y_le, y_eq, y_nP, y_nPs, y_ltP, y_ltQ, y_ltPP, y_eqP, y_eqQ, y_eqPP, if_pos, if_neg, ite_true, ite_false, not_true_eq_false, not_false_eq_true, and_true, true_and, and_false, false_and, or_true, true_or, or_false, false_or, yc_isPlayer hN hW, y_rn]
  rw [e1, j_b1_s, f1]
  exact ⟨σ2, rfl, ⟨hN1.fr f3 (by omega), e2.fr f3 (by omega), f2⟩, (e3.wide (by omega) (by omega)).trans (f3.wide (by omega) (by omega))⟩
theorem yc_unready (hN : y_N σ b) (hW : y_W b) {x : Int32} (hx : ¬ y_rg x (b 6)) : f_X11_makeReady x σ = some (nI 0, σ) := by
  unfold f_X11_makeReady
  rw [yc_isPlayer hN hW, if_neg hx]
  rfl
/-- the run of one's own -/
noncomputable def y_own (b : Nat → Nat) (p : Nat) : Nat → Nat := y_run b (y_dg b (b 8)) (y_pq b p) y_k1 0 (y_gs b)
theorem yc_runOf (hN : y_N σ b) (hW : y_W b) (hp : p < b 6) : ∃ σ', f_X11_runOf (nI p) σ = some (nI 1, σ') ∧ y_rdy σ' b p ∧ y_cr σ' (y_own b p) (y_gs b) ∧ y_fr 22 41 σ σ' := by
  have h9 := hW.on0 (Or.inr (Or.inr (Or.inr (Or.inl (by omega : 0 < b 6)))))
  obtain ⟨σ1, e1, ⟨e2, e3, e4⟩, e5⟩ := yc_ready hN hW hp
  obtain ⟨σ2, f1, f2, f3⟩ := yc_good e2 hW h9 e3 (y_dg_vg hW _) e4 (by omega) (y_pqv hW hp) y_mkC
  unfold f_X11_runOf
  rw [e1]
  simp only [j_b2_s, y_lit, if_neg (show ¬ nI 1 = nI 0 from by decide)]
  rw [y_n1, f1]
  exact ⟨σ2, rfl, ⟨e2.fr f3 (by omega), e3.fr f3 (by omega), e4.fr f3 (by omega)⟩, f2, e5.trans (f3.wide (by omega) (by omega))⟩
theorem yc_unrun (hN : y_N σ b) (hW : y_W b) {x : Int32} (hx : ¬ y_rg x (b 6)) : f_X11_runOf x σ = some (nI 0, σ) := by
  unfold f_X11_runOf
  rw [yc_unready hN hW hx]
  rfl
/-- what is there behind lay -/
def y_ldy (τ : j_G) (b : Nat → Nat) : Prop := y_M τ b ∧ y_mg τ b (y_gs b) (y_dg b (b 8))
theorem ym_laid (hM : y_M τ b) (hW : y_W b) : ∃ τ', f_X12_lay τ = some τ' ∧ y_ldy τ' b ∧ y_fm 18 42 80 93 τ τ' := by
  obtain ⟨τ1, e1, e2, e3⟩ := ym_lay hM hW
  exact ⟨τ1, e1, ⟨hM.fr e3 (by omega), e2⟩, e3.wide (by omega) (by omega) (by omega) (by omega)⟩
theorem y_ldy.fr {τ τ' : j_G} {f h lo hi : Nat} (hl : y_ldy τ b) (hf : y_fm f h lo hi τ τ') (h1 : 19 ≤ f) (h2 : 85 ≤ lo ∨ hi < lo ∧ hi ≤ 80 ∧ 77 ≤ lo) : y_ldy τ' b := by
  obtain ⟨hM, hg⟩ := hl
  have e : ∀ c, c ≠ 75 → (c = 76 ∨ c = 82 ∨ c = 83 ∨ c = 84) → τ'.1 c = τ.1 c := fun c hn hc => (hf.2 c hn (by omega)).1
  refine ⟨?_, ?_⟩
  · unfold y_M; rw [e 76 (by omega) (by omega)]; exact hM
  · unfold y_mg at *
    rw [e 82 (by omega) (by omega), e 83 (by omega) (by omega), e 84 (by omega) (by omega), hf.1 18 (by omega)]
    exact hg
/-- the reference's run with one of the player's numbers told otherwise -/
theorem ym_runq {q k : Nat → Nat} {red : Nat} {τ1 : j_G} (hL : y_ldy τ1 b) (hW : y_W b) (hp : p < b 6) (hmp : y_mp τ1 b p q) (hq : y_vq b q) (hk : y_mk (τ1.1 75 23) k) (hred : red ≤ 1) (hd : τ1.1 75 24 = nI red) : ∃ τ', f_X12_run τ1 = some τ' ∧ y_mr τ' (y_run b (y_dg b (b 8)) q k red (y_gs b)) (y_gs b) ∧ y_ldy τ' b ∧ y_mp τ' b p q ∧ y_fm 29 33 85 88 τ1 τ' := by
  have h9 := hW.on0 (Or.inr (Or.inr (Or.inr (Or.inl (by omega : 0 < b 6)))))
  obtain ⟨τ2, e1, e2, e3⟩ := ym_run hL.1 hW h9 hL.2 (y_dg_vg hW _) hmp hq hk hred hd
  exact ⟨τ2, e1, e2, hL.fr e3 (by omega) (by omega), hmp.fr e3 (by omega), e3⟩
theorem ym_ras (hM : y_M τ b) (hW : y_W b) (hp : p < b 6) : ∃ τ', f_X12_runAsTold (nI p) τ = some τ' ∧ y_ldy τ' b ∧ y_mr τ' (y_own b p) (y_gs b) ∧ τ'.1 75 22 = nI (b (96 + 5 * p + 4)) ∧ y_fm 18 42 80 93 τ τ' := by
  obtain ⟨τ1, e1, e2, e3⟩ := ym_laid hM hW
  obtain ⟨τ2, f1, f2, f3, f4, f5⟩ := ym_told e2.1 hW hp
  obtain ⟨τ3, g1, g2, g3, g4, g5⟩ := ym_runq (k := y_k1) (red := 0) (e2.fr f5 (by omega) (by omega)) hW hp f2 (y_pqv hW hp) (by rw [f3]; exact y_mkM) (by omega) f4
  unfold f_X12_runAsTold
  rw [e1, j_b1_s, f1, j_b1_s, g1]
  exact ⟨τ3, rfl, g3, g2, g4.2.2.2.1, e3.trans ((f5.wide (by omega) (by omega) (by omega) (by omega)).trans (g5.wide (by omega) (by omega) (by omega) (by omega)))⟩
end Z
/-! ===== bits counted ===== -/
noncomputable def y_pop : Nat → Nat → Nat
  | 0, _ => 0
  | m + 1, n => n % 2 + y_pop m (n / 2)
noncomputable def y_bcF (n : Nat) : Nat := (fun a => (fun c => (fun d => (fun e => (fun g => g &&& 63) (e + e / 65536)) (d + d / 256)) ((c + c / 16) &&& 252645135)) ((a &&& 858993459) + (a / 4 &&& 858993459))) (n - (n / 2 &&& 1431655765))
theorem y_bcf (n : Nat) (hn : n < 4096) : y_bcF n = y_pop 12 n := Nat.eq_of_beq_eq_true (List.all_eq_true.mp (show (List.range 4096).all (fun n => Nat.beq (y_bcF n) (y_pop 12 n)) = true by decide +kernel) n (List.mem_range.mpr hn))
theorem y_us {s : Nat} (hs : s < 2 ^ 31) (m : UInt32) (k : Nat) (hm : (UInt32.mod m 32).toBitVec.toNat = k) : ((nI s).toUInt32 >>> m).toInt32 = nI (s / 2 ^ k) := by
  apply Int32.toBitVec_inj.mp
  apply BitVec.eq_of_toNat_eq
  show (BitVec.ofNat 32 s >>> ((UInt32.mod m 32).toBitVec).toNat).toNat = (BitVec.ofNat 32 (s / 2 ^ k)).toNat
  rw [hm, BitVec.toNat_ushiftRight, BitVec.toNat_ofNat, BitVec.toNat_ofNat, Nat.mod_eq_of_lt (by omega), Nat.mod_eq_of_lt (Nat.lt_of_le_of_lt (Nat.div_le_self _ _) (by omega)), Nat.shiftRight_eq_div_pow]
theorem y_bcd {a c : Nat} : nI a &&& nI c = nI (a &&& c) := by
  apply Int32.toBitVec_inj.mp
  show BitVec.ofNat 32 a &&& BitVec.ofNat 32 c = BitVec.ofNat 32 (a &&& c)
  rw [BitVec.ofNat_and]
theorem y_bcn : ∀ n, n < 4096 → f_J6_bitCount_0f7a4 (nI n) = nI (y_pop 12 n) := by
  intro n hn
  rw [← y_bcf n hn]
  have l1 : n / 2 &&& 1431655765 ≤ n := Nat.le_trans Nat.and_le_left (Nat.div_le_self _ _)
  unfold f_J6_bitCount_0f7a4 y_bcF
  simp only [j_lt]
  rw [y_us (by omega) _ 1 (by decide), show (1431655765 : Int32) = nI 1431655765 from rfl, y_bcd, Nat.pow_one, pk_sub l1]
  have b1 : n - (n / 2 &&& 1431655765) < 4096 := by omega
  generalize n - (n / 2 &&& 1431655765) = a at b1 ⊢
  have l2 : a &&& 858993459 ≤ a := Nat.and_le_left
  have l3 : a / 4 &&& 858993459 ≤ a := Nat.le_trans Nat.and_le_left (Nat.div_le_self _ _)
  rw [y_us (by omega) _ 2 (by decide), show (858993459 : Int32) = nI 858993459 from rfl, y_bcd, y_bcd, nI_add, show (2 : Nat) ^ 2 = 4 from rfl]
  have b2 : (a &&& 858993459) + (a / 4 &&& 858993459) < 8192 := by omega
  generalize (a &&& 858993459) + (a / 4 &&& 858993459) = c at b2 ⊢
  have l4 : (c + c / 16) &&& 252645135 ≤ c + c / 16 := Nat.and_le_left
  rw [y_us (by omega) _ 4 (by decide), show (252645135 : Int32) = nI 252645135 from rfl, nI_add, y_bcd, show (2 : Nat) ^ 4 = 16 from rfl]
  have b3 : (c + c / 16) &&& 252645135 < 16384 := by omega
  generalize (c + c / 16) &&& 252645135 = d at b3 ⊢
  rw [y_us (by omega) _ 8 (by decide), nI_add, show (2 : Nat) ^ 8 = 256 from rfl]
  have b4 : d + d / 256 < 32768 := by omega
  generalize d + d / 256 = e at b4 ⊢
  rw [y_us (by omega) _ 16 (by decide), nI_add, show (63 : Int32) = nI 63 from rfl, y_bcd]
/-! ===== questions to the run, first part ===== -/
theorem ym_ing {τ : j_G} {s : Nat} (h : τ.1 75 18 = nI s) (hs : s ≤ 60) (x : Int32) : f_X12_isInGame x τ = if y_rg x s then nI 1 else nI 0 := by
  unfold f_X12_isInGame; rw [h]; simp (disch := omega) only [y_lit, y_n1, nI_add, pk_mul, j_lt, j_b1_s, j_b2_s, j_b3_s, j_b0_s, y_bo, y_bo1, y_bo0, y_i0, y_i1, Classical.not_not, nI_clamp, y_ix, y_lt, y_le, y_eq, y_nP, y_nPs, y_ltP, y_ltQ, y_ltPP, y_eqP, y_eqQ, y_eqPP, if_pos, if_neg, ite_true, ite_false, not_true_eq_false, not_false_eq_true, and_true, true_and, and_false, false_and, or_true, true_or, or_false, false_or, y_lit64, y_in, y_c2]
section Z
variable {σ τ : j_G}
theorem z_hits (hR : j_Rel σ τ) (a1 : Int32) : ∃ v σ1 τ1, f_X11_hits a1 σ = some (v, σ1) ∧ f_X12_hits a1 τ = some (v, τ1) ∧ j_Rel σ1 τ1 := by
  obtain ⟨b, hW, hN, hM, hK⟩ := id hR
  by_cases h : y_rg a1 (b 6)
  · obtain ⟨p, hp, rfl⟩ := y_of _ _ h.1 h.2
    obtain ⟨σ1, e1, e2, e3, e4⟩ := yc_runOf hN hW hp
    obtain ⟨τ1, f1, f2, f3, f4, f5⟩ := ym_ras hM hW hp
    refine ⟨nI (y_own b p 0), σ1, τ1, ?_, ?_, y_done hR e4 f5⟩
    · unfold f_X11_hits; simp (disch := omega) only [y_lit, y_n1, nI_add, pk_mul, j_lt, j_b1_s, j_b2_s, j_b3_s, j_b0_s, y_bo, y_bo1, y_bo0, y_i0, y_i1, Classical.not_not, nI_clamp, y_ix, y_lt, y_le, y_eq, y_nP, y_nPs, y_ltP, y_ltQ, y_ltPP, y_eqP, y_eqQ, y_eqPP, if_pos, if_neg, ite_true, ite_false, not_true_eq_false, not_false_eq_true, and_true, true_and, and_false, false_and, or_true, true_or, or_false, false_or, e1, e3.1.1]
    · unfold f_X12_hits; simp (disch := omega) only [y_lit, y_n1, nI_add, pk_mul, j_lt, j_b1_s, j_b2_s, j_b3_s, j_b0_s, y_bo, y_bo1, y_bo0, y_i0, y_i1, Classical.not_not, nI_clamp, y_ix, y_lt, y_le, y_eq, y_nP, y_nPs, y_ltP, y_ltQ, y_ltPP, y_eqP, y_eqQ, y_eqPP, if_pos, if_neg, ite_true, ite_false, not_true_eq_false, not_false_eq_true, and_true, true_and, and_false, false_and, or_true, true_or, or_false, false_or, ym_isPlayer hM hW, if_pos h, f1, f3.1.1]
  · refine ⟨-2, σ, τ, ?_, ?_, hR⟩
    · unfold f_X11_hits; rw [yc_unrun hN hW h]; simp (disch := omega) only [y_lit, y_n1, nI_add, pk_mul, j_lt, j_b1_s, j_b2_s, j_b3_s, j_b0_s, y_bo, y_bo1, y_bo0, y_i0, y_i1, Classical.not_not, nI_clamp, y_ix, y_lt, y_le, y_eq, y_nP, y_nPs, y_ltP, y_ltQ, y_ltPP, y_eqP, y_eqQ, y_eqPP, if_pos, if_neg, ite_true, ite_false, not_true_eq_false, not_false_eq_true, and_true, true_and, and_false, false_and, or_true, true_or, or_false, false_or]
    · unfold f_X12_hits; rw [ym_isPlayer hM hW, if_neg h]; simp (disch := omega) only [y_lit, y_n1, nI_add, pk_mul, j_lt, j_b1_s, j_b2_s, j_b3_s, j_b0_s, y_bo, y_bo1, y_bo0, y_i0, y_i1, Classical.not_not, nI_clamp, y_ix, y_lt, y_le, y_eq, y_nP, y_nPs, y_ltP, y_ltQ, y_ltPP, y_eqP, y_eqQ, y_eqPP, if_pos, if_neg, ite_true, ite_false, not_true_eq_false, not_false_eq_true, and_true, true_and, and_false, false_and, or_true, true_or, or_false, false_or]
theorem z_walked (hR : j_Rel σ τ) (a1 : Int32) : ∃ v σ1 τ1, f_X11_walked a1 σ = some (v, σ1) ∧ f_X12_walked a1 τ = some (v, τ1) ∧ j_Rel σ1 τ1 := by
  obtain ⟨b, hW, hN, hM, hK⟩ := id hR
  by_cases h : y_rg a1 (b 6)
  · obtain ⟨p, hp, rfl⟩ := y_of _ _ h.1 h.2
    obtain ⟨σ1, e1, e2, e3, e4⟩ := yc_runOf hN hW hp
    obtain ⟨τ1, f1, f2, f3, f4, f5⟩ := ym_ras hM hW hp
    refine ⟨nI (y_own b p 1), σ1, τ1, ?_, ?_, y_done hR e4 f5⟩
    · unfold f_X11_walked; simp (disch := omega) only [y_lit, y_n1, nI_add, pk_mul, j_lt, j_b1_s, j_b2_s, j_b3_s, j_b0_s, y_bo, y_bo1, y_bo0, y_i0, y_i1, Classical.not_not, nI_clamp, y_ix, y_lt, y_le, y_eq, y_nP, y_nPs, y_ltP, y_ltQ, y_ltPP, y_eqP, y_eqQ, y_eqPP, if_pos, if_neg, ite_true, ite_false, not_true_eq_false, not_false_eq_true, and_true, true_and, and_false, false_and, or_true, true_or, or_false, false_or, e1, e3.1.2.1]
    · unfold f_X12_walked; simp (disch := omega) only [y_lit, y_n1, nI_add, pk_mul, j_lt, j_b1_s, j_b2_s, j_b3_s, j_b0_s, y_bo, y_bo1, y_bo0, y_i0, y_i1, Classical.not_not, nI_clamp, y_ix, y_lt, y_le, y_eq, y_nP, y_nPs, y_ltP, y_ltQ, y_ltPP, y_eqP, y_eqQ, y_eqPP, if_pos, if_neg, ite_true, ite_false, not_true_eq_false, not_false_eq_true, and_true, true_and, and_false, false_and, or_true, true_or, or_false, false_or, ym_isPlayer hM hW, if_pos h, f1, f3.1.2.1]
  · refine ⟨-2, σ, τ, ?_, ?_, hR⟩
    · unfold f_X11_walked; rw [yc_unrun hN hW h]; simp (disch := omega) only [y_lit, y_n1, nI_add, pk_mul, j_lt, j_b1_s, j_b2_s, j_b3_s, j_b0_s, y_bo, y_bo1, y_bo0, y_i0, y_i1, Classical.not_not, nI_clamp, y_ix, y_lt, y_le, y_eq, y_nP, y_nPs, y_ltP, y_ltQ, y_ltPP, y_eqP, y_eqQ, y_eqPP, if_pos, if_neg, ite_true, ite_false, not_true_eq_false, not_false_eq_true, and_true, true_and, and_false, false_and, or_true, true_or, or_false, false_or]
    · unfold f_X12_walked; rw [ym_isPlayer hM hW, if_neg h]; simp (disch := omega) only [y_lit, y_n1, nI_add, pk_mul, j_lt, j_b1_s, j_b2_s, j_b3_s, j_b0_s, y_bo, y_bo1, y_bo0, y_i0, y_i1, Classical.not_not, nI_clamp, y_ix, y_lt, y_le, y_eq, y_nP, y_nPs, y_ltP, y_ltQ, y_ltPP, y_eqP, y_eqQ, y_eqPP, if_pos, if_neg, ite_true, ite_false, not_true_eq_false, not_false_eq_true, and_true, true_and, and_false, false_and, or_true, true_or, or_false, false_or]
theorem z_hit (hR : j_Rel σ τ) (a1 a2 : Int32) : ∃ v σ1 τ1, f_X11_hit a1 a2 σ = some (v, σ1) ∧ f_X12_hit a1 a2 τ = some (v, τ1) ∧ j_Rel σ1 τ1 := by
  obtain ⟨b, hW, hN, hM, hK⟩ := id hR
  have hs := y_gs_le (b := b)
  by_cases h : y_rg a1 (b 6)
  · obtain ⟨p, hp, rfl⟩ := y_of _ _ h.1 h.2
    obtain ⟨σ1, e1, e2, e3, e4⟩ := yc_runOf hN hW hp
    obtain ⟨τ1, f1, f2, f3, f4, f5⟩ := ym_ras hM hW hp
    by_cases h2 : y_rg a2 (y_gs b)
    · obtain ⟨i, hi, rfl⟩ := y_of _ _ h2.1 h2.2
      have c := e3.2.2 i hi
      have m := f3.2.2 i hi
      refine ⟨nP (y_own b p (1000 + 2 * i)), σ1, τ1, ?_, ?_, y_done hR e4 f5⟩
      · unfold f_X11_hit; simp (disch := omega) only [y_lit, y_n1, nI_add, pk_mul, j_lt, j_b1_s, j_b2_s, j_b3_s, j_b0_s, y_bo, y_bo1, y_bo0, y_i0, y_i1, Classical.not_not, nI_clamp, y_ix, y_lt, y_le, y_eq, y_nP, y_nPs, y_ltP, y_ltQ, y_ltPP, y_eqP, y_eqQ, y_eqPP, if_pos, if_neg, ite_true, ite_false, not_true_eq_false, not_false_eq_true, and_true, true_and, and_false, false_and, or_true, true_or, or_false, false_or, e1, yc_ghas e2.2.1 hs, y_rn, c]
      · unfold f_X12_hit; simp (disch := omega) only [y_lit, y_n1, nI_add, pk_mul, j_lt, j_b1_s, j_b2_s, j_b3_s, j_b0_s, y_bo, y_bo1, y_bo0, y_i0, y_i1, Classical.not_not, nI_clamp, y_ix, y_lt, y_le, y_eq, y_nP, y_nPs, y_ltP, y_ltQ, y_ltPP, y_eqP, y_eqQ, y_eqPP, if_pos, if_neg, ite_true, ite_false, not_true_eq_false, not_false_eq_true, and_true, true_and, and_false, false_and, or_true, true_or, or_false, false_or, ym_isPlayer hM hW, if_pos h, f1, ym_ing f2.2.1 hs, y_rn, m]
    · refine ⟨-1, σ1, τ1, ?_, ?_, y_done hR e4 f5⟩
      · unfold f_X11_hit; simp (disch := omega) only [y_lit, y_n1, nI_add, pk_mul, j_lt, j_b1_s, j_b2_s, j_b3_s, j_b0_s, y_bo, y_bo1, y_bo0, y_i0, y_i1, Classical.not_not, nI_clamp, y_ix, y_lt, y_le, y_eq, y_nP, y_nPs, y_ltP, y_ltQ, y_ltPP, y_eqP, y_eqQ, y_eqPP, if_pos, if_neg, ite_true, ite_false, not_true_eq_false, not_false_eq_true, and_true, true_and, and_false, false_and, or_true, true_or, or_false, false_or, e1, yc_ghas e2.2.1 hs, h2]
      · unfold f_X12_hit; simp (disch := omega) only [y_lit, y_n1, nI_add, pk_mul, j_lt, j_b1_s, j_b2_s, j_b3_s, j_b0_s, y_bo, y_bo1, y_bo0, y_i0, y_i1, Classical.not_not, nI_clamp, y_ix, y_lt, y_le, y_eq, y_nP, y_nPs, y_ltP, y_ltQ, y_ltPP, y_eqP, y_eqQ, y_eqPP, if_pos, if_neg, ite_true, ite_false, not_true_eq_false, not_false_eq_true, and_true, true_and, and_false, false_and, or_true, true_or, or_false, false_or, ym_isPlayer hM hW, if_pos h, f1, ym_ing f2.2.1 hs, h2]
  · refine ⟨-2, σ, τ, ?_, ?_, hR⟩
    · unfold f_X11_hit; rw [yc_unrun hN hW h]; simp (disch := omega) only [y_lit, y_n1, nI_add, pk_mul, j_lt, j_b1_s, j_b2_s, j_b3_s, j_b0_s, y_bo, y_bo1, y_bo0, y_i0, y_i1, Classical.not_not, nI_clamp, y_ix, y_lt, y_le, y_eq, y_nP, y_nPs, y_ltP, y_ltQ, y_ltPP, y_eqP, y_eqQ, y_eqPP, if_pos, if_neg, ite_true, ite_false, not_true_eq_false, not_false_eq_true, and_true, true_and, and_false, false_and, or_true, true_or, or_false, false_or]
    · unfold f_X12_hit; rw [ym_isPlayer hM hW, if_neg h]; simp (disch := omega) only [y_lit, y_n1, nI_add, pk_mul, j_lt, j_b1_s, j_b2_s, j_b3_s, j_b0_s, y_bo, y_bo1, y_bo0, y_i0, y_i1, Classical.not_not, nI_clamp, y_ix, y_lt, y_le, y_eq, y_nP, y_nPs, y_ltP, y_ltQ, y_ltPP, y_eqP, y_eqQ, y_eqPP, if_pos, if_neg, ite_true, ite_false, not_true_eq_false, not_false_eq_true, and_true, true_and, and_false, false_and, or_true, true_or, or_false, false_or]
theorem z_twice (hR : j_Rel σ τ) (a1 a2 : Int32) : ∃ v σ1 τ1, f_X11_twice a1 a2 σ = some (v, σ1) ∧ f_X12_twice a1 a2 τ = some (v, τ1) ∧ j_Rel σ1 τ1 := by
  obtain ⟨b, hW, hN, hM, hK⟩ := id hR
  have hs := y_gs_le (b := b)
  by_cases h : y_rg a1 (b 6)
  · obtain ⟨p, hp, rfl⟩ := y_of _ _ h.1 h.2
    obtain ⟨σ1, e1, e2, e3, e4⟩ := yc_runOf hN hW hp
    obtain ⟨τ1, f1, f2, f3, f4, f5⟩ := ym_ras hM hW hp
    by_cases h2 : y_rg a2 (y_gs b)
    · obtain ⟨i, hi, rfl⟩ := y_of _ _ h2.1 h2.2
      have c := e3.2.2 i hi
      have m := f3.2.2 i hi
      refine ⟨nI (y_own b p (1001 + 2 * i)), σ1, τ1, ?_, ?_, y_done hR e4 f5⟩
      · unfold f_X11_twice; simp (disch := omega) only [y_lit, y_n1, nI_add, pk_mul, j_lt, j_b1_s, j_b2_s, j_b3_s, j_b0_s, y_bo, y_bo1, y_bo0, y_i0, y_i1, Classical.not_not, nI_clamp, y_ix, y_lt, y_le, y_eq, y_nP, y_nPs, y_ltP, y_ltQ, y_ltPP, y_eqP, y_eqQ, y_eqPP, if_pos, if_neg, ite_true, ite_false, not_true_eq_false, not_false_eq_true, and_true, true_and, and_false, false_and, or_true, true_or, or_false, false_or, e1, yc_ghas e2.2.1 hs, y_rn, c]
      · unfold f_X12_twice; simp (disch := omega) only [y_lit, y_n1, nI_add, pk_mul, j_lt, j_b1_s, j_b2_s, j_b3_s, j_b0_s, y_bo, y_bo1, y_bo0, y_i0, y_i1, Classical.not_not, nI_clamp, y_ix, y_lt, y_le, y_eq, y_nP, y_nPs, y_ltP, y_ltQ, y_ltPP, y_eqP, y_eqQ, y_eqPP, if_pos, if_neg, ite_true, ite_false, not_true_eq_false, not_false_eq_true, and_true, true_and, and_false, false_and, or_true, true_or, or_false, false_or, ym_isPlayer hM hW, if_pos h, f1, ym_ing f2.2.1 hs, y_rn, m]
    · refine ⟨-1, σ1, τ1, ?_, ?_, y_done hR e4 f5⟩
      · unfold f_X11_twice; simp (disch := omega) only [y_lit, y_n1, nI_add, pk_mul, j_lt, j_b1_s, j_b2_s, j_b3_s, j_b0_s, y_bo, y_bo1, y_bo0, y_i0, y_i1, Classical.not_not, nI_clamp, y_ix, y_lt, y_le, y_eq, y_nP, y_nPs, y_ltP, y_ltQ, y_ltPP, y_eqP, y_eqQ, y_eqPP, if_pos, if_neg, ite_true, ite_false, not_true_eq_false, not_false_eq_true, and_true, true_and, and_false, false_and, or_true, true_or, or_false, false_or, e1, yc_ghas e2.2.1 hs, h2]
      · unfold f_X12_twice; simp (disch := omega) only [y_lit, y_n1, nI_add, pk_mul, j_lt, j_b1_s, j_b2_s, j_b3_s, j_b0_s, y_bo, y_bo1, y_bo0, y_i0, y_i1, Classical.not_not, nI_clamp, y_ix, y_lt, y_le, y_eq, y_nP, y_nPs, y_ltP, y_ltQ, y_ltPP, y_eqP, y_eqQ, y_eqPP, if_pos, if_neg, ite_true, ite_false, not_true_eq_false, not_false_eq_true, and_true, true_and, and_false, false_and, or_true, true_or, or_false, false_or, ym_isPlayer hM hW, if_pos h, f1, ym_ing f2.2.1 hs, h2]
  · refine ⟨-2, σ, τ, ?_, ?_, hR⟩
    · unfold f_X11_twice; rw [yc_unrun hN hW h]; simp (disch := omega) only [y_lit, y_n1, nI_add, pk_mul, j_lt, j_b1_s, j_b2_s, j_b3_s, j_b0_s, y_bo, y_bo1, y_bo0, y_i0, y_i1, Classical.not_not, nI_clamp, y_ix, y_lt, y_le, y_eq, y_nP, y_nPs, y_ltP, y_ltQ, y_ltPP, y_eqP, y_eqQ, y_eqPP, if_pos, if_neg, ite_true, ite_false, not_true_eq_false, not_false_eq_true, and_true, true_and, and_false, false_and, or_true, true_or, or_false, false_or]
    · unfold f_X12_twice; rw [ym_isPlayer hM hW, if_neg h]; simp (disch := omega) only [y_lit, y_n1, nI_add, pk_mul, j_lt, j_b1_s, j_b2_s, j_b3_s, j_b0_s, y_bo, y_bo1, y_bo0, y_i0, y_i1, Classical.not_not, nI_clamp, y_ix, y_lt, y_le, y_eq, y_nP, y_nPs, y_ltP, y_ltQ, y_ltPP, y_eqP, y_eqQ, y_eqPP, if_pos, if_neg, ite_true, ite_false, not_true_eq_false, not_false_eq_true, and_true, true_and, and_false, false_and, or_true, true_or, or_false, false_or]
theorem z_comings (hR : j_Rel σ τ) : ∃ v σ1 τ1, f_X11_comings σ = some (v, σ1) ∧ f_X12_comings τ = some (v, τ1) ∧ j_Rel σ1 τ1 := by
  obtain ⟨b, hW, hN, hM, hK⟩ := id hR
  by_cases h : 0 < b 9
  · obtain ⟨σ1, e1, e2, e3⟩ := yc_dealt hN hW
    obtain ⟨τ1, f1, f2, f3⟩ := ym_laid hM hW
    refine ⟨nI (y_gs b), σ1, τ1, ?_, ?_, y_done hR (e3.wide (by omega) (by omega)) f3⟩
    · unfold f_X11_comings; simp (disch := omega) only [y_lit, y_n1, nI_add, pk_mul, j_lt, j_b1_s, j_b2_s, j_b3_s, j_b0_s, y_bo, y_bo1, y_bo0, y_i0, y_i1, Classical.not_not, nI_clamp, y_ix, y_lt, y_le, y_eq, y_nP, y_nPs, y_ltP, y_ltQ, y_ltPP, y_eqP, y_eqQ, y_eqPP, if_pos, if_neg, ite_true, ite_false, not_true_eq_false, not_false_eq_true, and_true, true_and, and_false, false_and, or_true, true_or, or_false, false_or, yc_isTold hN hW, e1, e2.1]
    · unfold f_X12_comings; simp (disch := omega) only [y_lit, y_n1, nI_add, pk_mul, j_lt, j_b1_s, j_b2_s, j_b3_s, j_b0_s, y_bo, y_bo1, y_bo0, y_i0, y_i1, Classical.not_not, nI_clamp, y_ix, y_lt, y_le, y_eq, y_nP, y_nPs, y_ltP, y_ltQ, y_ltPP, y_eqP, y_eqQ, y_eqPP, if_pos, if_neg, ite_true, ite_false, not_true_eq_false, not_false_eq_true, and_true, true_and, and_false, false_and, or_true, true_or, or_false, false_or, ym_isBoard hM hW, f1, f2.2.1]
  · refine ⟨-2, σ, τ, ?_, ?_, hR⟩
    · unfold f_X11_comings; simp (disch := omega) only [y_lit, y_n1, nI_add, pk_mul, j_lt, j_b1_s, j_b2_s, j_b3_s, j_b0_s, y_bo, y_bo1, y_bo0, y_i0, y_i1, Classical.not_not, nI_clamp, y_ix, y_lt, y_le, y_eq, y_nP, y_nPs, y_ltP, y_ltQ, y_ltPP, y_eqP, y_eqQ, y_eqPP, if_pos, if_neg, ite_true, ite_false, not_true_eq_false, not_false_eq_true, and_true, true_and, and_false, false_and, or_true, true_or, or_false, false_or, yc_isTold hN hW]
    · unfold f_X12_comings; simp (disch := omega) only [y_lit, y_n1, nI_add, pk_mul, j_lt, j_b1_s, j_b2_s, j_b3_s, j_b0_s, y_bo, y_bo1, y_bo0, y_i0, y_i1, Classical.not_not, nI_clamp, y_ix, y_lt, y_le, y_eq, y_nP, y_nPs, y_ltP, y_ltQ, y_ltPP, y_eqP, y_eqQ, y_eqPP, if_pos, if_neg, ite_true, ite_false, not_true_eq_false, not_false_eq_true, and_true, true_and, and_false, false_and, or_true, true_or, or_false, false_or, ym_isBoard hM hW]
theorem z_stay (hR : j_Rel σ τ) (a1 : Int32) : ∃ v, f_X11_stay a1 σ = some v ∧ f_X12_stay a1 τ = some v := by
  obtain ⟨b, hW, hN, hM, hK⟩ := id hR
  have h2 := hW.b2
  by_cases h : y_rg a1 (b 2)
  · obtain ⟨t, ht, rfl⟩ := y_of _ _ h.1 h.2
    refine ⟨nI (y_stay b t), ?_, ?_⟩
    · unfold f_X11_stay; simp (disch := omega) only [y_lit, y_n1, nI_add, pk_mul, j_lt, j_b1_s, j_b2_s, j_b3_s, j_b0_s, y_bo, y_bo1, y_bo0, y_i0, y_i1, Classical.not_not, nI_clamp, y_ix, y_lt, y_le, y_eq, y_nP, y_nPs, y_ltP, y_ltQ, y_ltPP, y_eqP, y_eqQ, y_eqPP, if_pos, if_neg, ite_true, ite_false, not_true_eq_false, not_false_eq_true, and_true, true_and, and_false, false_and, or_true, true_or, or_false, false_or, yc_isTick hN hW, y_rn, yc_stay hN hW]
    · unfold f_X12_stay; simp (disch := omega) only [y_lit, y_n1, nI_add, pk_mul, j_lt, j_b1_s, j_b2_s, j_b3_s, j_b0_s, y_bo, y_bo1, y_bo0, y_i0, y_i1, Classical.not_not, nI_clamp, y_ix, y_lt, y_le, y_eq, y_nP, y_nPs, y_ltP, y_ltQ, y_ltPP, y_eqP, y_eqQ, y_eqPP, if_pos, if_neg, ite_true, ite_false, not_true_eq_false, not_false_eq_true, and_true, true_and, and_false, false_and, or_true, true_or, or_false, false_or, ym_isTick hM hW, y_rn, ym_stay hM hW]
  · refine ⟨-2, ?_, ?_⟩
    · unfold f_X11_stay; simp (disch := omega) only [y_lit, y_n1, nI_add, pk_mul, j_lt, j_b1_s, j_b2_s, j_b3_s, j_b0_s, y_bo, y_bo1, y_bo0, y_i0, y_i1, Classical.not_not, nI_clamp, y_ix, y_lt, y_le, y_eq, y_nP, y_nPs, y_ltP, y_ltQ, y_ltPP, y_eqP, y_eqQ, y_eqPP, if_pos, if_neg, ite_true, ite_false, not_true_eq_false, not_false_eq_true, and_true, true_and, and_false, false_and, or_true, true_or, or_false, false_or, yc_isTick hN hW, h]
    · unfold f_X12_stay; simp (disch := omega) only [y_lit, y_n1, nI_add, pk_mul, j_lt, j_b1_s, j_b2_s, j_b3_s, j_b0_s, y_bo, y_bo1, y_bo0, y_i0, y_i1, Classical.not_not, nI_clamp, y_ix, y_lt, y_le, y_eq, y_nP, y_nPs, y_ltP, y_ltQ, y_ltPP, y_eqP, y_eqQ, y_eqPP, if_pos, if_neg, ite_true, ite_false, not_true_eq_false, not_false_eq_true, and_true, true_and, and_false, false_and, or_true, true_or, or_false, false_or, ym_isTick hM hW, h]
theorem z_steps (hR : j_Rel σ τ) (a1 a2 : Int32) : ∃ v, f_X11_steps a1 a2 σ = some v ∧ f_X12_steps a1 a2 τ = some v := by
  obtain ⟨b, hW, hN, hM, hK⟩ := id hR
  have h2 := hW.ho
  by_cases h : y_rg a1 (y_ho b)
  · by_cases h3 : y_rg a2 (y_ho b)
    · have h9 : 0 < b 9 := hW.on0 (by omega)
      obtain ⟨x, hx, rfl⟩ := y_of _ _ h.1 h.2
      obtain ⟨y, hy, rfl⟩ := y_of _ _ h3.1 h3.2
      refine ⟨nI (y_ap b x y), ?_, ?_⟩
      · unfold f_X11_steps; simp (disch := omega) only [y_lit, y_n1, nI_add, pk_mul, j_lt, j_b1_s, j_b2_s, j_b3_s, j_b0_s, y_bo, y_bo1, y_bo0, y_i0, y_i1, Classical.not_not, nI_clamp, y_ix, y_lt, y_le, y_eq, y_nP, y_nPs, y_ltP, y_ltQ, y_ltPP, y_eqP, y_eqQ, y_eqPP, if_pos, if_neg, ite_true, ite_false, not_true_eq_false, not_false_eq_true, and_true, true_and, and_false, false_and, or_true, true_or, or_false, false_or, yc_isHole hN hW, y_rn, yc_apart hN hW h9]
      · unfold f_X12_steps; simp (disch := omega) only [y_lit, y_n1, nI_add, pk_mul, j_lt, j_b1_s, j_b2_s, j_b3_s, j_b0_s, y_bo, y_bo1, y_bo0, y_i0, y_i1, Classical.not_not, nI_clamp, y_ix, y_lt, y_le, y_eq, y_nP, y_nPs, y_ltP, y_ltQ, y_ltPP, y_eqP, y_eqQ, y_eqPP, if_pos, if_neg, ite_true, ite_false, not_true_eq_false, not_false_eq_true, and_true, true_and, and_false, false_and, or_true, true_or, or_false, false_or, ym_isHole hM hW, y_rn, ym_stepsOf hM hW h9]
    · refine ⟨-2, ?_, ?_⟩
      · unfold f_X11_steps; simp (disch := omega) only [y_lit, y_n1, nI_add, pk_mul, j_lt, j_b1_s, j_b2_s, j_b3_s, j_b0_s, y_bo, y_bo1, y_bo0, y_i0, y_i1, Classical.not_not, nI_clamp, y_ix, y_lt, y_le, y_eq, y_nP, y_nPs, y_ltP, y_ltQ, y_ltPP, y_eqP, y_eqQ, y_eqPP, if_pos, if_neg, ite_true, ite_false, not_true_eq_false, not_false_eq_true, and_true, true_and, and_false, false_and, or_true, true_or, or_false, false_or, yc_isHole hN hW, h, h3]
      · unfold f_X12_steps; simp (disch := omega) only [y_lit, y_n1, nI_add, pk_mul, j_lt, j_b1_s, j_b2_s, j_b3_s, j_b0_s, y_bo, y_bo1, y_bo0, y_i0, y_i1, Classical.not_not, nI_clamp, y_ix, y_lt, y_le, y_eq, y_nP, y_nPs, y_ltP, y_ltQ, y_ltPP, y_eqP, y_eqQ, y_eqPP, if_pos, if_neg, ite_true, ite_false, not_true_eq_false, not_false_eq_true, and_true, true_and, and_false, false_and, or_true, true_or, or_false, false_or, ym_isHole hM hW, h, h3]
  · refine ⟨-2, ?_, ?_⟩
    · unfold f_X11_steps; simp (disch := omega) only [y_lit, y_n1, nI_add, pk_mul, j_lt, j_b1_s, j_b2_s, j_b3_s, j_b0_s, y_bo, y_bo1, y_bo0, y_i0, y_i1, Classical.not_not, nI_clamp, y_ix, y_lt, y_le, y_eq, y_nP, y_nPs, y_ltP, y_ltQ, y_ltPP, y_eqP, y_eqQ, y_eqPP, if_pos, if_neg, ite_true, ite_false, not_true_eq_false, not_false_eq_true, and_true, true_and, and_false, false_and, or_true, true_or, or_false, false_or, yc_isHole hN hW, h]
    · unfold f_X12_steps; simp (disch := omega) only [y_lit, y_n1, nI_add, pk_mul, j_lt, j_b1_s, j_b2_s, j_b3_s, j_b0_s, y_bo, y_bo1, y_bo0, y_i0, y_i1, Classical.not_not, nI_clamp, y_ix, y_lt, y_le, y_eq, y_nP, y_nPs, y_ltP, y_ltQ, y_ltPP, y_eqP, y_eqQ, y_eqPP, if_pos, if_neg, ite_true, ite_false, not_true_eq_false, not_false_eq_true, and_true, true_and, and_false, false_and, or_true, true_or, or_false, false_or, ym_isHole hM hW, h]
theorem z_pace (hR : j_Rel σ τ) (a1 a2 : Int32) : ∃ v σ1, f_X11_pace a1 a2 σ = some (v, σ1) ∧ f_X12_pace a1 a2 τ = some v ∧ j_Rel σ1 τ := by
  obtain ⟨b, hW, hN, hM, hK⟩ := id hR
  have h2 := hW.b2
  have h6 := hW.b6
  by_cases h : y_rg a1 (b 6)
  · by_cases h3 : y_rg a2 (b 2)
    · obtain ⟨p, hp, rfl⟩ := y_of _ _ h.1 h.2
      obtain ⟨t, ht, rfl⟩ := y_of _ _ h3.1 h3.2
      obtain ⟨σ1, e1, e2, e3⟩ := yc_take (a := 28) hN hW hp (by omega)
      have hq := y_pqv hW hp
      refine ⟨nI (y_pc (y_pq b p) t), σ1, ?_, ?_, y_done hR (e3.wide (by omega) (by omega)) y_fm.refl⟩
      · unfold f_X11_pace; simp (disch := omega) only [y_lit, y_n1, nI_add, pk_mul, j_lt, j_b1_s, j_b2_s, j_b3_s, j_b0_s, y_bo, y_bo1, y_bo0, y_i0, y_i1, Classical.not_not, nI_clamp, y_ix, y_lt, y_le, y_eq, y_nP, y_nPs, y_ltP, y_ltQ, y_ltPP, y_eqP, y_eqQ, y_eqPP, if_pos, if_neg, ite_true, ite_false, not_true_eq_false, not_false_eq_true, and_true, true_and, and_false, false_and, or_true, true_or, or_false, false_or, yc_isTick hN hW, yc_isPlayer hN hW, y_rn, e1, yc_pace e2 hq]
      · have e := ym_pace (q := y_pq b p) hM hW hp rfl (by show b (98 + 5 * p) = b (96 + 5 * p + 2); congr 1; omega) hq (t := t) (by omega)
        unfold f_X12_pace; simp (disch := omega) only [y_lit, y_n1, nI_add, pk_mul, j_lt, j_b1_s, j_b2_s, j_b3_s, j_b0_s, y_bo, y_bo1, y_bo0, y_i0, y_i1, Classical.not_not, nI_clamp, y_ix, y_lt, y_le, y_eq, y_nP, y_nPs, y_ltP, y_ltQ, y_ltPP, y_eqP, y_eqQ, y_eqPP, if_pos, if_neg, ite_true, ite_false, not_true_eq_false, not_false_eq_true, and_true, true_and, and_false, false_and, or_true, true_or, or_false, false_or, ym_isTick hM hW, ym_isPlayer hM hW, y_rn, e]
    · refine ⟨-2, σ, ?_, ?_, hR⟩
      · unfold f_X11_pace; simp (disch := omega) only [y_lit, y_n1, nI_add, pk_mul, j_lt, j_b1_s, j_b2_s, j_b3_s, j_b0_s, y_bo, y_bo1, y_bo0, y_i0, y_i1, Classical.not_not, nI_clamp, y_ix, y_lt, y_le, y_eq, y_nP, y_nPs, y_ltP, y_ltQ, y_ltPP, y_eqP, y_eqQ, y_eqPP, if_pos, if_neg, ite_true, ite_false, not_true_eq_false, not_false_eq_true, and_true, true_and, and_false, false_and, or_true, true_or, or_false, false_or, yc_isTick hN hW, yc_isPlayer hN hW, h, h3]
      · unfold f_X12_pace; simp (disch := omega) only [y_lit, y_n1, nI_add, pk_mul, j_lt, j_b1_s, j_b2_s, j_b3_s, j_b0_s, y_bo, y_bo1, y_bo0, y_i0, y_i1, Classical.not_not, nI_clamp, y_ix, y_lt, y_le, y_eq, y_nP, y_nPs, y_ltP, y_ltQ, y_ltPP, y_eqP, y_eqQ, y_eqPP, if_pos, if_neg, ite_true, ite_false, not_true_eq_false, not_false_eq_true, and_true, true_and, and_false, false_and, or_true, true_or, or_false, false_or, ym_isTick hM hW, ym_isPlayer hM hW, h, h3]
  · refine ⟨-2, σ, ?_, ?_, hR⟩
    · unfold f_X11_pace; simp (disch := omega) only [y_lit, y_n1, nI_add, pk_mul, j_lt, j_b1_s, j_b2_s, j_b3_s, j_b0_s, y_bo, y_bo1, y_bo0, y_i0, y_i1, Classical.not_not, nI_clamp, y_ix, y_lt, y_le, y_eq, y_nP, y_nPs, y_ltP, y_ltQ, y_ltPP, y_eqP, y_eqQ, y_eqPP, if_pos, if_neg, ite_true, ite_false, not_true_eq_false, not_false_eq_true, and_true, true_and, and_false, false_and, or_true, true_or, or_false, false_or, yc_isPlayer hN hW, h]
    · unfold f_X12_pace; simp (disch := omega) only [y_lit, y_n1, nI_add, pk_mul, j_lt, j_b1_s, j_b2_s, j_b3_s, j_b0_s, y_bo, y_bo1, y_bo0, y_i0, y_i1, Classical.not_not, nI_clamp, y_ix, y_lt, y_le, y_eq, y_nP, y_nPs, y_ltP, y_ltQ, y_ltPP, y_eqP, y_eqQ, y_eqPP, if_pos, if_neg, ite_true, ite_false, not_true_eq_false, not_false_eq_true, and_true, true_and, and_false, false_and, or_true, true_or, or_false, false_or, ym_isPlayer hM hW, h]
theorem z_aware (hR : j_Rel σ τ) (a1 a2 : Int32) : ∃ v σ1 τ1, f_X11_aware a1 a2 σ = some (v, σ1) ∧ f_X12_aware a1 a2 τ = some (v, τ1) ∧ j_Rel σ1 τ1 := by
  obtain ⟨b, hW, hN, hM, hK⟩ := id hR
  have hs := y_gs_le (b := b)
  by_cases h : y_rg a1 (b 6)
  · obtain ⟨p, hp, rfl⟩ := y_of _ _ h.1 h.2
    have hq := y_pqv hW hp
    have hv := y_dg_vg hW (b 8)
    obtain ⟨σ1, e1, ⟨e2, e3, e4⟩, e5⟩ := yc_ready hN hW hp
    obtain ⟨τ1, f1, f2, f3⟩ := ym_laid hM hW
    obtain ⟨τ2, g1, g2, g3, g4, g5⟩ := ym_told f2.1 hW hp
    have f2' := f2.fr g5 (by omega) (by omega)
    have hr := y_done hR e5 (f3.trans (g5.wide (by omega) (by omega) (by omega) (by omega)))
    by_cases h2 : y_rg a2 (y_gs b)
    · obtain ⟨i, hi, rfl⟩ := y_of _ _ h2.1 h2.2
      refine ⟨nI (y_aw b (y_pq b p) i), σ1, τ2, ?_, ?_, hr⟩
      · unfold f_X11_aware; simp (disch := omega) only [y_lit, y_n1, nI_add, pk_mul, j_lt, j_b1_s, j_b2_s, j_b3_s, j_b0_s, y_bo, y_bo1, y_bo0, y_i0, y_i1, Classical.not_not, nI_clamp, y_ix, y_lt, y_le, y_eq, y_nP, y_nPs, y_ltP, y_ltQ, y_ltPP, y_eqP, y_eqQ, y_eqPP, if_pos, if_neg, ite_true, ite_false, not_true_eq_false, not_false_eq_true, and_true, true_and, and_false, false_and, or_true, true_or, or_false, false_or, e1, yc_ghas e3 hs, y_rn, yc_awareOf e3 hv e4 hq hW]
      · unfold f_X12_aware; simp (disch := omega) only [y_lit, y_n1, nI_add, pk_mul, j_lt, j_b1_s, j_b2_s, j_b3_s, j_b0_s, y_bo, y_bo1, y_bo0, y_i0, y_i1, Classical.not_not, nI_clamp, y_ix, y_lt, y_le, y_eq, y_nP, y_nPs, y_ltP, y_ltQ, y_ltPP, y_eqP, y_eqQ, y_eqPP, if_pos, if_neg, ite_true, ite_false, not_true_eq_false, not_false_eq_true, and_true, true_and, and_false, false_and, or_true, true_or, or_false, false_or, ym_isPlayer hM hW, if_pos h, f1, g1, ym_ing f2'.2.1 hs, y_rn, ym_awareOf f2'.2 hv g2 hq hW]
    · refine ⟨-1, σ1, τ2, ?_, ?_, hr⟩
      · unfold f_X11_aware; simp (disch := omega) only [y_lit, y_n1, nI_add, pk_mul, j_lt, j_b1_s, j_b2_s, j_b3_s, j_b0_s, y_bo, y_bo1, y_bo0, y_i0, y_i1, Classical.not_not, nI_clamp, y_ix, y_lt, y_le, y_eq, y_nP, y_nPs, y_ltP, y_ltQ, y_ltPP, y_eqP, y_eqQ, y_eqPP, if_pos, if_neg, ite_true, ite_false, not_true_eq_false, not_false_eq_true, and_true, true_and, and_false, false_and, or_true, true_or, or_false, false_or, e1, yc_ghas e3 hs, h2]
      · unfold f_X12_aware; simp (disch := omega) only [y_lit, y_n1, nI_add, pk_mul, j_lt, j_b1_s, j_b2_s, j_b3_s, j_b0_s, y_bo, y_bo1, y_bo0, y_i0, y_i1, Classical.not_not, nI_clamp, y_ix, y_lt, y_le, y_eq, y_nP, y_nPs, y_ltP, y_ltQ, y_ltPP, y_eqP, y_eqQ, y_eqPP, if_pos, if_neg, ite_true, ite_false, not_true_eq_false, not_false_eq_true, and_true, true_and, and_false, false_and, or_true, true_or, or_false, false_or, ym_isPlayer hM hW, if_pos h, f1, g1, ym_ing f2'.2.1 hs, h2]
  · refine ⟨-2, σ, τ, ?_, ?_, hR⟩
    · unfold f_X11_aware; rw [yc_unready hN hW h]; simp (disch := omega) only [y_lit, y_n1, nI_add, pk_mul, j_lt, j_b1_s, j_b2_s, j_b3_s, j_b0_s, y_bo, y_bo1, y_bo0, y_i0, y_i1, Classical.not_not, nI_clamp, y_ix, y_lt, y_le, y_eq, y_nP, y_nPs, y_ltP, y_ltQ, y_ltPP, y_eqP, y_eqQ, y_eqPP, if_pos, if_neg, ite_true, ite_false, not_true_eq_false, not_false_eq_true, and_true, true_and, and_false, false_and, or_true, true_or, or_false, false_or]
    · unfold f_X12_aware; rw [ym_isPlayer hM hW, if_neg h]; simp (disch := omega) only [y_lit, y_n1, nI_add, pk_mul, j_lt, j_b1_s, j_b2_s, j_b3_s, j_b0_s, y_bo, y_bo1, y_bo0, y_i0, y_i1, Classical.not_not, nI_clamp, y_ix, y_lt, y_le, y_eq, y_nP, y_nPs, y_ltP, y_ltQ, y_ltPP, y_eqP, y_eqQ, y_eqPP, if_pos, if_neg, ite_true, ite_false, not_true_eq_false, not_false_eq_true, and_true, true_and, and_false, false_and, or_true, true_or, or_false, false_or]
end Z
/-! ===== questions, second part ===== -/
section Z
variable {σ τ : j_G}
theorem z_fault (hR : j_Rel σ τ) (a1 : Int32) : f_X11_fault a1 σ = f_X12_fault a1 τ := by
  obtain ⟨b, hW, hN, hM, hK⟩ := id hR
  have f := hK.2.2.2
  unfold f_X11_fault f_X12_fault
  rw [f.1, f.2]
theorem z_drum (hR : j_Rel σ τ) (a1 a2 : Int32) : ∃ v, f_X11_drum a1 a2 σ = some v ∧ f_X12_drum a1 a2 τ = some v := by
  obtain ⟨b, hW, hN, hM, hK⟩ := id hR
  have h5 := hW.b5
  have w : y_rg a2 3 ↔ a2 = nI 0 ∨ a2 = nI 1 ∨ a2 = nI 2 := by
    unfold y_rg; rw [y_eqr (by omega), y_eqr (by omega), y_eqr (by omega)]; omega
  have ei : f_X12_in a2.toInt64 (0 : Int64) (2 : Int64) = if y_rg a2 3 then nI 1 else nI 0 := by
    simp (disch := omega) only [y_lit, y_n1, nI_add, pk_mul, j_lt, j_b1_s, j_b2_s, j_b3_s, j_b0_s, y_bo, y_bo1, y_bo0, y_i0, y_i1, Classical.not_not, nI_clamp, y_ix, y_lt, y_le, y_eq, y_nP, y_nPs, y_ltP, y_ltQ, y_ltPP, y_eqP, y_eqQ, y_eqPP, if_pos, if_neg, ite_true, ite_false, not_true_eq_false, not_false_eq_true, and_true, true_and, and_false, false_and, or_true, true_or, or_false, false_or, y_lit64, y_in]
    rw [show nI 2 = nP 3 from rfl]; simp (disch := omega) only [y_c2]
  by_cases h : y_rg a1 (b 5)
  · obtain ⟨k, hk, rfl⟩ := y_of _ _ h.1 h.2
    by_cases c : y_rg a2 3
    · rcases w.mp c with rfl | rfl | rfl
      · refine ⟨nI (b (24 + 3 * k)), ?_, ?_⟩
        · unfold f_X11_drum; simp (disch := omega) only [y_lit, y_n1, nI_add, pk_mul, j_lt, j_b1_s, j_b2_s, j_b3_s, j_b0_s, y_bo, y_bo1, y_bo0, y_i0, y_i1, Classical.not_not, nI_clamp, y_ix, y_lt, y_le, y_eq, y_nP, y_nPs, y_ltP, y_ltQ, y_ltPP, y_eqP, y_eqQ, y_eqPP, if_pos, if_neg, ite_true, ite_false, not_true_eq_false, not_false_eq_true, and_true, true_and, and_false, false_and, or_true, true_or, or_false, false_or, yc_has hN hW, y_rn, hN.k0 hk]
        · unfold f_X12_drum; simp (disch := omega) only [y_lit, y_n1, nI_add, pk_mul, j_lt, j_b1_s, j_b2_s, j_b3_s, j_b0_s, y_bo, y_bo1, y_bo0, y_i0, y_i1, Classical.not_not, nI_clamp, y_ix, y_lt, y_le, y_eq, y_nP, y_nPs, y_ltP, y_ltQ, y_ltPP, y_eqP, y_eqQ, y_eqPP, if_pos, if_neg, ite_true, ite_false, not_true_eq_false, not_false_eq_true, and_true, true_and, and_false, false_and, or_true, true_or, or_false, false_or, ym_isComing hM hW, y_rn, ei, ym_co0 hM]
      · refine ⟨nP (b (25 + 3 * k)), ?_, ?_⟩
        · unfold f_X11_drum; simp (disch := omega) only [y_lit, y_n1, nI_add, pk_mul, j_lt, j_b1_s, j_b2_s, j_b3_s, j_b0_s, y_bo, y_bo1, y_bo0, y_i0, y_i1, Classical.not_not, nI_clamp, y_ix, y_lt, y_le, y_eq, y_nP, y_nPs, y_ltP, y_ltQ, y_ltPP, y_eqP, y_eqQ, y_eqPP, if_pos, if_neg, ite_true, ite_false, not_true_eq_false, not_false_eq_true, and_true, true_and, and_false, false_and, or_true, true_or, or_false, false_or, yc_has hN hW, y_rn, hN.k1 hk]
        · unfold f_X12_drum; simp (disch := omega) only [y_lit, y_n1, nI_add, pk_mul, j_lt, j_b1_s, j_b2_s, j_b3_s, j_b0_s, y_bo, y_bo1, y_bo0, y_i0, y_i1, Classical.not_not, nI_clamp, y_ix, y_lt, y_le, y_eq, y_nP, y_nPs, y_ltP, y_ltQ, y_ltPP, y_eqP, y_eqQ, y_eqPP, if_pos, if_neg, ite_true, ite_false, not_true_eq_false, not_false_eq_true, and_true, true_and, and_false, false_and, or_true, true_or, or_false, false_or, ym_isComing hM hW, y_rn, ei, ym_co1 hM]
      · refine ⟨nI (b (26 + 3 * k)), ?_, ?_⟩
        · unfold f_X11_drum; simp (disch := omega) only [y_lit, y_n1, nI_add, pk_mul, j_lt, j_b1_s, j_b2_s, j_b3_s, j_b0_s, y_bo, y_bo1, y_bo0, y_i0, y_i1, Classical.not_not, nI_clamp, y_ix, y_lt, y_le, y_eq, y_nP, y_nPs, y_ltP, y_ltQ, y_ltPP, y_eqP, y_eqQ, y_eqPP, if_pos, if_neg, ite_true, ite_false, not_true_eq_false, not_false_eq_true, and_true, true_and, and_false, false_and, or_true, true_or, or_false, false_or, yc_has hN hW, y_rn, hN.k2 hk]
        · unfold f_X12_drum; simp (disch := omega) only [y_lit, y_n1, nI_add, pk_mul, j_lt, j_b1_s, j_b2_s, j_b3_s, j_b0_s, y_bo, y_bo1, y_bo0, y_i0, y_i1, Classical.not_not, nI_clamp, y_ix, y_lt, y_le, y_eq, y_nP, y_nPs, y_ltP, y_ltQ, y_ltPP, y_eqP, y_eqQ, y_eqPP, if_pos, if_neg, ite_true, ite_false, not_true_eq_false, not_false_eq_true, and_true, true_and, and_false, false_and, or_true, true_or, or_false, false_or, ym_isComing hM hW, y_rn, ei, ym_co2 hM]
    · refine ⟨-2, ?_, ?_⟩
      · have n0 : ¬ a2 = nI 0 := fun z => c (w.mpr (Or.inl z))
        have n1 : ¬ a2 = nI 1 := fun z => c (w.mpr (Or.inr (Or.inl z)))
        have n2 : ¬ a2 = nI 2 := fun z => c (w.mpr (Or.inr (Or.inr z)))
        unfold f_X11_drum; simp (disch := omega) only [y_lit, y_n1, nI_add, pk_mul, j_lt, j_b1_s, j_b2_s, j_b3_s, j_b0_s, y_bo, y_bo1, y_bo0, y_i0, y_i1, Classical.not_not, nI_clamp, y_ix, y_lt, y_le, y_eq, y_nP, y_nPs, y_ltP, y_ltQ, y_ltPP, y_eqP, y_eqQ, y_eqPP, if_pos, if_neg, ite_true, ite_false, not_true_eq_false, not_false_eq_true, and_true, true_and, and_false, false_and, or_true, true_or, or_false, false_or, yc_has hN hW, y_rn, n0, n1, n2]
      · unfold f_X12_drum; rw [ei, if_neg c]; simp (disch := omega) only [y_lit, y_n1, nI_add, pk_mul, j_lt, j_b1_s, j_b2_s, j_b3_s, j_b0_s, y_bo, y_bo1, y_bo0, y_i0, y_i1, Classical.not_not, nI_clamp, y_ix, y_lt, y_le, y_eq, y_nP, y_nPs, y_ltP, y_ltQ, y_ltPP, y_eqP, y_eqQ, y_eqPP, if_pos, if_neg, ite_true, ite_false, not_true_eq_false, not_false_eq_true, and_true, true_and, and_false, false_and, or_true, true_or, or_false, false_or, ym_isComing hM hW, y_rn]
  · refine ⟨-2, ?_, ?_⟩
    · unfold f_X11_drum; simp (disch := omega) only [y_lit, y_n1, nI_add, pk_mul, j_lt, j_b1_s, j_b2_s, j_b3_s, j_b0_s, y_bo, y_bo1, y_bo0, y_i0, y_i1, Classical.not_not, nI_clamp, y_ix, y_lt, y_le, y_eq, y_nP, y_nPs, y_ltP, y_ltQ, y_ltPP, y_eqP, y_eqQ, y_eqPP, if_pos, if_neg, ite_true, ite_false, not_true_eq_false, not_false_eq_true, and_true, true_and, and_false, false_and, or_true, true_or, or_false, false_or, yc_has hN hW, h]
    · unfold f_X12_drum; rw [ym_isComing hM hW, if_neg h]; simp (disch := omega) only [y_lit, y_n1, nI_add, pk_mul, j_lt, j_b1_s, j_b2_s, j_b3_s, j_b0_s, y_bo, y_bo1, y_bo0, y_i0, y_i1, Classical.not_not, nI_clamp, y_ix, y_lt, y_le, y_eq, y_nP, y_nPs, y_ltP, y_ltQ, y_ltPP, y_eqP, y_eqQ, y_eqPP, if_pos, if_neg, ite_true, ite_false, not_true_eq_false, not_false_eq_true, and_true, true_and, and_false, false_and, or_true, true_or, or_false, false_or]
theorem y_c3 {x : Int32} {n : Nat} (hn : n + 1 < 2 ^ 31) : (¬ x < nI 0 ∧ ¬ nI n < x) ↔ y_rg x (n + 1) := by
  rw [j_ltI, j_ltI, nI_toInt (by omega), nI_toInt (by omega)]; unfold y_rg; omega
theorem y_c4 {x : Int32} {n : Nat} (hn : n < 2 ^ 31) : (x < nI 0 ∨ ¬ x < nI n) ↔ ¬ y_rg x n := by
  rw [j_ltI, j_ltI, nI_toInt hn, nI_toInt (by omega)]; unfold y_rg; omega
theorem y_c5 {x : Int32} {n : Nat} (hn : n + 1 < 2 ^ 31) : (x < nI 0 ∨ nI n < x) ↔ ¬ y_rg x (n + 1) := by
  rw [j_ltI, j_ltI, nI_toInt (by omega), nI_toInt (by omega)]; unfold y_rg; omega
theorem z_player (hR : j_Rel σ τ) (a1 a2 : Int32) : ∃ v, f_X11_player a1 a2 σ = some v ∧ f_X12_player a1 a2 τ = some v := by
  obtain ⟨b, hW, hN, hM, hK⟩ := id hR
  have h6 := hW.b6
  by_cases h : y_rg a1 (b 6)
  · obtain ⟨p, hp, rfl⟩ := y_of _ _ h.1 h.2
    by_cases c : y_rg a2 5
    · obtain ⟨q, hq, rfl⟩ := y_of _ _ c.1 c.2
      refine ⟨nI (b (96 + 5 * p + q)), ?_, ?_⟩
      · unfold f_X11_player; simp (disch := omega) only [y_lit, y_n1, nI_add, pk_mul, j_lt, j_b1_s, j_b2_s, j_b3_s, j_b0_s, y_bo, y_bo1, y_bo0, y_i0, y_i1, Classical.not_not, nI_clamp, y_ix, y_lt, y_le, y_eq, y_nP, y_nPs, y_ltP, y_ltQ, y_ltPP, y_eqP, y_eqQ, y_eqPP, if_pos, if_neg, ite_true, ite_false, not_true_eq_false, not_false_eq_true, and_true, true_and, and_false, false_and, or_true, true_or, or_false, false_or, yc_isPlayer hN hW, y_rn, yc_trait hN hW]
      · unfold f_X12_player; simp (disch := omega) only [y_lit, y_n1, nI_add, pk_mul, j_lt, j_b1_s, j_b2_s, j_b3_s, j_b0_s, y_bo, y_bo1, y_bo0, y_i0, y_i1, Classical.not_not, nI_clamp, y_ix, y_lt, y_le, y_eq, y_nP, y_nPs, y_ltP, y_ltQ, y_ltPP, y_eqP, y_eqQ, y_eqPP, if_pos, if_neg, ite_true, ite_false, not_true_eq_false, not_false_eq_true, and_true, true_and, and_false, false_and, or_true, true_or, or_false, false_or, ym_isPlayer hM hW, y_rn, y_lit64, y_in, ym_of hM]
    · refine ⟨-2, ?_, ?_⟩
      · unfold f_X11_player; simp (disch := omega) only [y_lit, y_n1, nI_add, pk_mul, j_lt, j_b1_s, j_b2_s, j_b3_s, j_b0_s, y_bo, y_bo1, y_bo0, y_i0, y_i1, Classical.not_not, nI_clamp, y_ix, y_lt, y_le, y_eq, y_nP, y_nPs, y_ltP, y_ltQ, y_ltPP, y_eqP, y_eqQ, y_eqPP, if_pos, if_neg, ite_true, ite_false, not_true_eq_false, not_false_eq_true, and_true, true_and, and_false, false_and, or_true, true_or, or_false, false_or, yc_isPlayer hN hW, y_rn, y_c4, c]
      · unfold f_X12_player; simp (disch := omega) only [y_lit, y_n1, nI_add, pk_mul, j_lt, j_b1_s, j_b2_s, j_b3_s, j_b0_s, y_bo, y_bo1, y_bo0, y_i0, y_i1, Classical.not_not, nI_clamp, y_ix, y_lt, y_le, y_eq, y_nP, y_nPs, y_ltP, y_ltQ, y_ltPP, y_eqP, y_eqQ, y_eqPP, if_pos, if_neg, ite_true, ite_false, not_true_eq_false, not_false_eq_true, and_true, true_and, and_false, false_and, or_true, true_or, or_false, false_or, ym_isPlayer hM hW, y_rn, y_lit64, y_in, y_c3, c]
  · refine ⟨-2, ?_, ?_⟩
    · unfold f_X11_player; simp (disch := omega) only [y_lit, y_n1, nI_add, pk_mul, j_lt, j_b1_s, j_b2_s, j_b3_s, j_b0_s, y_bo, y_bo1, y_bo0, y_i0, y_i1, Classical.not_not, nI_clamp, y_ix, y_lt, y_le, y_eq, y_nP, y_nPs, y_ltP, y_ltQ, y_ltPP, y_eqP, y_eqQ, y_eqPP, if_pos, if_neg, ite_true, ite_false, not_true_eq_false, not_false_eq_true, and_true, true_and, and_false, false_and, or_true, true_or, or_false, false_or, yc_isPlayer hN hW, h]
    · unfold f_X12_player; simp (disch := omega) only [y_lit, y_n1, nI_add, pk_mul, j_lt, j_b1_s, j_b2_s, j_b3_s, j_b0_s, y_bo, y_bo1, y_bo0, y_i0, y_i1, Classical.not_not, nI_clamp, y_ix, y_lt, y_le, y_eq, y_nP, y_nPs, y_ltP, y_ltQ, y_ltPP, y_eqP, y_eqQ, y_eqPP, if_pos, if_neg, ite_true, ite_false, not_true_eq_false, not_false_eq_true, and_true, true_and, and_false, false_and, or_true, true_or, or_false, false_or, ym_isPlayer hM hW, h]
theorem z_comes (hR : j_Rel σ τ) (a1 a2 : Int32) : ∃ v σ1 τ1, f_X11_comes a1 a2 σ = some (v, σ1) ∧ f_X12_comes a1 a2 τ = some (v, τ1) ∧ j_Rel σ1 τ1 := by
  obtain ⟨b, hW, hN, hM, hK⟩ := id hR
  have hs := y_gs_le (b := b)
  have hv := y_dg_vg hW (b 8)
  have w : y_rg a2 5 ↔ a2 = nI 0 ∨ a2 = nI 1 ∨ a2 = nI 2 ∨ a2 = nI 3 ∨ a2 = nI 4 := by
    unfold y_rg; rw [y_eqr (by omega), y_eqr (by omega), y_eqr (by omega), y_eqr (by omega), y_eqr (by omega)]; omega
  by_cases h : 0 < b 9 ∧ y_rg a2 5
  · obtain ⟨σ1, e1, e2, e3⟩ := yc_dealt hN hW
    obtain ⟨τ1, f1, f2, f3⟩ := ym_laid hM hW
    have hr := y_done hR (e3.wide (by omega) (by omega)) f3
    have h9 := h.1
    by_cases h2 : y_rg a1 (y_gs b)
    · obtain ⟨i, hi, rfl⟩ := y_of _ _ h2.1 h2.2
      have c := e2.2 i hi
      have m := f2.2.2 i hi
      have mm : ∀ q, q < 3 → f_X12_inGame (nI i) (nI q) τ1 = some (τ1.1 82 (3 * i + q)) := by
        intro q hq
        unfold f_X12_inGame; simp (disch := omega) only [y_lit, y_n1, nI_add, pk_mul, j_lt, j_b1_s, j_b2_s, j_b3_s, j_b0_s, y_bo, y_bo1, y_bo0, y_i0, y_i1, Classical.not_not, nI_clamp, y_ix, y_lt, y_le, y_eq, y_nP, y_nPs, y_ltP, y_ltQ, y_ltPP, y_eqP, y_eqQ, y_eqPP, if_pos, if_neg, ite_true, ite_false, not_true_eq_false, not_false_eq_true, and_true, true_and, and_false, false_and, or_true, true_or, or_false, false_or]
      rcases w.mp h.2 with rfl | rfl | rfl | rfl | rfl
      · refine ⟨nI (y_dg b (b 8) (3 * i)), σ1, τ1, ?_, ?_, hr⟩
        · unfold f_X11_comes; simp (disch := omega) only [y_lit, y_n1, nI_add, pk_mul, j_lt, j_b1_s, j_b2_s, j_b3_s, j_b0_s, y_bo, y_bo1, y_bo0, y_i0, y_i1, Classical.not_not, nI_clamp, y_ix, y_lt, y_le, y_eq, y_nP, y_nPs, y_ltP, y_ltQ, y_ltPP, y_eqP, y_eqQ, y_eqPP, if_pos, if_neg, ite_true, ite_false, not_true_eq_false, not_false_eq_true, and_true, true_and, and_false, false_and, or_true, true_or, or_false, false_or, yc_isTold hN hW, e1, yc_ghas e2 hs, y_rn, c]
        · unfold f_X12_comes; simp (disch := omega) only [y_lit, y_n1, nI_add, pk_mul, j_lt, j_b1_s, j_b2_s, j_b3_s, j_b0_s, y_bo, y_bo1, y_bo0, y_i0, y_i1, Classical.not_not, nI_clamp, y_ix, y_lt, y_le, y_eq, y_nP, y_nPs, y_ltP, y_ltQ, y_ltPP, y_eqP, y_eqQ, y_eqPP, if_pos, if_neg, ite_true, ite_false, not_true_eq_false, not_false_eq_true, and_true, true_and, and_false, false_and, or_true, true_or, or_false, false_or, ym_isBoard hM hW, y_lit64, y_in, f1, ym_ing f2.2.1 hs, y_rn, mm, m, Nat.add_zero]
      · refine ⟨nP (y_dg b (b 8) (3 * i + 1)), σ1, τ1, ?_, ?_, hr⟩
        · unfold f_X11_comes; simp (disch := omega) only [y_lit, y_n1, nI_add, pk_mul, j_lt, j_b1_s, j_b2_s, j_b3_s, j_b0_s, y_bo, y_bo1, y_bo0, y_i0, y_i1, Classical.not_not, nI_clamp, y_ix, y_lt, y_le, y_eq, y_nP, y_nPs, y_ltP, y_ltQ, y_ltPP, y_eqP, y_eqQ, y_eqPP, if_pos, if_neg, ite_true, ite_false, not_true_eq_false, not_false_eq_true, and_true, true_and, and_false, false_and, or_true, true_or, or_false, false_or, yc_isTold hN hW, e1, yc_ghas e2 hs, y_rn, c]
        · unfold f_X12_comes; simp (disch := omega) only [y_lit, y_n1, nI_add, pk_mul, j_lt, j_b1_s, j_b2_s, j_b3_s, j_b0_s, y_bo, y_bo1, y_bo0, y_i0, y_i1, Classical.not_not, nI_clamp, y_ix, y_lt, y_le, y_eq, y_nP, y_nPs, y_ltP, y_ltQ, y_ltPP, y_eqP, y_eqQ, y_eqPP, if_pos, if_neg, ite_true, ite_false, not_true_eq_false, not_false_eq_true, and_true, true_and, and_false, false_and, or_true, true_or, or_false, false_or, ym_isBoard hM hW, y_lit64, y_in, f1, ym_ing f2.2.1 hs, y_rn, mm, m, Nat.add_zero]
      · refine ⟨nI (y_dg b (b 8) (3 * i + 2)), σ1, τ1, ?_, ?_, hr⟩
        · unfold f_X11_comes; simp (disch := omega) only [y_lit, y_n1, nI_add, pk_mul, j_lt, j_b1_s, j_b2_s, j_b3_s, j_b0_s, y_bo, y_bo1, y_bo0, y_i0, y_i1, Classical.not_not, nI_clamp, y_ix, y_lt, y_le, y_eq, y_nP, y_nPs, y_ltP, y_ltQ, y_ltPP, y_eqP, y_eqQ, y_eqPP, if_pos, if_neg, ite_true, ite_false, not_true_eq_false, not_false_eq_true, and_true, true_and, and_false, false_and, or_true, true_or, or_false, false_or, yc_isTold hN hW, e1, yc_ghas e2 hs, y_rn, c]
        · unfold f_X12_comes; simp (disch := omega) only [y_lit, y_n1, nI_add, pk_mul, j_lt, j_b1_s, j_b2_s, j_b3_s, j_b0_s, y_bo, y_bo1, y_bo0, y_i0, y_i1, Classical.not_not, nI_clamp, y_ix, y_lt, y_le, y_eq, y_nP, y_nPs, y_ltP, y_ltQ, y_ltPP, y_eqP, y_eqQ, y_eqPP, if_pos, if_neg, ite_true, ite_false, not_true_eq_false, not_false_eq_true, and_true, true_and, and_false, false_and, or_true, true_or, or_false, false_or, ym_isBoard hM hW, y_lit64, y_in, f1, ym_ing f2.2.1 hs, y_rn, mm, m, Nat.add_zero]
      · refine ⟨nI (y_from b i), σ1, τ1, ?_, ?_, hr⟩
        · unfold f_X11_comes; simp (disch := omega) only [y_lit, y_n1, nI_add, pk_mul, j_lt, j_b1_s, j_b2_s, j_b3_s, j_b0_s, y_bo, y_bo1, y_bo0, y_i0, y_i1, Classical.not_not, nI_clamp, y_ix, y_lt, y_le, y_eq, y_nP, y_nPs, y_ltP, y_ltQ, y_ltPP, y_eqP, y_eqQ, y_eqPP, if_pos, if_neg, ite_true, ite_false, not_true_eq_false, not_false_eq_true, and_true, true_and, and_false, false_and, or_true, true_or, or_false, false_or, yc_isTold hN hW, e1, yc_ghas e2 hs, y_rn, c]
        · unfold f_X12_comes; simp (disch := omega) only [y_lit, y_n1, nI_add, pk_mul, j_lt, j_b1_s, j_b2_s, j_b3_s, j_b0_s, y_bo, y_bo1, y_bo0, y_i0, y_i1, Classical.not_not, nI_clamp, y_ix, y_lt, y_le, y_eq, y_nP, y_nPs, y_ltP, y_ltQ, y_ltPP, y_eqP, y_eqQ, y_eqPP, if_pos, if_neg, ite_true, ite_false, not_true_eq_false, not_false_eq_true, and_true, true_and, and_false, false_and, or_true, true_or, or_false, false_or, ym_isBoard hM hW, y_lit64, y_in, f1, ym_ing f2.2.1 hs, y_rn, mm, m, Nat.add_zero]
      · refine ⟨nI (y_last b i), σ1, τ1, ?_, ?_, hr⟩
        · unfold f_X11_comes; simp (disch := omega) only [y_lit, y_n1, nI_add, pk_mul, j_lt, j_b1_s, j_b2_s, j_b3_s, j_b0_s, y_bo, y_bo1, y_bo0, y_i0, y_i1, Classical.not_not, nI_clamp, y_ix, y_lt, y_le, y_eq, y_nP, y_nPs, y_ltP, y_ltQ, y_ltPP, y_eqP, y_eqQ, y_eqPP, if_pos, if_neg, ite_true, ite_false, not_true_eq_false, not_false_eq_true, and_true, true_and, and_false, false_and, or_true, true_or, or_false, false_or, yc_isTold hN hW, e1, yc_ghas e2 hs, y_rn, c]
        · unfold f_X12_comes; simp (disch := omega) only [y_lit, y_n1, nI_add, pk_mul, j_lt, j_b1_s, j_b2_s, j_b3_s, j_b0_s, y_bo, y_bo1, y_bo0, y_i0, y_i1, Classical.not_not, nI_clamp, y_ix, y_lt, y_le, y_eq, y_nP, y_nPs, y_ltP, y_ltQ, y_ltPP, y_eqP, y_eqQ, y_eqPP, if_pos, if_neg, ite_true, ite_false, not_true_eq_false, not_false_eq_true, and_true, true_and, and_false, false_and, or_true, true_or, or_false, false_or, ym_isBoard hM hW, y_lit64, y_in, f1, ym_ing f2.2.1 hs, y_rn, mm, m, Nat.add_zero]
    · refine ⟨-1, σ1, τ1, ?_, ?_, hr⟩
      · unfold f_X11_comes; simp (disch := omega) only [y_lit, y_n1, nI_add, pk_mul, j_lt, j_b1_s, j_b2_s, j_b3_s, j_b0_s, y_bo, y_bo1, y_bo0, y_i0, y_i1, Classical.not_not, nI_clamp, y_ix, y_lt, y_le, y_eq, y_nP, y_nPs, y_ltP, y_ltQ, y_ltPP, y_eqP, y_eqQ, y_eqPP, if_pos, if_neg, ite_true, ite_false, not_true_eq_false, not_false_eq_true, and_true, true_and, and_false, false_and, or_true, true_or, or_false, false_or, yc_isTold hN hW, e1, yc_ghas e2 hs, h2, y_c5, h.2]
      · unfold f_X12_comes; simp (disch := omega) only [y_lit, y_n1, nI_add, pk_mul, j_lt, j_b1_s, j_b2_s, j_b3_s, j_b0_s, y_bo, y_bo1, y_bo0, y_i0, y_i1, Classical.not_not, nI_clamp, y_ix, y_lt, y_le, y_eq, y_nP, y_nPs, y_ltP, y_ltQ, y_ltPP, y_eqP, y_eqQ, y_eqPP, if_pos, if_neg, ite_true, ite_false, not_true_eq_false, not_false_eq_true, and_true, true_and, and_false, false_and, or_true, true_or, or_false, false_or, ym_isBoard hM hW, y_lit64, y_in, y_c3, h.2, f1, ym_ing f2.2.1 hs, h2]
  · refine ⟨-2, σ, τ, ?_, ?_, hR⟩
    · unfold f_X11_comes; simp (disch := omega) only [y_lit, y_n1, nI_add, pk_mul, j_lt, j_b1_s, j_b2_s, j_b3_s, j_b0_s, y_bo, y_bo1, y_bo0, y_i0, y_i1, Classical.not_not, nI_clamp, y_ix, y_lt, y_le, y_eq, y_nP, y_nPs, y_ltP, y_ltQ, y_ltPP, y_eqP, y_eqQ, y_eqPP, if_pos, if_neg, ite_true, ite_false, not_true_eq_false, not_false_eq_true, and_true, true_and, and_false, false_and, or_true, true_or, or_false, false_or, yc_isTold hN hW, y_c5]
    · unfold f_X12_comes; simp (disch := omega) only [y_lit, y_n1, nI_add, pk_mul, j_lt, j_b1_s, j_b2_s, j_b3_s, j_b0_s, y_bo, y_bo1, y_bo0, y_i0, y_i1, Classical.not_not, nI_clamp, y_ix, y_lt, y_le, y_eq, y_nP, y_nPs, y_ltP, y_ltQ, y_ltPP, y_eqP, y_eqQ, y_eqPP, if_pos, if_neg, ite_true, ite_false, not_true_eq_false, not_false_eq_true, and_true, true_and, and_false, false_and, or_true, true_or, or_false, false_or, ym_isBoard hM hW, y_lit64, y_in, y_c3]
end Z
/-! ===== what is up, how long nothing is ===== -/
theorem y_or {a c : Nat} : nI a ||| nI c = nI (a ||| c) := by
  apply Int32.toBitVec_inj.mp
  show BitVec.ofNat 32 a ||| BitVec.ofNat 32 c = BitVec.ofNat 32 (a ||| c)
  rw [BitVec.ofNat_or]
theorem y_and {a c : Nat} : nI a &&& nI c = nI (a &&& c) := by
  apply Int32.toBitVec_inj.mp
  show BitVec.ofNat 32 a &&& BitVec.ofNat 32 c = BitVec.ofNat 32 (a &&& c)
  rw [BitVec.ofNat_and]
theorem y_subsub {a c : Nat} (x : Int32) : x - nI a - nI c = x - nI (a + c) := by
  rw [← nI_add]
  apply Int32.toBitVec_inj.mp
  show x.toBitVec - (nI a).toBitVec - (nI c).toBitVec = x.toBitVec - ((nI a).toBitVec + (nI c).toBitVec)
  rw [BitVec.sub_sub]
noncomputable def y_su (f : Nat → Nat) : Nat → Nat → Nat → Nat
  | 0, _, s => s
  | m + 1, i, s => y_su f m (i + 1) (s + f i)
theorem y_su_add {f : Nat → Nat} : ∀ m i s x, y_su f m i (s + x) = y_su f m i s + x := by
  intro m
  induction m with
  | zero => intro i s x; rfl
  | succ m ih => intro i s x; unfold y_su; rw [show s + x + f i = s + f i + x from by omega, ih]
theorem y_su_congr {f g : Nat → Nat} : ∀ m i s, (∀ j, i ≤ j → j < i + m → f j = g j) → y_su f m i s = y_su g m i s := by
  intro m
  induction m with
  | zero => intro i s _; rfl
  | succ m ih => intro i s h; unfold y_su; rw [h i (by omega) (by omega), ih _ _ (fun j h1 h2 => h j (by omega) (by omega))]
theorem y_su_le {f g : Nat → Nat} : ∀ m i s s', s ≤ s' → (∀ j, i ≤ j → j < i + m → f j ≤ g j) → y_su f m i s ≤ y_su g m i s' := by
  intro m
  induction m with
  | zero => intro i s s' h _; exact h
  | succ m ih => intro i s s' h hj; unfold y_su; exact ih _ _ _ (by have := hj i (by omega) (by omega); omega) (fun j h1 h2 => hj j (by omega) (by omega))
/-- the coming that is up, and 1 -/
noncomputable def y_ui (b : Nat → Nat) (t : Nat) : Nat → Nat → Nat
  | 0, _ => 0
  | m + 1, i => if y_from b i ≤ t ∧ t ≤ y_last b i then i + 1 else y_ui b t m (i + 1)
theorem y_apart {b : Nat → Nat} (hW : y_W b) : ∀ d i, y_last b i < y_from b (i + d + 1) := by
  intro d
  induction d with
  | zero => intro i; show y_last b i < y_from b (i + 1); rw [y_from_s]; omega
  | succ d ih =>
    intro i
    have h1 := ih i
    have h2 := y_from_s b (i + d + 1)
    have h3 := y_last_le hW (i + d + 1)
    rw [show i + (d + 1) + 1 = i + d + 1 + 1 from by omega]
    omega
theorem y_apart2 {b : Nat → Nat} (hW : y_W b) {i j : Nat} (h : i < j) : y_last b i < y_from b j := by
  have := y_apart hW (j - i - 1) i
  rw [show i + (j - i - 1) + 1 = j from by omega] at this
  exact this
theorem y_ui_le {b : Nat → Nat} {t : Nat} : ∀ m i, y_ui b t m i = 0 ∨ (i < y_ui b t m i ∧ y_ui b t m i ≤ i + m) := by
  intro m
  induction m with
  | zero => intro i; exact Or.inl rfl
  | succ m ih =>
    intro i
    unfold y_ui
    split
    · omega
    · have := ih (i + 1); omega
theorem y_ui_no {b : Nat → Nat} {t : Nat} : ∀ m i, (∀ j, i ≤ j → j < i + m → t < y_from b j) → y_ui b t m i = 0 := by
  intro m
  induction m with
  | zero => intro i _; rfl
  | succ m ih =>
    intro i h
    unfold y_ui
    rw [if_neg (fun z => by have := h i (by omega) (by omega); omega)]
    exact ih (i + 1) (fun j h1 h2 => h j (by omega) (by omega))
/-- a coming's holes as bits -/
noncomputable def y_hb (g : Nat → Nat) (i : Nat) : Nat := 2 ^ g (3 * i) ||| (if g (3 * i + 1) = 0 then 0 else 2 ^ (g (3 * i + 1) - 1))
noncomputable def y_upb (g : Nat → Nat) (u : Nat) : Nat := if u = 0 then 0 else y_hb g (u - 1)
theorem y_hb_pos {g : Nat → Nat} {i : Nat} : 0 < y_hb g i := Nat.lt_of_lt_of_le (Nat.pow_pos (by omega)) Nat.left_le_or
theorem y_hb_lt {b g : Nat → Nat} {s i : Nat} (hW : y_W b) (hv : y_vg b s g) (hi : i < s) : y_hb g i < 4096 := by
  have h := hv.2 i hi
  have h4 := hW.ho
  unfold y_hb
  refine Nat.or_lt_two_pow (n := 12) (Nat.pow_lt_pow_right (by omega) (by omega)) ?_
  split
  · omega
  · exact Nat.pow_lt_pow_right (by omega) (by omega)
section C
variable {σ τ : j_G} {b g : Nat → Nat} {s t : Nat}
theorem yc_upIn (hc : y_cg σ b s g) (hv : y_vg b s g) (hW : y_W b) (ht : t < 1000) : f_X4_upIn (nI t) σ = some (nP (y_ui b t s 0)) := by
  have hs := hv.1
  have h2 := hW.b2
  have key : ∀ m i n, i + m = s → m < n → p_X4_upIn_2 (nI t) σ n (nI i) = some (nP (y_ui b t m i)) := by
    intro m
    induction m with
    | zero =>
      intro i n h hn
      obtain ⟨n, rfl⟩ := y_pos hn
      unfold p_X4_upIn_2 y_ui; simp (disch := omega) only [y_lit, y_n1, nI_add, pk_mul, j_lt, j_b1_s, j_b2_s, j_b3_s, j_b0_s, y_bo, y_bo1, y_bo0, y_i0, y_i1, Classical.not_not, nI_clamp, y_ix, y_lt, y_le, y_eq, y_nP, y_nPs, y_ltP, y_ltQ, y_ltPP, y_eqP, y_eqQ, y_eqPP, if_pos, if_neg, ite_true, ite_false, not_true_eq_false, not_false_eq_true, and_true, true_and, and_false, false_and, or_true, true_or, or_false, false_or, hc.1]
    | succ m ih =>
      intro i n h hn
      obtain ⟨n, rfl⟩ := y_pos hn
      have ci := hc.2 i (by omega)
      have vi := (hv.2 i (by omega)).2.2.2.2.2
      have le := y_last_le hW i
      unfold p_X4_upIn_2 y_ui; simp (disch := omega) only [y_lit, y_n1, nI_add, pk_mul, j_lt, j_b1_s, j_b2_s, j_b3_s, j_b0_s, y_bo, y_bo1, y_bo0, y_i0, y_i1, Classical.not_not, nI_clamp, y_ix, y_lt, y_le, y_eq, y_nP, y_nPs, y_ltP, y_ltQ, y_ltPP, y_eqP, y_eqQ, y_eqPP, if_pos, if_neg, ite_true, ite_false, not_true_eq_false, not_false_eq_true, and_true, true_and, and_false, false_and, or_true, true_or, or_false, false_or, hc.1, ci]
      rw [ih (i + 1) n (by omega) (by omega)]
      by_cases c : y_from b i ≤ t
      · by_cases c2 : t ≤ y_last b i
        · simp (disch := omega) only [y_lit, y_n1, nI_add, pk_mul, j_lt, j_b1_s, j_b2_s, j_b3_s, j_b0_s, y_bo, y_bo1, y_bo0, y_i0, y_i1, Classical.not_not, nI_clamp, y_ix, y_lt, y_le, y_eq, y_nP, y_nPs, y_ltP, y_ltQ, y_ltPP, y_eqP, y_eqQ, y_eqPP, if_pos, if_neg, ite_true, ite_false, not_true_eq_false, not_false_eq_true, and_true, true_and, and_false, false_and, or_true, true_or, or_false, false_or]
        · simp (disch := omega) only [y_lit, y_n1, nI_add, pk_mul, j_lt, j_b1_s, j_b2_s, j_b3_s, j_b0_s, y_bo, y_bo1, y_bo0, y_i0, y_i1, Classical.not_not, nI_clamp, y_ix, y_lt, y_le, y_eq, y_nP, y_nPs, y_ltP, y_ltQ, y_ltPP, y_eqP, y_eqQ, y_eqPP, if_pos, if_neg, ite_true, ite_false, not_true_eq_false, not_false_eq_true, and_true, true_and, and_false, false_and, or_true, true_or, or_false, false_or]
      · simp (disch := omega) only [y_lit, y_n1, nI_add, pk_mul, j_lt, j_b1_s, j_b2_s, j_b3_s, j_b0_s, y_bo, y_bo1, y_bo0, y_i0, y_i1, Classical.not_not, nI_clamp, y_ix, y_lt, y_le, y_eq, y_nP, y_nPs, y_ltP, y_ltQ, y_ltPP, y_eqP, y_eqQ, y_eqPP, if_pos, if_neg, ite_true, ite_false, not_true_eq_false, not_false_eq_true, and_true, true_and, and_false, false_and, or_true, true_or, or_false, false_or]
  unfold f_X4_upIn
  rw [y_lit]
  exact key s 0 j_F (by omega) (y_F (by omega))
theorem yc_holesOf (hc : y_cg σ b s g) (hv : y_vg b s g) (hW : y_W b) {i : Nat} (hi : i < s) : f_X4_holesOf (nI i) σ = some (nI (y_hb g i)) := by
  have hs := hv.1
  have h4 := hW.ho
  have ci := hc.2 i hi
  have vi := hv.2 i hi
  unfold f_X4_holesOf y_hb
  simp (disch := omega) only [y_lit, y_n1, nI_add, pk_mul, j_lt, j_b1_s, j_b2_s, j_b3_s, j_b0_s, y_bo, y_bo1, y_bo0, y_i0, y_i1, Classical.not_not, nI_clamp, y_ix, y_lt, y_le, y_eq, y_nP, y_nPs, y_ltP, y_ltQ, y_ltPP, y_eqP, y_eqQ, y_eqPP, if_pos, if_neg, ite_true, ite_false, not_true_eq_false, not_false_eq_true, and_true, true_and, and_false, false_and, or_true, true_or, or_false, false_or, yc_ghas hc hs, y_rn, ci]
  by_cases z : g (3 * i + 1) = 0
  · simp (disch := omega) only [y_lit, y_n1, nI_add, pk_mul, j_lt, j_b1_s, j_b2_s, j_b3_s, j_b0_s, y_bo, y_bo1, y_bo0, y_i0, y_i1, Classical.not_not, nI_clamp, y_ix, y_lt, y_le, y_eq, y_nP, y_nPs, y_ltP, y_ltQ, y_ltPP, y_eqP, y_eqQ, y_eqPP, if_pos, if_neg, ite_true, ite_false, not_true_eq_false, not_false_eq_true, and_true, true_and, and_false, false_and, or_true, true_or, or_false, false_or, y_shl, y_or]
  · obtain ⟨o, ho⟩ : ∃ o, g (3 * i + 1) = o + 1 := ⟨g (3 * i + 1) - 1, by omega⟩
    rw [ho, y_nPs]
    simp (disch := omega) only [y_lit, y_n1, nI_add, pk_mul, j_lt, j_b1_s, j_b2_s, j_b3_s, j_b0_s, y_bo, y_bo1, y_bo0, y_i0, y_i1, Classical.not_not, nI_clamp, y_ix, y_lt, y_le, y_eq, y_nP, y_nPs, y_ltP, y_ltQ, y_ltPP, y_eqP, y_eqQ, y_eqPP, if_pos, if_neg, ite_true, ite_false, not_true_eq_false, not_false_eq_true, and_true, true_and, and_false, false_and, or_true, true_or, or_false, false_or, y_shl, y_or, Nat.add_sub_cancel]
theorem ym_upIn (hg : y_mg τ b s g) (hv : y_vg b s g) (hW : y_W b) (ht : t < 1000) : f_X12_upIn (nI t) τ = some (nI (y_upb g (y_ui b t s 0))) := by
  have hs := hv.1
  have h2 := hW.b2
  have h4 := hW.ho
  have skip : ∀ m i n v, i + m = s → m < n → (∀ j, i ≤ j → j < s → t < y_from b j) → p_X12_upIn_4 (nI t) τ n (nI v) (nI i) = some (nI v) := by
    intro m
    induction m with
    | zero =>
      intro i n v h hn _
      obtain ⟨n, rfl⟩ := y_pos hn
      unfold p_X12_upIn_4; simp (disch := omega) only [y_lit, y_n1, nI_add, pk_mul, j_lt, j_b1_s, j_b2_s, j_b3_s, j_b0_s, y_bo, y_bo1, y_bo0, y_i0, y_i1, Classical.not_not, nI_clamp, y_ix, y_lt, y_le, y_eq, y_nP, y_nPs, y_ltP, y_ltQ, y_ltPP, y_eqP, y_eqQ, y_eqPP, if_pos, if_neg, ite_true, ite_false, not_true_eq_false, not_false_eq_true, and_true, true_and, and_false, false_and, or_true, true_or, or_false, false_or, hg.1]
    | succ m ih =>
      intro i n v h hn hj
      obtain ⟨n, rfl⟩ := y_pos hn
      have gi := hg.2 i (by omega)
      have vi := (hv.2 i (by omega)).2.2.2.2.2
      have le := y_last_le hW i
      have := hj i (by omega) (by omega)
      unfold p_X12_upIn_4; simp (disch := omega) only [y_lit, y_n1, nI_add, pk_mul, j_lt, j_b1_s, j_b2_s, j_b3_s, j_b0_s, y_bo, y_bo1, y_bo0, y_i0, y_i1, Classical.not_not, nI_clamp, y_ix, y_lt, y_le, y_eq, y_nP, y_nPs, y_ltP, y_ltQ, y_ltPP, y_eqP, y_eqQ, y_eqPP, if_pos, if_neg, ite_true, ite_false, not_true_eq_false, not_false_eq_true, and_true, true_and, and_false, false_and, or_true, true_or, or_false, false_or, hg.1, gi, y_in]
      exact ih (i + 1) n v (by omega) (by omega) (fun j h1 h2 => hj j (by omega) h2)
  have key : ∀ m i n, i + m = s → m < n → p_X12_upIn_4 (nI t) τ n (nI 0) (nI i) = some (nI (y_upb g (y_ui b t m i))) := by
    intro m
    induction m with
    | zero =>
      intro i n h hn
      obtain ⟨n, rfl⟩ := y_pos hn
      unfold p_X12_upIn_4 y_ui; simp (disch := omega) only [y_lit, y_n1, nI_add, pk_mul, j_lt, j_b1_s, j_b2_s, j_b3_s, j_b0_s, y_bo, y_bo1, y_bo0, y_i0, y_i1, Classical.not_not, nI_clamp, y_ix, y_lt, y_le, y_eq, y_nP, y_nPs, y_ltP, y_ltQ, y_ltPP, y_eqP, y_eqQ, y_eqPP, if_pos, if_neg, ite_true, ite_false, not_true_eq_false, not_false_eq_true, and_true, true_and, and_false, false_and, or_true, true_or, or_false, false_or, hg.1]; rfl
    | succ m ih =>
      intro i n h hn
      obtain ⟨n, rfl⟩ := y_pos hn
      have gi := hg.2 i (by omega)
      have vi := hv.2 i (by omega)
      have le := y_last_le hW i
      unfold p_X12_upIn_4 y_ui f_X12_inGame
      by_cases c : y_from b i ≤ t ∧ t ≤ y_last b i
      · have sk := fun v => skip m (i + 1) n v (by omega) (by omega) (fun j h1 h2 => by have := y_apart2 hW (show i < j by omega); omega)
        obtain ⟨c1, c2⟩ := c
        simp (disch := omega) only [y_lit, y_n1, nI_add, pk_mul, j_lt, j_b1_s, j_b2_s, j_b3_s, j_b0_s, y_bo, y_bo1, y_bo0, y_i0, y_i1, Classical.not_not, nI_clamp, y_ix, y_lt, y_le, y_eq, y_nP, y_nPs, y_ltP, y_ltQ, y_ltPP, y_eqP, y_eqQ, y_eqPP, if_pos, if_neg, ite_true, ite_false, not_true_eq_false, not_false_eq_true, and_true, true_and, and_false, false_and, or_true, true_or, or_false, false_or, hg.1, gi, y_in, Nat.add_zero, y_shl, y_or]
        unfold y_upb y_hb
        rw [if_neg (Nat.succ_ne_zero i), Nat.add_sub_cancel]
        by_cases z : g (3 * i + 1) = 0
        · simp (disch := omega) only [y_lit, y_n1, nI_add, pk_mul, j_lt, j_b1_s, j_b2_s, j_b3_s, j_b0_s, y_bo, y_bo1, y_bo0, y_i0, y_i1, Classical.not_not, nI_clamp, y_ix, y_lt, y_le, y_eq, y_nP, y_nPs, y_ltP, y_ltQ, y_ltPP, y_eqP, y_eqQ, y_eqPP, if_pos, if_neg, ite_true, ite_false, not_true_eq_false, not_false_eq_true, and_true, true_and, and_false, false_and, or_true, true_or, or_false, false_or, sk, Nat.zero_or, Nat.or_zero]
        · obtain ⟨o, ho⟩ : ∃ o, g (3 * i + 1) = o + 1 := ⟨g (3 * i + 1) - 1, by omega⟩
          rw [ho, y_nPs]
          simp (disch := omega) only [y_lit, y_n1, nI_add, pk_mul, j_lt, j_b1_s, j_b2_s, j_b3_s, j_b0_s, y_bo, y_bo1, y_bo0, y_i0, y_i1, Classical.not_not, nI_clamp, y_ix, y_lt, y_le, y_eq, y_nP, y_nPs, y_ltP, y_ltQ, y_ltPP, y_eqP, y_eqQ, y_eqPP, if_pos, if_neg, ite_true, ite_false, not_true_eq_false, not_false_eq_true, and_true, true_and, and_false, false_and, or_true, true_or, or_false, false_or, y_shl, y_or, sk, Nat.add_sub_cancel, Nat.zero_or]
      · rw [if_neg c]
        by_cases c1 : y_from b i ≤ t
        · have : ¬ t ≤ y_last b i := fun z => c ⟨c1, z⟩
          simp (disch := omega) only [y_lit, y_n1, nI_add, pk_mul, j_lt, j_b1_s, j_b2_s, j_b3_s, j_b0_s, y_bo, y_bo1, y_bo0, y_i0, y_i1, Classical.not_not, nI_clamp, y_ix, y_lt, y_le, y_eq, y_nP, y_nPs, y_ltP, y_ltQ, y_ltPP, y_eqP, y_eqQ, y_eqPP, if_pos, if_neg, ite_true, ite_false, not_true_eq_false, not_false_eq_true, and_true, true_and, and_false, false_and, or_true, true_or, or_false, false_or, hg.1, gi, y_in]
          exact ih (i + 1) n (by omega) (by omega)
        · simp (disch := omega) only [y_lit, y_n1, nI_add, pk_mul, j_lt, j_b1_s, j_b2_s, j_b3_s, j_b0_s, y_bo, y_bo1, y_bo0, y_i0, y_i1, Classical.not_not, nI_clamp, y_ix, y_lt, y_le, y_eq, y_nP, y_nPs, y_ltP, y_ltQ, y_ltPP, y_eqP, y_eqQ, y_eqPP, if_pos, if_neg, ite_true, ite_false, not_true_eq_false, not_false_eq_true, and_true, true_and, and_false, false_and, or_true, true_or, or_false, false_or, hg.1, gi, y_in]
          exact ih (i + 1) n (by omega) (by omega)
  unfold f_X12_upIn
  rw [y_lit, key s 0 j_F (by omega) (y_F (by omega))]
  rfl
end C
section Z
variable {σ τ : j_G}
theorem z_up (hR : j_Rel σ τ) (a1 : Int32) : ∃ v σ1 τ1, f_X11_up a1 σ = some (v, σ1) ∧ f_X12_up a1 τ = some (v, τ1) ∧ j_Rel σ1 τ1 := by
  obtain ⟨b, hW, hN, hM, hK⟩ := id hR
  have h2 := hW.b2
  have hv := y_dg_vg hW (b 8)
  have hs := hv.1
  by_cases h : y_rg a1 (b 2)
  · obtain ⟨t, ht, rfl⟩ := y_of _ _ h.1 h.2
    obtain ⟨σ1, e1, e2, e3⟩ := yc_dealt hN hW
    obtain ⟨τ1, f1, f2, f3⟩ := ym_laid hM hW
    have hr := y_done hR (e3.wide (by omega) (by omega)) f3
    refine ⟨nI (y_upb (y_dg b (b 8)) (y_ui b t (y_gs b) 0)), σ1, τ1, ?_, ?_, hr⟩
    · unfold f_X11_up; simp (disch := omega) only [y_lit, y_n1, nI_add, pk_mul, j_lt, j_b1_s, j_b2_s, j_b3_s, j_b0_s, y_bo, y_bo1, y_bo0, y_i0, y_i1, Classical.not_not, nI_clamp, y_ix, y_lt, y_le, y_eq, y_nP, y_nPs, y_ltP, y_ltQ, y_ltPP, y_eqP, y_eqQ, y_eqPP, if_pos, if_neg, ite_true, ite_false, not_true_eq_false, not_false_eq_true, and_true, true_and, and_false, false_and, or_true, true_or, or_false, false_or, yc_isTick hN hW, y_rn, e1, yc_upIn e2 hv hW, yc_ghas e2 hs]
      have le := y_ui_le (b := b) (t := t) (y_gs b) 0
      unfold y_upb
      by_cases z : y_ui b t (y_gs b) 0 = 0
      · rw [z, if_pos rfl, if_neg (fun q : y_rg (nP 0) _ => absurd q.1 (by decide))]
      · obtain ⟨u, hu⟩ : ∃ u, y_ui b t (y_gs b) 0 = u + 1 := ⟨y_ui b t (y_gs b) 0 - 1, by omega⟩
        rw [hu, y_nPs, if_neg (Nat.succ_ne_zero u), Nat.add_sub_cancel]
        simp (disch := omega) only [y_lit, y_n1, nI_add, pk_mul, j_lt, j_b1_s, j_b2_s, j_b3_s, j_b0_s, y_bo, y_bo1, y_bo0, y_i0, y_i1, Classical.not_not, nI_clamp, y_ix, y_lt, y_le, y_eq, y_nP, y_nPs, y_ltP, y_ltQ, y_ltPP, y_eqP, y_eqQ, y_eqPP, if_pos, if_neg, ite_true, ite_false, not_true_eq_false, not_false_eq_true, and_true, true_and, and_false, false_and, or_true, true_or, or_false, false_or, y_rn, yc_holesOf e2 hv hW]
    · unfold f_X12_up; simp (disch := omega) only [y_lit, y_n1, nI_add, pk_mul, j_lt, j_b1_s, j_b2_s, j_b3_s, j_b0_s, y_bo, y_bo1, y_bo0, y_i0, y_i1, Classical.not_not, nI_clamp, y_ix, y_lt, y_le, y_eq, y_nP, y_nPs, y_ltP, y_ltQ, y_ltPP, y_eqP, y_eqQ, y_eqPP, if_pos, if_neg, ite_true, ite_false, not_true_eq_false, not_false_eq_true, and_true, true_and, and_false, false_and, or_true, true_or, or_false, false_or, ym_isTick hM hW, y_rn, f1, ym_upIn f2.2 hv hW]
  · refine ⟨-2, σ, τ, ?_, ?_, hR⟩
    · unfold f_X11_up; simp (disch := omega) only [y_lit, y_n1, nI_add, pk_mul, j_lt, j_b1_s, j_b2_s, j_b3_s, j_b0_s, y_bo, y_bo1, y_bo0, y_i0, y_i1, Classical.not_not, nI_clamp, y_ix, y_lt, y_le, y_eq, y_nP, y_nPs, y_ltP, y_ltQ, y_ltPP, y_eqP, y_eqQ, y_eqPP, if_pos, if_neg, ite_true, ite_false, not_true_eq_false, not_false_eq_true, and_true, true_and, and_false, false_and, or_true, true_or, or_false, false_or, yc_isTick hN hW, h]
    · unfold f_X12_up; simp (disch := omega) only [y_lit, y_n1, nI_add, pk_mul, j_lt, j_b1_s, j_b2_s, j_b3_s, j_b0_s, y_bo, y_bo1, y_bo0, y_i0, y_i1, Classical.not_not, nI_clamp, y_ix, y_lt, y_le, y_eq, y_nP, y_nPs, y_ltP, y_ltQ, y_ltPP, y_eqP, y_eqQ, y_eqPP, if_pos, if_neg, ite_true, ite_false, not_true_eq_false, not_false_eq_true, and_true, true_and, and_false, false_and, or_true, true_or, or_false, false_or, ym_isTick hM hW, h]
end Z
/-! ===== calm, where, missed ===== -/
noncomputable def y_cf (b : Nat → Nat) (t : Nat) : Nat → Nat := fun i => min t (y_last b i + 1) - min t (y_from b i)
theorem y_su_s {f : Nat → Nat} {m i : Nat} : y_su f (m + 1) i 0 = y_su f m (i + 1) 0 + f i := by
  show y_su f m (i + 1) (0 + f i) = _
  rw [y_su_add]
theorem y_cs {b : Nat → Nat} (hW : y_W b) (t : Nat) : ∀ m i, y_su (y_cf b (t + 1)) m i 0 = y_su (y_cf b t) m i 0 + (if y_ui b t m i = 0 then 0 else 1) := by
  intro m
  induction m with
  | zero => intro i; rfl
  | succ m ih =>
    intro i
    have le := y_last_le hW i
    rw [y_su_s, y_su_s]
    unfold y_ui
    by_cases c : y_from b i ≤ t ∧ t ≤ y_last b i
    · rw [if_pos c, if_neg (Nat.succ_ne_zero i)]
      rw [y_su_congr (f := y_cf b (t + 1)) (g := y_cf b t) m (i + 1) 0 (fun j h1 h2 => by
        have := y_apart2 hW (show i < j by omega)
        have := y_last_le hW j
        unfold y_cf; omega)]
      unfold y_cf; omega
    · rw [if_neg c, ih (i + 1)]
      have : y_cf b (t + 1) i = y_cf b t i := by unfold y_cf; omega
      omega
theorem y_cs0 {b : Nat → Nat} : ∀ m i, y_su (y_cf b 0) m i 0 = 0 := by
  intro m
  induction m with
  | zero => intro i; rfl
  | succ m ih => intro i; rw [y_su_s, ih]; unfold y_cf; omega
theorem y_cs_le {b : Nat → Nat} (hW : y_W b) (s : Nat) : ∀ t, y_su (y_cf b t) s 0 0 ≤ t := by
  intro t
  induction t with
  | zero => rw [y_cs0]; omega
  | succ t ih => rw [y_cs hW t s 0]; split <;> omega
noncomputable def y_len (b : Nat → Nat) : Nat → Nat := fun i => y_last b i - y_from b i + 1
theorem y_upb0 {g : Nat → Nat} {u : Nat} : y_upb g u = 0 ↔ u = 0 := by
  unfold y_upb
  by_cases h : u = 0
  · rw [if_pos h]; omega
  · rw [if_neg h]
    have := y_hb_pos (g := g) (i := u - 1)
    omega
theorem y_upb_lt {b g : Nat → Nat} {s t : Nat} (hW : y_W b) (hv : y_vg b s g) : y_upb g (y_ui b t s 0) < 4096 := by
  have le := y_ui_le (b := b) (t := t) s 0
  unfold y_upb
  split
  · omega
  · exact y_hb_lt hW hv (by omega)
section Z
variable {σ τ : j_G}
theorem z_calm (hR : j_Rel σ τ) : ∃ v σ1 τ1, f_X11_calm σ = some (v, σ1) ∧ f_X12_calm τ = some (v, τ1) ∧ j_Rel σ1 τ1 := by
  obtain ⟨b, hW, hN, hM, hK⟩ := id hR
  have h2 := hW.b2
  have hv := y_dg_vg hW (b 8)
  have hs := hv.1
  by_cases h : 0 < b 9
  · obtain ⟨σ1, e1, e2, e3⟩ := yc_dealt hN hW
    obtain ⟨τ1, f1, f2, f3⟩ := ym_laid hM hW
    have hr := y_done hR (e3.wide (by omega) (by omega)) f3
    have hN1 := hN.fr e3 (by omega)
    unfold y_ldy at f2
    generalize hgs : y_gs b = s at *
    generalize y_dg b (b 8) = g at *
    have eq : y_su (y_cf b (b 2)) s 0 0 = y_su (y_len b) s 0 0 := y_su_congr _ _ _ (fun j _ hj => by
      have := (hv.2 j (by omega)).2.2.2.2.2
      have := y_last_le hW j
      unfold y_cf y_len; omega)
    have le := y_cs_le hW s (b 2)
    have kc : ∀ m i n v, i + m = s → m < n → p_X11_calm_44 σ1 n (nI (b 2) - nI v) (nI i) = some (nI (b 2) - nI (y_su (y_len b) m i v)) := by
      intro m
      induction m with
      | zero =>
        intro i n v h hn
        obtain ⟨n, rfl⟩ := y_pos hn
        unfold p_X11_calm_44 y_su; simp (disch := omega) only [y_lit, y_n1, nI_add, pk_mul, j_lt, j_b1_s, j_b2_s, j_b3_s, j_b0_s, y_bo, y_bo1, y_bo0, y_i0, y_i1, Classical.not_not, nI_clamp, y_ix, y_lt, y_le, y_eq, y_nP, y_nPs, y_ltP, y_ltQ, y_ltPP, y_eqP, y_eqQ, y_eqPP, if_pos, if_neg, ite_true, ite_false, not_true_eq_false, not_false_eq_true, and_true, true_and, and_false, false_and, or_true, true_or, or_false, false_or, e2.1]
      | succ m ih =>
        intro i n v h hn
        obtain ⟨n, rfl⟩ := y_pos hn
        have ci := e2.2 i (by omega)
        have vi := (hv.2 i (by omega)).2.2.2.2.2
        have le := y_last_le hW i
        unfold p_X11_calm_44 y_su; simp (disch := omega) only [y_lit, y_n1, nI_add, pk_mul, j_lt, j_b1_s, j_b2_s, j_b3_s, j_b0_s, y_bo, y_bo1, y_bo0, y_i0, y_i1, Classical.not_not, nI_clamp, y_ix, y_lt, y_le, y_eq, y_nP, y_nPs, y_ltP, y_ltQ, y_ltPP, y_eqP, y_eqQ, y_eqPP, if_pos, if_neg, ite_true, ite_false, not_true_eq_false, not_false_eq_true, and_true, true_and, and_false, false_and, or_true, true_or, or_false, false_or, e2.1, ci, pk_sub, y_subsub]
        exact ih (i + 1) n _ (by omega) (by omega)
    have km : ∀ m t n v, t + m = b 2 → m < n → v + y_su (y_cf b t) s 0 0 = t → p_X12_calm_18 τ1 n (nI v) (nI t) = some (nI (b 2 - y_su (y_cf b (b 2)) s 0 0)) := by
      intro m
      induction m with
      | zero =>
        intro t n v h hn hq
        obtain ⟨n, rfl⟩ := y_pos hn
        obtain rfl : t = b 2 := by omega
        unfold p_X12_calm_18; simp (disch := omega) only [y_lit, y_n1, nI_add, pk_mul, j_lt, j_b1_s, j_b2_s, j_b3_s, j_b0_s, y_bo, y_bo1, y_bo0, y_i0, y_i1, Classical.not_not, nI_clamp, y_ix, y_lt, y_le, y_eq, y_nP, y_nPs, y_ltP, y_ltQ, y_ltPP, y_eqP, y_eqQ, y_eqPP, if_pos, if_neg, ite_true, ite_false, not_true_eq_false, not_false_eq_true, and_true, true_and, and_false, false_and, or_true, true_or, or_false, false_or, f2.1.f]
        congr 2; omega
      | succ m ih =>
        intro t n v h hn hq
        obtain ⟨n, rfl⟩ := y_pos hn
        have lt := y_upb_lt (t := t) hW hv
        have cs := y_cs hW t s 0
        unfold p_X12_calm_18; simp (disch := omega) only [y_lit, y_n1, nI_add, pk_mul, j_lt, j_b1_s, j_b2_s, j_b3_s, j_b0_s, y_bo, y_bo1, y_bo0, y_i0, y_i1, Classical.not_not, nI_clamp, y_ix, y_lt, y_le, y_eq, y_nP, y_nPs, y_ltP, y_ltQ, y_ltPP, y_eqP, y_eqQ, y_eqPP, if_pos, if_neg, ite_true, ite_false, not_true_eq_false, not_false_eq_true, and_true, true_and, and_false, false_and, or_true, true_or, or_false, false_or, f2.1.f, ym_upIn f2.2 hv hW, y_upb0]
        by_cases z : y_ui b t s 0 = 0
        · rw [if_pos z] at cs ⊢
          rw [nI_add]
          exact ih (t + 1) n (v + 1) (by omega) (by omega) (by omega)
        · rw [if_neg z] at cs ⊢
          rw [nI_add]
          exact ih (t + 1) n (v + 0) (by omega) (by omega) (by omega)
    refine ⟨nI (b 2 - y_su (y_len b) s 0 0), σ1, τ1, ?_, ?_, hr⟩
    · have k := kc s 0 j_F 0 (by omega) (y_F (by omega))
      rw [show nI (b 2) - nI 0 = nI (b 2) from by rw [pk_sub (by omega)]; rfl] at k
      unfold f_X11_calm; simp (disch := omega) only [y_lit, y_n1, nI_add, pk_mul, j_lt, j_b1_s, j_b2_s, j_b3_s, j_b0_s, y_bo, y_bo1, y_bo0, y_i0, y_i1, Classical.not_not, nI_clamp, y_ix, y_lt, y_le, y_eq, y_nP, y_nPs, y_ltP, y_ltQ, y_ltPP, y_eqP, y_eqQ, y_eqPP, if_pos, if_neg, ite_true, ite_false, not_true_eq_false, not_false_eq_true, and_true, true_and, and_false, false_and, or_true, true_or, or_false, false_or, yc_isTold hN hW, e1, hN1.f4, k, pk_sub]
    · have k := km (b 2) 0 j_F 0 (by omega) (y_F (by omega)) (by rw [y_cs0])
      unfold f_X12_calm; simp (disch := omega) only [y_lit, y_n1, nI_add, pk_mul, j_lt, j_b1_s, j_b2_s, j_b3_s, j_b0_s, y_bo, y_bo1, y_bo0, y_i0, y_i1, Classical.not_not, nI_clamp, y_ix, y_lt, y_le, y_eq, y_nP, y_nPs, y_ltP, y_ltQ, y_ltPP, y_eqP, y_eqQ, y_eqPP, if_pos, if_neg, ite_true, ite_false, not_true_eq_false, not_false_eq_true, and_true, true_and, and_false, false_and, or_true, true_or, or_false, false_or, ym_isBoard hM hW, f1, k, eq]
  · refine ⟨-2, σ, τ, ?_, ?_, hR⟩
    · unfold f_X11_calm; simp (disch := omega) only [y_lit, y_n1, nI_add, pk_mul, j_lt, j_b1_s, j_b2_s, j_b3_s, j_b0_s, y_bo, y_bo1, y_bo0, y_i0, y_i1, Classical.not_not, nI_clamp, y_ix, y_lt, y_le, y_eq, y_nP, y_nPs, y_ltP, y_ltQ, y_ltPP, y_eqP, y_eqQ, y_eqPP, if_pos, if_neg, ite_true, ite_false, not_true_eq_false, not_false_eq_true, and_true, true_and, and_false, false_and, or_true, true_or, or_false, false_or, yc_isTold hN hW]
    · unfold f_X12_calm; simp (disch := omega) only [y_lit, y_n1, nI_add, pk_mul, j_lt, j_b1_s, j_b2_s, j_b3_s, j_b0_s, y_bo, y_bo1, y_bo0, y_i0, y_i1, Classical.not_not, nI_clamp, y_ix, y_lt, y_le, y_eq, y_nP, y_nPs, y_ltP, y_ltQ, y_ltPP, y_eqP, y_eqQ, y_eqPP, if_pos, if_neg, ite_true, ite_false, not_true_eq_false, not_false_eq_true, and_true, true_and, and_false, false_and, or_true, true_or, or_false, false_or, ym_isBoard hM hW]
end Z
/-- ticks of a run go up -/
def y_mo (R : Nat → Nat) : Prop := (∀ k, k < R 0 → R (8 + 2 * k) < R 3) ∧ ∀ k l, k < l → l < R 0 → R (8 + 2 * k) ≤ R (8 + 2 * l)
theorem y_at_ge {b q R : Nat → Nat} {i to : Nat} : R 3 ≤ y_at b q i to R := by
  have mx : ∀ x z, x ≤ y_mx x z := fun x z => by unfold y_mx; split <;> omega
  have th : ∀ h c t, t ≤ y_th b q h c t := fun h c t => Nat.le_add_right _ _
  exact Nat.le_trans (mx _ (y_aw b q i)) (Nat.le_trans (th _ _ _) (mx _ _))
theorem y_go_mo {b g q R : Nat → Nat} {i to m : Nat} (hb : y_br b R m) (hm : m < 200) (hi : i < 60) (hm0 : y_mo R) : y_mo (y_go b g q i to R) := by
  have h0 := hb.1
  have ge := y_at_ge (b := b) (q := q) (R := R) (i := i) (to := to)
  unfold y_go
  split
  · generalize y_at b q i to R = t at *
    unfold y_set
    refine ⟨fun k hk => ?_, fun k l hk hl => ?_⟩
    · simp (disch := omega) only [y_ue, y_un] at hk ⊢
      by_cases e : k = R 0
      · subst e; simp (disch := omega) only [y_ue, y_un]; omega
      · have := hm0.1 k (by omega)
        simp (disch := omega) only [y_ue, y_un]; omega
    · simp (disch := omega) only [y_ue, y_un] at hl ⊢
      have h1 := hm0.1 k (by omega)
      by_cases e : l = R 0
      · subst e; simp (disch := omega) only [y_ue, y_un]; omega
      · have := hm0.2 k l hk (by omega)
        simp (disch := omega) only [y_ue, y_un]; omega
  · exact hm0
theorem y_go2_mo {b g q R : Nat → Nat} {s i to th m : Nat} (hW : y_W b) (hv : y_vg b s g) (hb : y_br b R m) (hm : m + 1 < 120) (hi : i < s) (hto : to < y_ho b) (hm0 : y_mo R) : y_mo (y_go2 b g q i to th R) := by
  have h60 := hv.1
  unfold y_go2
  split
  · exact y_go_mo (y_go_br hW hv hb (by omega) hi hto) (by omega) (by omega) (y_go_mo hb (by omega) (by omega) hm0)
  · exact hm0
theorem y_gf_mo {b g q k R : Nat → Nat} {s i m : Nat} (hW : y_W b) (hv : y_vg b s g) (hb : y_br b R m) (hm : m + 1 < 120) (hi : i < s) (hm0 : y_mo R) : y_mo (y_gf b g q k i R) := by
  have h60 := hv.1
  have li := hv.2 i hi
  unfold y_gf
  split
  · split
    · split
      · exact y_go2_mo hW hv hb hm hi li.1 hm0
      · exact y_go2_mo hW hv hb hm hi (by omega) hm0
    · exact y_go_mo hb (by omega) (by omega) hm0
  · split
    · exact y_go_mo hb (by omega) (by omega) hm0
    · exact hm0
theorem y_rl_mo {b g q k : Nat → Nat} {s red : Nat} (hW : y_W b) (hv : y_vg b s g) : ∀ m i R, i + m ≤ s → y_br b R (2 * i) → y_mo R → y_mo (y_rl b g q k red m i R) := by
  have hs := hv.1
  intro m
  induction m with
  | zero => intro i R _ _ h; exact h
  | succ m ih =>
    intro i R h hb hm0
    unfold y_rl
    refine ih (i + 1) _ (by omega) ?_ ?_
    · split
      · exact y_gf_br (m := 2 * i) hW hv hb (by omega) (by omega)
      · exact hb.up (by omega)
    · split
      · exact y_gf_mo hW hv hb (by omega) (by omega) hm0
      · exact hm0
theorem y_run_mo {b g q k : Nat → Nat} {s red : Nat} (hW : y_W b) (hv : y_vg b s g) (hq : y_vq b q) : y_mo (y_run b g q k red s) :=
  y_rl_mo hW hv s 0 _ (by omega) (y_R0_br hq) ⟨fun k hk => absurd hk (Nat.not_lt_zero _), fun k l _ hl => absurd hl (Nat.not_lt_zero _)⟩
noncomputable def y_wh (R : Nat → Nat) (t : Nat) : Nat → Nat → Nat → Nat
  | 0, _, a => a
  | m + 1, k, a => if R (8 + 2 * k) ≤ t then y_wh R t m (k + 1) (R (9 + 2 * k)) else a
section Z
variable {σ τ : j_G}
theorem z_where (hR : j_Rel σ τ) (a1 a2 : Int32) : ∃ v σ1 τ1, f_X11_where a1 a2 σ = some (v, σ1) ∧ f_X12_where a1 a2 τ = some (v, τ1) ∧ j_Rel σ1 τ1 := by
  obtain ⟨b, hW, hN, hM, hK⟩ := id hR
  have h2 := hW.b2
  have hv := y_dg_vg hW (b 8)
  by_cases h : y_rg a1 (b 6)
  · by_cases h3 : y_rg a2 (b 2)
    · obtain ⟨p, hp, rfl⟩ := y_of _ _ h.1 h.2
      obtain ⟨t, ht, rfl⟩ := y_of _ _ h3.1 h3.2
      obtain ⟨σ1, e1, e2, e3, e4⟩ := yc_runOf hN hW hp
      obtain ⟨τ1, f1, f2, f3, f4, f5⟩ := ym_ras hM hW hp
      have hr := y_done hR e4 f5
      have br : y_br b (y_own b p) 120 := y_run_br hW hv (y_pqv hW hp)
      have mo : y_mo (y_own b p) := y_run_mo hW hv (y_pqv hW hp)
      have e28 := e2.2.2 4 (by omega)
      have e28' : σ1.1 28 4 = nI (b (96 + 5 * p + 4)) := e28
      generalize y_own b p = R at *
      have b0 := br.1
      have kc : ∀ m k n a, k + m = R 0 → m < n → p_X9_holeBehind_5 (nI t) σ1 n (nI a) (nI k) = some (nI (y_wh R t m k a)) := by
        intro m
        induction m with
        | zero =>
          intro k n a h hn
          obtain ⟨n, rfl⟩ := y_pos hn
          unfold p_X9_holeBehind_5 y_wh; simp (disch := omega) only [y_lit, y_n1, nI_add, pk_mul, j_lt, j_b1_s, j_b2_s, j_b3_s, j_b0_s, y_bo, y_bo1, y_bo0, y_i0, y_i1, Classical.not_not, nI_clamp, y_ix, y_lt, y_le, y_eq, y_nP, y_nPs, y_ltP, y_ltQ, y_ltPP, y_eqP, y_eqQ, y_eqPP, if_pos, if_neg, ite_true, ite_false, not_true_eq_false, not_false_eq_true, and_true, true_and, and_false, false_and, or_true, true_or, or_false, false_or, e3.1.1]
        | succ m ih =>
          intro k n a h hn
          obtain ⟨n, rfl⟩ := y_pos hn
          have ci := e3.2.1 k (by omega)
          have bi := br.2.2.2.2.2.1 k (by omega)
          unfold p_X9_holeBehind_5 y_wh; simp (disch := omega) only [y_lit, y_n1, nI_add, pk_mul, j_lt, j_b1_s, j_b2_s, j_b3_s, j_b0_s, y_bo, y_bo1, y_bo0, y_i0, y_i1, Classical.not_not, nI_clamp, y_ix, y_lt, y_le, y_eq, y_nP, y_nPs, y_ltP, y_ltQ, y_ltPP, y_eqP, y_eqQ, y_eqPP, if_pos, if_neg, ite_true, ite_false, not_true_eq_false, not_false_eq_true, and_true, true_and, and_false, false_and, or_true, true_or, or_false, false_or, e3.1.1, ci]
          by_cases c : R (8 + 2 * k) ≤ t
          · simp (disch := omega) only [y_lit, y_n1, nI_add, pk_mul, j_lt, j_b1_s, j_b2_s, j_b3_s, j_b0_s, y_bo, y_bo1, y_bo0, y_i0, y_i1, Classical.not_not, nI_clamp, y_ix, y_lt, y_le, y_eq, y_nP, y_nPs, y_ltP, y_ltQ, y_ltPP, y_eqP, y_eqQ, y_eqPP, if_pos, if_neg, ite_true, ite_false, not_true_eq_false, not_false_eq_true, and_true, true_and, and_false, false_and, or_true, true_or, or_false, false_or]
            exact ih (k + 1) n _ (by omega) (by omega)
          · simp (disch := omega) only [y_lit, y_n1, nI_add, pk_mul, j_lt, j_b1_s, j_b2_s, j_b3_s, j_b0_s, y_bo, y_bo1, y_bo0, y_i0, y_i1, Classical.not_not, nI_clamp, y_ix, y_lt, y_le, y_eq, y_nP, y_nPs, y_ltP, y_ltQ, y_ltPP, y_eqP, y_eqQ, y_eqPP, if_pos, if_neg, ite_true, ite_false, not_true_eq_false, not_false_eq_true, and_true, true_and, and_false, false_and, or_true, true_or, or_false, false_or]
      have sk : ∀ m k n a, k + m = R 0 → m < n → (∀ l, k ≤ l → l < R 0 → t < R (8 + 2 * l)) → p_X12_where_33 (nI t) τ1 n (nI a) (nI k) = some (nI a) := by
        intro m
        induction m with
        | zero =>
          intro k n a h hn _
          obtain ⟨n, rfl⟩ := y_pos hn
          unfold p_X12_where_33; simp (disch := omega) only [y_lit, y_n1, nI_add, pk_mul, j_lt, j_b1_s, j_b2_s, j_b3_s, j_b0_s, y_bo, y_bo1, y_bo0, y_i0, y_i1, Classical.not_not, nI_clamp, y_ix, y_lt, y_le, y_eq, y_nP, y_nPs, y_ltP, y_ltQ, y_ltPP, y_eqP, y_eqQ, y_eqPP, if_pos, if_neg, ite_true, ite_false, not_true_eq_false, not_false_eq_true, and_true, true_and, and_false, false_and, or_true, true_or, or_false, false_or, f3.1.1]
        | succ m ih =>
          intro k n a h hn hl
          obtain ⟨n, rfl⟩ := y_pos hn
          have ci := f3.2.1 k (by omega)
          have bi := br.2.2.2.2.2.1 k (by omega)
          have := hl k (by omega) (by omega)
          unfold p_X12_where_33; simp (disch := omega) only [y_lit, y_n1, nI_add, pk_mul, j_lt, j_b1_s, j_b2_s, j_b3_s, j_b0_s, y_bo, y_bo1, y_bo0, y_i0, y_i1, Classical.not_not, nI_clamp, y_ix, y_lt, y_le, y_eq, y_nP, y_nPs, y_ltP, y_ltQ, y_ltPP, y_eqP, y_eqQ, y_eqPP, if_pos, if_neg, ite_true, ite_false, not_true_eq_false, not_false_eq_true, and_true, true_and, and_false, false_and, or_true, true_or, or_false, false_or, f3.1.1, ci]
          exact ih (k + 1) n _ (by omega) (by omega) (fun l h1 h2 => hl l (by omega) h2)
      have km : ∀ m k n a, k + m = R 0 → m < n → p_X12_where_33 (nI t) τ1 n (nI a) (nI k) = some (nI (y_wh R t m k a)) := by
        intro m
        induction m with
        | zero =>
          intro k n a h hn
          obtain ⟨n, rfl⟩ := y_pos hn
          unfold p_X12_where_33 y_wh; simp (disch := omega) only [y_lit, y_n1, nI_add, pk_mul, j_lt, j_b1_s, j_b2_s, j_b3_s, j_b0_s, y_bo, y_bo1, y_bo0, y_i0, y_i1, Classical.not_not, nI_clamp, y_ix, y_lt, y_le, y_eq, y_nP, y_nPs, y_ltP, y_ltQ, y_ltPP, y_eqP, y_eqQ, y_eqPP, if_pos, if_neg, ite_true, ite_false, not_true_eq_false, not_false_eq_true, and_true, true_and, and_false, false_and, or_true, true_or, or_false, false_or, f3.1.1]
        | succ m ih =>
          intro k n a h hn
          by_cases c : R (8 + 2 * k) ≤ t
          · obtain ⟨n, rfl⟩ := y_pos hn
            have ci := f3.2.1 k (by omega)
            have bi := br.2.2.2.2.2.1 k (by omega)
            unfold p_X12_where_33 y_wh; simp (disch := omega) only [y_lit, y_n1, nI_add, pk_mul, j_lt, j_b1_s, j_b2_s, j_b3_s, j_b0_s, y_bo, y_bo1, y_bo0, y_i0, y_i1, Classical.not_not, nI_clamp, y_ix, y_lt, y_le, y_eq, y_nP, y_nPs, y_ltP, y_ltQ, y_ltPP, y_eqP, y_eqQ, y_eqPP, if_pos, if_neg, ite_true, ite_false, not_true_eq_false, not_false_eq_true, and_true, true_and, and_false, false_and, or_true, true_or, or_false, false_or, f3.1.1, ci]
            exact ih (k + 1) n _ (by omega) (by omega)
          · unfold y_wh
            rw [if_neg c]
            exact sk (m + 1) k n a h hn (fun l h1 h2 => by
              by_cases e : l = k
              · subst e; omega
              · have := mo.2 k l (by omega) h2; omega)
      refine ⟨nI (y_wh R t (R 0) 0 (b (96 + 5 * p + 4))), σ1, τ1, ?_, ?_, hr⟩
      · have k := kc (R 0) 0 j_F (b (96 + 5 * p + 4)) (by omega) (y_F (by omega))
        unfold f_X11_where f_X9_holeBehind; simp (disch := omega) only [y_lit, y_n1, nI_add, pk_mul, j_lt, j_b1_s, j_b2_s, j_b3_s, j_b0_s, y_bo, y_bo1, y_bo0, y_i0, y_i1, Classical.not_not, nI_clamp, y_ix, y_lt, y_le, y_eq, y_nP, y_nPs, y_ltP, y_ltQ, y_ltPP, y_eqP, y_eqQ, y_eqPP, if_pos, if_neg, ite_true, ite_false, not_true_eq_false, not_false_eq_true, and_true, true_and, and_false, false_and, or_true, true_or, or_false, false_or, yc_isTick hN hW, y_rn, e1, e28', k]
      · have k := km (R 0) 0 j_F (b (96 + 5 * p + 4)) (by omega) (y_F (by omega))
        unfold f_X12_where; simp (disch := omega) only [y_lit, y_n1, nI_add, pk_mul, j_lt, j_b1_s, j_b2_s, j_b3_s, j_b0_s, y_bo, y_bo1, y_bo0, y_i0, y_i1, Classical.not_not, nI_clamp, y_ix, y_lt, y_le, y_eq, y_nP, y_nPs, y_ltP, y_ltQ, y_ltPP, y_eqP, y_eqQ, y_eqPP, if_pos, if_neg, ite_true, ite_false, not_true_eq_false, not_false_eq_true, and_true, true_and, and_false, false_and, or_true, true_or, or_false, false_or, ym_isPlayer hM hW, ym_isTick hM hW, y_rn, if_pos h, f1, f4, k]
    · refine ⟨-2, σ, τ, ?_, ?_, hR⟩
      · unfold f_X11_where; simp (disch := omega) only [y_lit, y_n1, nI_add, pk_mul, j_lt, j_b1_s, j_b2_s, j_b3_s, j_b0_s, y_bo, y_bo1, y_bo0, y_i0, y_i1, Classical.not_not, nI_clamp, y_ix, y_lt, y_le, y_eq, y_nP, y_nPs, y_ltP, y_ltQ, y_ltPP, y_eqP, y_eqQ, y_eqPP, if_pos, if_neg, ite_true, ite_false, not_true_eq_false, not_false_eq_true, and_true, true_and, and_false, false_and, or_true, true_or, or_false, false_or, yc_isTick hN hW, h3]
      · unfold f_X12_where; simp (disch := omega) only [y_lit, y_n1, nI_add, pk_mul, j_lt, j_b1_s, j_b2_s, j_b3_s, j_b0_s, y_bo, y_bo1, y_bo0, y_i0, y_i1, Classical.not_not, nI_clamp, y_ix, y_lt, y_le, y_eq, y_nP, y_nPs, y_ltP, y_ltQ, y_ltPP, y_eqP, y_eqQ, y_eqPP, if_pos, if_neg, ite_true, ite_false, not_true_eq_false, not_false_eq_true, and_true, true_and, and_false, false_and, or_true, true_or, or_false, false_or, ym_isPlayer hM hW, ym_isTick hM hW, h, h3]
  · refine ⟨-2, σ, τ, ?_, ?_, hR⟩
    · unfold f_X11_where; rw [yc_unrun hN hW h]; simp (disch := omega) only [y_lit, y_n1, nI_add, pk_mul, j_lt, j_b1_s, j_b2_s, j_b3_s, j_b0_s, y_bo, y_bo1, y_bo0, y_i0, y_i1, Classical.not_not, nI_clamp, y_ix, y_lt, y_le, y_eq, y_nP, y_nPs, y_ltP, y_ltQ, y_ltPP, y_eqP, y_eqQ, y_eqPP, if_pos, if_neg, ite_true, ite_false, not_true_eq_false, not_false_eq_true, and_true, true_and, and_false, false_and, or_true, true_or, or_false, false_or, yc_isTick hN hW]
      split <;> rfl
    · unfold f_X12_where; simp (disch := omega) only [y_lit, y_n1, nI_add, pk_mul, j_lt, j_b1_s, j_b2_s, j_b3_s, j_b0_s, y_bo, y_bo1, y_bo0, y_i0, y_i1, Classical.not_not, nI_clamp, y_ix, y_lt, y_le, y_eq, y_nP, y_nPs, y_ltP, y_ltQ, y_ltPP, y_eqP, y_eqQ, y_eqPP, if_pos, if_neg, ite_true, ite_false, not_true_eq_false, not_false_eq_true, and_true, true_and, and_false, false_and, or_true, true_or, or_false, false_or, ym_isPlayer hM hW, h]
end Z
/-! ===== runs with a number told otherwise ===== -/
theorem y_uu {q : Nat → Nat} {k x z : Nat} : y_u (y_u q k x) k z = y_u q k z := by
  funext j
  unfold y_u
  split <;> rfl
theorem y_uid {q : Nat → Nat} {k : Nat} : y_u q k (q k) = q := by
  funext j
  unfold y_u
  split
  · rename_i h; rw [h]
  · rfl
/-- hits of a run with such numbers -/
noncomputable def y_H (b q : Nat → Nat) : Nat := y_run b (y_dg b (b 8)) q y_k1 0 (y_gs b) 0
def y_ra (σ : j_G) (b q : Nat → Nat) : Prop := y_N σ b ∧ y_cg σ b (y_gs b) (y_dg b (b 8)) ∧ y_cp σ 28 q
theorem y_vq1 {b q : Nat → Nat} (h : y_vq b q) {n : Nat} (hn : n ≤ 40) : y_vq b (y_u q 1 n) := by
  obtain ⟨h0, h1, h2, h3, h4⟩ := h
  unfold y_vq; simp (disch := omega) only [y_ue, y_un]; exact ⟨h0, hn, h2, h3, h4⟩
theorem y_vq3 {b q : Nat → Nat} (h : y_vq b q) {n : Nat} (hn : n ≤ 9) : y_vq b (y_u q 3 n) := by
  obtain ⟨h0, h1, h2, h3, h4⟩ := h
  unfold y_vq; simp (disch := omega) only [y_ue, y_un]; exact ⟨h0, h1, h2, hn, h4⟩
theorem y_vq4 {b q : Nat → Nat} (h : y_vq b q) {n : Nat} (hn : n < y_ho b) : y_vq b (y_u q 4 n) := by
  obtain ⟨h0, h1, h2, h3, h4⟩ := h
  unfold y_vq; simp (disch := omega) only [y_ue, y_un]; exact ⟨h0, h1, h2, h3, hn⟩
theorem y_H_le {b q : Nat → Nat} (hW : y_W b) (hq : y_vq b q) : y_H b q ≤ 120 := (y_run_br hW (y_dg_vg hW _) hq).1
theorem y_cp_u {σ : j_G} {q : Nat → Nat} {a k n : Nat} (h : y_cp σ a q) : y_cp (j_si σ a k (nI n)) a (y_u q k n) := by
  intro j hj
  by_cases e : j = k
  · subst e; rw [j_r_eq, y_ue]
  · rw [j_r_nj e, y_un e]; exact h j hj
section Z
variable {σ τ : j_G} {b q : Nat → Nat} {p k n : Nat}
theorem y_ra.set (h : y_ra σ b q) : y_ra (j_si σ 28 k (nI n)) b (y_u q k n) := by
  obtain ⟨h1, h2, h3⟩ := h
  have f : y_fr 28 28 σ (j_si σ 28 k (nI n)) := y_fr.refl.si (by omega) (by omega)
  exact ⟨h1.fr f (by omega), h2.fr f (by omega), y_cp_u h3⟩
theorem yc_ra (h : y_ra σ b q) (hW : y_W b) (h9 : 0 < b 9) (hq : y_vq b q) : ∃ σ', f_X9_good 30 28 22 31 32 25 23 24 26 33 34 (nP 0) σ = some (nI (y_H b q), σ') ∧ y_ra σ' b q ∧ y_fr 28 34 σ σ' := by
  obtain ⟨h1, h2, h3⟩ := h
  obtain ⟨σ2, f1, f2, f3⟩ := yc_good h1 hW h9 h2 (y_dg_vg hW _) h3 (by omega) hq y_mkC
  exact ⟨σ2, f1, ⟨h1.fr f3 (by omega), h2.fr f3 (by omega), h3.fr f3 (by omega)⟩, f3.wide (by omega) (by omega)⟩
theorem yc_know (h : y_ra σ b q) (hW : y_W b) (h9 : 0 < b 9) (hq : y_vq b q) (hn : n ≤ 9) : ∃ σ', f_X11_hitsKnowing (nI n) σ = some (nI (y_H b (y_u q 3 n)), σ') ∧ y_ra σ' b (y_u q 3 n) ∧ y_fr 28 34 σ σ' := by
  obtain ⟨σ2, f1, f2, f3⟩ := yc_ra (h.set (k := 3) (n := n)) hW h9 (y_vq3 hq hn)
  unfold f_X11_hitsKnowing
  simp only [j_lt]; rw [y_m1, f1]
  exact ⟨σ2, rfl, f2, (y_fr.refl.si (by omega) (by omega)).trans f3⟩
theorem yc_lagg (h : y_ra σ b q) (hW : y_W b) (h9 : 0 < b 9) (hq : y_vq b q) (hn : n ≤ 40) : ∃ σ', f_X11_hitsLagging (nI n) σ = some (nI (y_H b (y_u q 1 n)), σ') ∧ y_ra σ' b (y_u q 1 n) ∧ y_fr 28 34 σ σ' := by
  obtain ⟨σ2, f1, f2, f3⟩ := yc_ra (h.set (k := 1) (n := n)) hW h9 (y_vq1 hq hn)
  unfold f_X11_hitsLagging
  simp only [j_lt]; rw [y_m1, f1]
  exact ⟨σ2, rfl, f2, (y_fr.refl.si (by omega) (by omega)).trans f3⟩
theorem yc_look (h : y_ra σ b q) (hW : y_W b) (h9 : 0 < b 9) (hq : y_vq b q) (hn : n ≤ 40) : ∃ σ', f_X11_lookPoints (nI n) σ = some (nI (10 * y_H b (y_u (y_u q 1 n) 3 0)), σ') ∧ y_ra σ' b (y_u (y_u q 1 n) 3 0) ∧ y_fr 28 34 σ σ' := by
  obtain ⟨σ2, f1, f2, f3⟩ := yc_ra ((h.set (k := 1) (n := n)).set (k := 3) (n := 0)) hW h9 (y_vq3 (y_vq1 hq hn) (by omega))
  unfold f_X11_lookPoints
  simp only [j_lt, y_lit]; rw [y_n1, f1]
  refine ⟨σ2, ?_, f2, ((y_fr.refl.si (by omega) (by omega)).si (by omega) (by omega)).trans f3⟩
  rw [j_b2_s, pk_mul]
/-- the reference's run behind asTold with changes -/
theorem ym_asked {τ1 : j_G} (hL : y_ldy τ b) (hW : y_W b) (hp : p < b 6) (hq : y_vq b q) (hf : y_fm 18 42 80 81 τ τ1) (h18 : τ1.1 75 18 = τ.1 75 18) (hmp : y_mp τ1 b p q) (h23 : τ1.1 75 23 = nI 4095) (h24 : τ1.1 75 24 = nI 0) : ∃ τ', f_X12_run τ1 = some τ' ∧ τ'.1 75 29 = nI (y_H b q) ∧ y_ldy τ' b ∧ y_fm 18 42 80 93 τ τ' := by
  have hL1 : y_ldy τ1 b := by
    obtain ⟨hM, hg⟩ := hL
    refine ⟨hM.fr hf (by omega), ?_⟩
    unfold y_mg at *
    rw [(hf.2 82 (by omega) (by omega)).1, (hf.2 83 (by omega) (by omega)).1, (hf.2 84 (by omega) (by omega)).1, h18]
    exact hg
  obtain ⟨τ2, e1, e2, e3, e4, e5⟩ := ym_runq (k := y_k1) (red := 0) hL1 hW hp hmp hq (by rw [h23]; exact y_mkM) (by omega) h24
  exact ⟨τ2, e1, e2.1.1, e3, (hf.wide (by omega) (by omega) (by omega) (by omega)).trans (e5.wide (by omega) (by omega) (by omega) (by omega))⟩
theorem ym_know (hL : y_ldy τ b) (hW : y_W b) (hp : p < b 6) (hn : n ≤ 9) : ∃ τ', f_X12_learnsBy (nI p) (nI n) τ = some (nI (y_H b (y_u (y_pq b p) 3 n)), τ') ∧ y_ldy τ' b ∧ y_fm 18 42 80 93 τ τ' := by
  obtain ⟨τ1, g1, ⟨m0, m1, m2, m3, m4, m5, m6⟩, g3, g4, g5⟩ := ym_told hL.1 hW hp
  obtain ⟨τ2, e1, e2, e3, e4⟩ := ym_asked (τ1 := j_si τ1 75 21 (nI n)) (p := p) (q := y_u (y_pq b p) 3 n) hL hW hp (y_vq3 (y_pqv hW hp) hn) ((g5.wide (by omega) (by omega) (by omega) (by omega)).trans (y_fm.refl.so (by omega) (by omega))) (by simp (disch := omega) only [j_r_ne, j_r_eq, j_r_nj]; exact g5.1 18 (by omega)) (by unfold y_mp; simp (disch := omega) only [j_r_ne, j_r_eq, j_r_nj, y_ue, y_un]; exact ⟨m0, m1, trivial, m3, m4, m5, m6⟩) (by simp (disch := omega) only [j_r_ne, j_r_eq, j_r_nj]; exact g3) (by simp (disch := omega) only [j_r_ne, j_r_eq, j_r_nj]; exact g4)
  unfold f_X12_learnsBy
  rw [g1]; simp only [j_b1_s, j_lt]; rw [e1]
  exact ⟨τ2, by rw [j_b1_s, e2], e3, e4⟩
theorem ym_lagg (hL : y_ldy τ b) (hW : y_W b) (hp : p < b 6) (hn : n ≤ 40) : ∃ τ', f_X12_lagging (nI p) (nI n) τ = some (nI (y_H b (y_u (y_pq b p) 1 n)), τ') ∧ y_ldy τ' b ∧ y_fm 18 42 80 93 τ τ' := by
  obtain ⟨τ1, g1, ⟨m0, m1, m2, m3, m4, m5, m6⟩, g3, g4, g5⟩ := ym_told hL.1 hW hp
  obtain ⟨τ2, e1, e2, e3, e4⟩ := ym_asked (τ1 := j_si τ1 75 20 (nI n)) (p := p) (q := y_u (y_pq b p) 1 n) hL hW hp (y_vq1 (y_pqv hW hp) hn) ((g5.wide (by omega) (by omega) (by omega) (by omega)).trans (y_fm.refl.so (by omega) (by omega))) (by simp (disch := omega) only [j_r_ne, j_r_eq, j_r_nj]; exact g5.1 18 (by omega)) (by unfold y_mp; simp (disch := omega) only [j_r_ne, j_r_eq, j_r_nj, y_ue, y_un]; exact ⟨m0, trivial, m2, m3, m4, m5, m6⟩) (by simp (disch := omega) only [j_r_ne, j_r_eq, j_r_nj]; exact g3) (by simp (disch := omega) only [j_r_ne, j_r_eq, j_r_nj]; exact g4)
  unfold f_X12_lagging
  rw [g1]; simp only [j_b1_s, j_lt]; rw [e1]
  exact ⟨τ2, by rw [j_b1_s, e2], e3, e4⟩
theorem ym_wait (hL : y_ldy τ b) (hW : y_W b) (hp : p < b 6) (hn : n < y_ho b) : ∃ τ', f_X12_waitingAt (nI p) (nI n) τ = some (nI (y_H b (y_u (y_pq b p) 4 n)), τ') ∧ y_ldy τ' b ∧ y_fm 18 42 80 93 τ τ' := by
  obtain ⟨τ1, g1, ⟨m0, m1, m2, m3, m4, m5, m6⟩, g3, g4, g5⟩ := ym_told hL.1 hW hp
  obtain ⟨τ2, e1, e2, e3, e4⟩ := ym_asked (τ1 := j_si τ1 75 22 (nI n)) (p := p) (q := y_u (y_pq b p) 4 n) hL hW hp (y_vq4 (y_pqv hW hp) hn) ((g5.wide (by omega) (by omega) (by omega) (by omega)).trans (y_fm.refl.so (by omega) (by omega))) (by simp (disch := omega) only [j_r_ne, j_r_eq, j_r_nj]; exact g5.1 18 (by omega)) (by unfold y_mp; simp (disch := omega) only [j_r_ne, j_r_eq, j_r_nj, y_ue, y_un]; exact ⟨m0, m1, m2, trivial, m4, m5, m6⟩) (by simp (disch := omega) only [j_r_ne, j_r_eq, j_r_nj]; exact g3) (by simp (disch := omega) only [j_r_ne, j_r_eq, j_r_nj]; exact g4)
  unfold f_X12_waitingAt
  rw [g1]; simp only [j_b1_s, j_lt]; rw [e1]
  exact ⟨τ2, by rw [j_b1_s, e2], e3, e4⟩
theorem ym_look (hL : y_ldy τ b) (hW : y_W b) (hp : p < b 6) (hn : n ≤ 20) : ∃ τ', f_X12_lookOf (nI p) (nI n) τ = some (nI (10 * y_H b (y_u (y_u (y_pq b p) 1 (y_pq b p 1 + n)) 3 0)), τ') ∧ y_ldy τ' b ∧ y_fm 18 42 80 93 τ τ' := by
  have q1 : y_pq b p 1 ≤ 20 := by
    have h := hW.pl hp
    show b (96 + 5 * p + 1) ≤ 20; rw [show 96 + 5 * p + 1 = 97 + 5 * p from by omega]; omega
  obtain ⟨τ1, g1, ⟨m0, m1, m2, m3, m4, m5, m6⟩, g3, g4, g5⟩ := ym_told hL.1 hW hp
  obtain ⟨τ2, e1, e2, e3, e4⟩ := ym_asked (τ1 := j_si (j_si τ1 75 20 (nI (y_pq b p 1 + n))) 75 21 (nI 0)) (p := p) (q := y_u (y_u (y_pq b p) 1 (y_pq b p 1 + n)) 3 0) hL hW hp (y_vq3 (y_vq1 (y_pqv hW hp) (by omega)) (by omega)) ((g5.wide (by omega) (by omega) (by omega) (by omega)).trans ((y_fm.refl.so (by omega) (by omega)).so (by omega) (by omega))) (by simp (disch := omega) only [j_r_ne, j_r_eq, j_r_nj]; exact g5.1 18 (by omega)) (by unfold y_mp; simp (disch := omega) only [j_r_ne, j_r_eq, j_r_nj, y_ue, y_un]; exact ⟨m0, trivial, trivial, m3, m4, m5, m6⟩) (by simp (disch := omega) only [j_r_ne, j_r_eq, j_r_nj]; exact g3) (by simp (disch := omega) only [j_r_ne, j_r_eq, j_r_nj]; exact g4)
  unfold f_X12_lookOf
  rw [g1]; simp only [j_b1_s, j_lt, y_lit, m1, nI_add]; rw [e1]
  exact ⟨τ2, by rw [j_b1_s, e2, pk_mul], e3, e4⟩
theorem ym_rashOf (hL : y_ldy τ b) (hW : y_W b) (hp : p < b 6) : ∃ τ', f_X12_rashOf (nI p) τ = some (nI 10 * (nI (y_run b (y_dg b (b 8)) (y_pq b p) y_k1 1 (y_gs b) 0) - nI (y_run b (y_dg b (b 8)) (y_pq b p) y_k1 1 (y_gs b) 4)) - nI 20 * nI (y_run b (y_dg b (b 8)) (y_pq b p) y_k1 1 (y_gs b) 4), τ') ∧ y_ldy τ' b ∧ y_fm 18 42 80 93 τ τ' := by
  obtain ⟨τ1, g1, g2, g3, g4, g5⟩ := ym_told hL.1 hW hp
  have hL1 := hL.fr g5 (by omega) (by omega)
  have f : y_fm 24 24 80 79 τ1 (j_si τ1 75 24 (nI 1)) := y_fm.refl.so (by omega) (by omega)
  obtain ⟨τ2, e1, e2, e3, e4, e5⟩ := ym_runq (k := y_k1) (red := 1) (hL1.fr f (by omega) (by omega)) hW hp (q := y_pq b p) (by obtain ⟨m0, m1, m2, m3, m4, m5, m6⟩ := g2; unfold y_mp; simp (disch := omega) only [j_r_ne, j_r_eq, j_r_nj]; exact ⟨m0, m1, m2, m3, m4, m5, m6⟩) (y_pqv hW hp) (by simp (disch := omega) only [j_r_ne, j_r_eq, j_r_nj, g3]; exact y_mkM) (by omega) (by simp (disch := omega) only [j_r_ne, j_r_eq, j_r_nj])
  unfold f_X12_rashOf
  rw [g1]; simp only [j_b1_s, j_lt, y_lit]; rw [e1]
  exact ⟨τ2, by rw [j_b1_s, e2.1.1, e2.1.2.2.2.2], e3, (g5.wide (by omega) (by omega) (by omega) (by omega)).trans ((f.wide (by omega) (by omega) (by omega) (by omega)).trans (e5.wide (by omega) (by omega) (by omega) (by omega)))⟩
end Z
