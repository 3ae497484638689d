set_option maxRecDepth 20000 in
theorem mw_349 : (.code yX10_reduced cX10_reduced 3 (some .int) : Cond) ∈ lw_tbl := List.mem_of_getElem? (i := 569) (by decide +kernel)
set_option maxRecDepth 20000 in
theorem mw_350 : (.methodLink RX10 153 yX10_ringAnswer : Cond) ∈ lw_tbl := List.mem_of_getElem? (i := 571) (by decide +kernel)
set_option maxRecDepth 20000 in
theorem mw_351 : (.instanceMethod yX10_ringAnswer : Cond) ∈ lw_tbl := List.mem_of_getElem? (i := 573) (by decide +kernel)
set_option maxRecDepth 20000 in
theorem mw_352 : (.selects RX10 yX10_ringAnswer yX10_ringAnswer : Cond) ∈ lw_tbl := List.mem_of_getElem? (i := 25) (by decide +kernel)
set_option maxRecDepth 20000 in
theorem mw_353 : (.code yX10_ringAnswer cX10_ringAnswer 2 (some .int) : Cond) ∈ lw_tbl := List.mem_of_getElem? (i := 574) (by decide +kernel)
set_option maxRecDepth 20000 in
theorem mw_354 : (.methodLink RL 44 yX10_reduced : Cond) ∈ lw_tbl := List.mem_of_getElem? (i := 566) (by decide +kernel)
set_option maxRecDepth 20000 in
theorem mw_355 : (.instanceMethod yX10_reduced : Cond) ∈ lw_tbl := List.mem_of_getElem? (i := 567) (by decide +kernel)
set_option maxRecDepth 20000 in
theorem mw_356 : (.selects RX10 yX10_reduced yX10_reduced : Cond) ∈ lw_tbl := List.mem_of_getElem? (i := 568) (by decide +kernel)
set_option maxRecDepth 20000 in
theorem mw_357 : (.code yX11_reduced cX11_reduced 3 (some .int) : Cond) ∈ lw_tbl := List.mem_of_getElem? (i := 979) (by decide +kernel)
set_option maxRecDepth 20000 in
theorem mw_358 : (.methodLink RL 47 yX11_reduced : Cond) ∈ lw_tbl := List.mem_of_getElem? (i := 976) (by decide +kernel)
set_option maxRecDepth 20000 in
theorem mw_359 : (.instanceMethod yX11_reduced : Cond) ∈ lw_tbl := List.mem_of_getElem? (i := 977) (by decide +kernel)
set_option maxRecDepth 20000 in
theorem mw_360 : (.selects RX11 yX11_reduced yX11_reduced : Cond) ∈ lw_tbl := List.mem_of_getElem? (i := 978) (by decide +kernel)
set_option maxRecDepth 20000 in
theorem mw_361 : (.code yX10_reached cX10_reached 4 (some .int) : Cond) ∈ lw_tbl := List.mem_of_getElem? (i := 580) (by decide +kernel)
set_option maxRecDepth 20000 in
theorem mw_362 : (.constant RX10 172 (-1000003) : Cond) ∈ lw_tbl := List.mem_of_getElem? (i := 610) (by decide +kernel)
set_option maxRecDepth 20000 in
theorem mw_363 : (.instanceMethod yX2_run : Cond) ∈ lw_tbl := List.mem_of_getElem? (i := 583) (by decide +kernel)
set_option maxRecDepth 20000 in
theorem mw_364 : (.selects RX2 yX2_run yX2_run : Cond) ∈ lw_tbl := List.mem_of_getElem? (i := 26) (by decide +kernel)
set_option maxRecDepth 20000 in
theorem mw_365 : (.code yX2_run cX2_run 4 none : Cond) ∈ lw_tbl := List.mem_of_getElem? (i := 584) (by decide +kernel)
set_option maxRecDepth 20000 in
theorem mw_366 : (.fieldLink RX2 24 "FallingWords$Reach" "size" "I" : Cond) ∈ lw_tbl := List.mem_of_getElem? (i := 261) (by decide +kernel)
set_option maxRecDepth 20000 in
theorem mw_367 : (.fieldLink RX2 28 "FallingWords$Reach" "tooMany" "Z" : Cond) ∈ lw_tbl := List.mem_of_getElem? (i := 263) (by decide +kernel)
set_option maxRecDepth 20000 in
theorem mw_368 : (.fieldLink RX2 32 "FallingWords$Reach" "ends" "I" : Cond) ∈ lw_tbl := List.mem_of_getElem? (i := 265) (by decide +kernel)
set_option maxRecDepth 20000 in
theorem mw_369 : (.methodLink RX2 18 yJ7_fill_53178 : Cond) ∈ lw_tbl := List.mem_of_getElem? (i := 585) (by decide +kernel)
set_option maxRecDepth 20000 in
theorem mw_370 : (.static yJ7_fill_53178 : Cond) ∈ lw_tbl := List.mem_of_getElem? (i := 586) (by decide +kernel)
set_option maxRecDepth 20000 in
theorem mw_371 : (.initialized RJ7 : Cond) ∈ lw_tbl := List.mem_of_getElem? (i := 106) (by decide +kernel)
set_option maxRecDepth 20000 in
theorem mw_372 : (.code yJ7_fill_53178 cJ7_fill_53178 4 none : Cond) ∈ lw_tbl := List.mem_of_getElem? (i := 587) (by decide +kernel)
set_option maxRecDepth 20000 in
theorem mw_373 : (.methodLink RX2 35 yX2_add : Cond) ∈ lw_tbl := List.mem_of_getElem? (i := 588) (by decide +kernel)
set_option maxRecDepth 20000 in
theorem mw_374 : (.instanceMethod yX2_add : Cond) ∈ lw_tbl := List.mem_of_getElem? (i := 590) (by decide +kernel)
set_option maxRecDepth 20000 in
theorem mw_375 : (.selects RX2 yX2_add yX2_add : Cond) ∈ lw_tbl := List.mem_of_getElem? (i := 27) (by decide +kernel)
set_option maxRecDepth 20000 in
theorem mw_376 : (.code yX2_add cX2_add 4 none : Cond) ∈ lw_tbl := List.mem_of_getElem? (i := 591) (by decide +kernel)
set_option maxRecDepth 20000 in
theorem mw_377 : (.constant RX2 78 (-1640531535) : Cond) ∈ lw_tbl := List.mem_of_getElem? (i := 592) (by decide +kernel)
set_option maxRecDepth 20000 in
theorem mw_378 : (.methodLink RX2 39 yX2_addAllFrom : Cond) ∈ lw_tbl := List.mem_of_getElem? (i := 593) (by decide +kernel)
set_option maxRecDepth 20000 in
theorem mw_379 : (.instanceMethod yX2_addAllFrom : Cond) ∈ lw_tbl := List.mem_of_getElem? (i := 595) (by decide +kernel)
set_option maxRecDepth 20000 in
theorem mw_380 : (.selects RX2 yX2_addAllFrom yX2_addAllFrom : Cond) ∈ lw_tbl := List.mem_of_getElem? (i := 28) (by decide +kernel)
set_option maxRecDepth 20000 in
theorem mw_381 : (.code yX2_addAllFrom cX2_addAllFrom 7 none : Cond) ∈ lw_tbl := List.mem_of_getElem? (i := 596) (by decide +kernel)
set_option maxRecDepth 20000 in
theorem mw_382 : (.methodLink RX2 60 yX2_addEnd : Cond) ∈ lw_tbl := List.mem_of_getElem? (i := 600) (by decide +kernel)
set_option maxRecDepth 20000 in
theorem mw_383 : (.instanceMethod yX2_addEnd : Cond) ∈ lw_tbl := List.mem_of_getElem? (i := 602) (by decide +kernel)
set_option maxRecDepth 20000 in
theorem mw_384 : (.selects RX2 yX2_addEnd yX2_addEnd : Cond) ∈ lw_tbl := List.mem_of_getElem? (i := 29) (by decide +kernel)
set_option maxRecDepth 20000 in
theorem mw_385 : (.code yX2_addEnd cX2_addEnd 2 none : Cond) ∈ lw_tbl := List.mem_of_getElem? (i := 603) (by decide +kernel)
set_option maxRecDepth 20000 in
theorem mw_386 : (.fieldLink RX2 63 "FallingWords$Reach" "firstEnd" "I" : Cond) ∈ lw_tbl := List.mem_of_getElem? (i := 267) (by decide +kernel)
set_option maxRecDepth 20000 in
theorem mw_387 : (.methodLink RX2 66 Lib.Math.min.name : Cond) ∈ lw_tbl := List.mem_of_getElem? (i := 604) (by decide +kernel)
set_option maxRecDepth 20000 in
theorem mw_388 : (.static Lib.Math.min.name : Cond) ∈ lw_tbl := List.mem_of_getElem? (i := 605) (by decide +kernel)
set_option maxRecDepth 20000 in
theorem mw_389 : (.initialized "java/lang/Math" : Cond) ∈ lw_tbl := List.mem_of_getElem? (i := 107) (by decide +kernel)
set_option maxRecDepth 20000 in
theorem mw_390 : (.code Lib.Math.min.name Lib.Math.min.code 2 (some .int) : Cond) ∈ lw_tbl := List.mem_of_getElem? (i := 606) (by decide +kernel)
set_option maxRecDepth 20000 in
theorem mw_391 : (.fieldLink RX2 72 "FallingWords$Reach" "lastEnd" "I" : Cond) ∈ lw_tbl := List.mem_of_getElem? (i := 269) (by decide +kernel)
set_option maxRecDepth 20000 in
theorem mw_392 : (.methodLink RX2 75 Lib.Math.max.name : Cond) ∈ lw_tbl := List.mem_of_getElem? (i := 607) (by decide +kernel)
set_option maxRecDepth 20000 in
theorem mw_393 : (.static Lib.Math.max.name : Cond) ∈ lw_tbl := List.mem_of_getElem? (i := 608) (by decide +kernel)
set_option maxRecDepth 20000 in
theorem mw_394 : (.code Lib.Math.max.name Lib.Math.max.code 2 (some .int) : Cond) ∈ lw_tbl := List.mem_of_getElem? (i := 609) (by decide +kernel)
set_option maxRecDepth 20000 in
theorem mw_395 : (.methodLink RL 48 yX10_reached : Cond) ∈ lw_tbl := List.mem_of_getElem? (i := 577) (by decide +kernel)
set_option maxRecDepth 20000 in
theorem mw_396 : (.instanceMethod yX10_reached : Cond) ∈ lw_tbl := List.mem_of_getElem? (i := 578) (by decide +kernel)
set_option maxRecDepth 20000 in
theorem mw_397 : (.selects RX10 yX10_reached yX10_reached : Cond) ∈ lw_tbl := List.mem_of_getElem? (i := 579) (by decide +kernel)
set_option maxRecDepth 20000 in
theorem mw_398 : (.code yX11_reached cX11_reached 3 (some .int) : Cond) ∈ lw_tbl := List.mem_of_getElem? (i := 983) (by decide +kernel)
set_option maxRecDepth 20000 in
theorem mw_399 : (.fieldLink RX11 119 "FallingWordsModel" "many" "I" : Cond) ∈ lw_tbl := List.mem_of_getElem? (i := 810) (by decide +kernel)
set_option maxRecDepth 20000 in
theorem mw_400 : (.methodLink RX11 126 yX11_reachesAll : Cond) ∈ lw_tbl := List.mem_of_getElem? (i := 984) (by decide +kernel)
set_option maxRecDepth 20000 in
theorem mw_401 : (.instanceMethod yX11_reachesAll : Cond) ∈ lw_tbl := List.mem_of_getElem? (i := 986) (by decide +kernel)
set_option maxRecDepth 20000 in
theorem mw_402 : (.selects RX11 yX11_reachesAll yX11_reachesAll : Cond) ∈ lw_tbl := List.mem_of_getElem? (i := 72) (by decide +kernel)
set_option maxRecDepth 20000 in
theorem mw_403 : (.code yX11_reachesAll cX11_reachesAll 4 none : Cond) ∈ lw_tbl := List.mem_of_getElem? (i := 987) (by decide +kernel)
set_option maxRecDepth 20000 in
theorem mw_404 : (.methodLink RX11 122 yX11_reaches : Cond) ∈ lw_tbl := List.mem_of_getElem? (i := 988) (by decide +kernel)
set_option maxRecDepth 20000 in
theorem mw_405 : (.instanceMethod yX11_reaches : Cond) ∈ lw_tbl := List.mem_of_getElem? (i := 990) (by decide +kernel)
set_option maxRecDepth 20000 in
theorem mw_406 : (.selects RX11 yX11_reaches yX11_reaches : Cond) ∈ lw_tbl := List.mem_of_getElem? (i := 73) (by decide +kernel)
set_option maxRecDepth 20000 in
theorem mw_407 : (.code yX11_reaches cX11_reaches 4 none : Cond) ∈ lw_tbl := List.mem_of_getElem? (i := 991) (by decide +kernel)
set_option maxRecDepth 20000 in
theorem mw_408 : (.methodLink RX11 129 yX11_ends : Cond) ∈ lw_tbl := List.mem_of_getElem? (i := 992) (by decide +kernel)
set_option maxRecDepth 20000 in
theorem mw_409 : (.instanceMethod yX11_ends : Cond) ∈ lw_tbl := List.mem_of_getElem? (i := 994) (by decide +kernel)
set_option maxRecDepth 20000 in
theorem mw_410 : (.selects RX11 yX11_ends yX11_ends : Cond) ∈ lw_tbl := List.mem_of_getElem? (i := 74) (by decide +kernel)
set_option maxRecDepth 20000 in
theorem mw_411 : (.code yX11_ends cX11_ends 3 (some .int) : Cond) ∈ lw_tbl := List.mem_of_getElem? (i := 995) (by decide +kernel)
set_option maxRecDepth 20000 in
theorem mw_412 : (.methodLink RX11 132 yX11_end : Cond) ∈ lw_tbl := List.mem_of_getElem? (i := 996) (by decide +kernel)
set_option maxRecDepth 20000 in
theorem mw_413 : (.instanceMethod yX11_end : Cond) ∈ lw_tbl := List.mem_of_getElem? (i := 998) (by decide +kernel)
set_option maxRecDepth 20000 in
theorem mw_414 : (.selects RX11 yX11_end yX11_end : Cond) ∈ lw_tbl := List.mem_of_getElem? (i := 75) (by decide +kernel)
set_option maxRecDepth 20000 in
theorem mw_415 : (.code yX11_end cX11_end 5 (some .int) : Cond) ∈ lw_tbl := List.mem_of_getElem? (i := 999) (by decide +kernel)
set_option maxRecDepth 20000 in
theorem mw_416 : (.methodLink RL 51 yX11_reached : Cond) ∈ lw_tbl := List.mem_of_getElem? (i := 980) (by decide +kernel)
set_option maxRecDepth 20000 in
theorem mw_417 : (.instanceMethod yX11_reached : Cond) ∈ lw_tbl := List.mem_of_getElem? (i := 981) (by decide +kernel)
set_option maxRecDepth 20000 in
theorem mw_418 : (.selects RX11 yX11_reached yX11_reached : Cond) ∈ lw_tbl := List.mem_of_getElem? (i := 982) (by decide +kernel)
set_option maxRecDepth 20000 in
theorem mw_419 : (.code yX10_storeOf cX10_storeOf 5 (some .int) : Cond) ∈ lw_tbl := List.mem_of_getElem? (i := 614) (by decide +kernel)
set_option maxRecDepth 20000 in
theorem mw_420 : (.methodLink RL 52 yX10_storeOf : Cond) ∈ lw_tbl := List.mem_of_getElem? (i := 611) (by decide +kernel)
set_option maxRecDepth 20000 in
theorem mw_421 : (.instanceMethod yX10_storeOf : Cond) ∈ lw_tbl := List.mem_of_getElem? (i := 612) (by decide +kernel)
set_option maxRecDepth 20000 in
theorem mw_422 : (.selects RX10 yX10_storeOf yX10_storeOf : Cond) ∈ lw_tbl := List.mem_of_getElem? (i := 613) (by decide +kernel)
set_option maxRecDepth 20000 in
theorem mw_423 : (.code yX11_storeOf cX11_storeOf 4 (some .int) : Cond) ∈ lw_tbl := List.mem_of_getElem? (i := 1003) (by decide +kernel)
set_option maxRecDepth 20000 in
theorem mw_424 : (.methodLink RL 55 yX11_storeOf : Cond) ∈ lw_tbl := List.mem_of_getElem? (i := 1000) (by decide +kernel)
set_option maxRecDepth 20000 in
theorem mw_425 : (.instanceMethod yX11_storeOf : Cond) ∈ lw_tbl := List.mem_of_getElem? (i := 1001) (by decide +kernel)
set_option maxRecDepth 20000 in
theorem mw_426 : (.selects RX11 yX11_storeOf yX11_storeOf : Cond) ∈ lw_tbl := List.mem_of_getElem? (i := 1002) (by decide +kernel)
set_option maxRecDepth 20000 in
theorem mw_427 : (.code yX10_overlapOf cX10_overlapOf 3 (some .int) : Cond) ∈ lw_tbl := List.mem_of_getElem? (i := 618) (by decide +kernel)
set_option maxRecDepth 20000 in
theorem mw_428 : (.instanceMethod yX1_find : Cond) ∈ lw_tbl := List.mem_of_getElem? (i := 621) (by decide +kernel)
set_option maxRecDepth 20000 in
theorem mw_429 : (.selects RX1 yX1_find yX1_find : Cond) ∈ lw_tbl := List.mem_of_getElem? (i := 30) (by decide +kernel)
set_option maxRecDepth 20000 in
theorem mw_430 : (.code yX1_find cX1_find 5 (some .boolean) : Cond) ∈ lw_tbl := List.mem_of_getElem? (i := 622) (by decide +kernel)
set_option maxRecDepth 20000 in
theorem mw_431 : (.methodLink RX1 11 yX1_isOverlap : Cond) ∈ lw_tbl := List.mem_of_getElem? (i := 623) (by decide +kernel)
set_option maxRecDepth 20000 in
theorem mw_432 : (.instanceMethod yX1_isOverlap : Cond) ∈ lw_tbl := List.mem_of_getElem? (i := 625) (by decide +kernel)
set_option maxRecDepth 20000 in
theorem mw_433 : (.selects RX1 yX1_isOverlap yX1_isOverlap : Cond) ∈ lw_tbl := List.mem_of_getElem? (i := 31) (by decide +kernel)
set_option maxRecDepth 20000 in
theorem mw_434 : (.code yX1_isOverlap cX1_isOverlap 7 (some .boolean) : Cond) ∈ lw_tbl := List.mem_of_getElem? (i := 626) (by decide +kernel)
set_option maxRecDepth 20000 in
theorem mw_435 : (.fieldLink RX1 25 "FallingWords$Overlaps" "first" "I" : Cond) ∈ lw_tbl := List.mem_of_getElem? (i := 292) (by decide +kernel)
set_option maxRecDepth 20000 in
theorem mw_436 : (.fieldLink RX1 29 "FallingWords$Overlaps" "second" "I" : Cond) ∈ lw_tbl := List.mem_of_getElem? (i := 294) (by decide +kernel)
set_option maxRecDepth 20000 in
theorem mw_437 : (.fieldLink RX1 32 "FallingWords$Overlaps" "place" "I" : Cond) ∈ lw_tbl := List.mem_of_getElem? (i := 296) (by decide +kernel)
set_option maxRecDepth 20000 in
theorem mw_438 : (.fieldLink RX1 49 "FallingWords$Overlaps" "word" "I" : Cond) ∈ lw_tbl := List.mem_of_getElem? (i := 298) (by decide +kernel)
set_option maxRecDepth 20000 in
theorem mw_439 : (.methodLink RX1 45 yX1_coveredWord : Cond) ∈ lw_tbl := List.mem_of_getElem? (i := 628) (by decide +kernel)
set_option maxRecDepth 20000 in
theorem mw_440 : (.instanceMethod yX1_coveredWord : Cond) ∈ lw_tbl := List.mem_of_getElem? (i := 630) (by decide +kernel)
set_option maxRecDepth 20000 in
theorem mw_441 : (.selects RX1 yX1_coveredWord yX1_coveredWord : Cond) ∈ lw_tbl := List.mem_of_getElem? (i := 32) (by decide +kernel)
set_option maxRecDepth 20000 in
theorem mw_442 : (.code yX1_coveredWord cX1_coveredWord 4 (some .int) : Cond) ∈ lw_tbl := List.mem_of_getElem? (i := 631) (by decide +kernel)
set_option maxRecDepth 20000 in
theorem mw_443 : (.instanceMethod yX1_verdict : Cond) ∈ lw_tbl := List.mem_of_getElem? (i := 637) (by decide +kernel)
set_option maxRecDepth 20000 in
theorem mw_444 : (.selects RX1 yX1_verdict yX1_verdict : Cond) ∈ lw_tbl := List.mem_of_getElem? (i := 33) (by decide +kernel)
set_option maxRecDepth 20000 in
theorem mw_445 : (.code yX1_verdict cX1_verdict 3 (some .int) : Cond) ∈ lw_tbl := List.mem_of_getElem? (i := 638) (by decide +kernel)
set_option maxRecDepth 20000 in
theorem mw_446 : (.fieldLink RX1 93 "FallingWords$Overlaps" "firstNormal" "I" : Cond) ∈ lw_tbl := List.mem_of_getElem? (i := 300) (by decide +kernel)
set_option maxRecDepth 20000 in
theorem mw_447 : (.fieldLink RX1 99 "FallingWords$Overlaps" "secondNormal" "I" : Cond) ∈ lw_tbl := List.mem_of_getElem? (i := 302) (by decide +kernel)
set_option maxRecDepth 20000 in
theorem mw_448 : (.methodLink RX1 76 yX1_firstWord : Cond) ∈ lw_tbl := List.mem_of_getElem? (i := 639) (by decide +kernel)
set_option maxRecDepth 20000 in
theorem mw_449 : (.instanceMethod yX1_firstWord : Cond) ∈ lw_tbl := List.mem_of_getElem? (i := 641) (by decide +kernel)
set_option maxRecDepth 20000 in
theorem mw_450 : (.selects RX1 yX1_firstWord yX1_firstWord : Cond) ∈ lw_tbl := List.mem_of_getElem? (i := 34) (by decide +kernel)
set_option maxRecDepth 20000 in
theorem mw_451 : (.code yX1_firstWord cX1_firstWord 2 (some .int) : Cond) ∈ lw_tbl := List.mem_of_getElem? (i := 642) (by decide +kernel)
set_option maxRecDepth 20000 in
theorem mw_452 : (.methodLink RX1 96 yX1_secondWord : Cond) ∈ lw_tbl := List.mem_of_getElem? (i := 646) (by decide +kernel)
set_option maxRecDepth 20000 in
theorem mw_453 : (.instanceMethod yX1_secondWord : Cond) ∈ lw_tbl := List.mem_of_getElem? (i := 648) (by decide +kernel)
set_option maxRecDepth 20000 in
theorem mw_454 : (.selects RX1 yX1_secondWord yX1_secondWord : Cond) ∈ lw_tbl := List.mem_of_getElem? (i := 35) (by decide +kernel)
set_option maxRecDepth 20000 in
theorem mw_455 : (.code yX1_secondWord cX1_secondWord 2 (some .int) : Cond) ∈ lw_tbl := List.mem_of_getElem? (i := 649) (by decide +kernel)
set_option maxRecDepth 20000 in
theorem mw_456 : (.methodLink RL 56 yX10_overlapOf : Cond) ∈ lw_tbl := List.mem_of_getElem? (i := 615) (by decide +kernel)
set_option maxRecDepth 20000 in
theorem mw_457 : (.instanceMethod yX10_overlapOf : Cond) ∈ lw_tbl := List.mem_of_getElem? (i := 616) (by decide +kernel)
set_option maxRecDepth 20000 in
theorem mw_458 : (.selects RX10 yX10_overlapOf yX10_overlapOf : Cond) ∈ lw_tbl := List.mem_of_getElem? (i := 617) (by decide +kernel)
set_option maxRecDepth 20000 in
theorem mw_459 : (.code yX11_overlapOf cX11_overlapOf 5 (some .int) : Cond) ∈ lw_tbl := List.mem_of_getElem? (i := 1007) (by decide +kernel)
set_option maxRecDepth 20000 in
theorem mw_460 : (.fieldLink RX11 136 "FallingWordsModel" "oneRule" "I" : Cond) ∈ lw_tbl := List.mem_of_getElem? (i := 811) (by decide +kernel)
set_option maxRecDepth 20000 in
theorem mw_461 : (.fieldLink RX11 142 "FallingWordsModel" "overlapPlace" "I" : Cond) ∈ lw_tbl := List.mem_of_getElem? (i := 813) (by decide +kernel)
set_option maxRecDepth 20000 in
theorem mw_462 : (.fieldLink RX11 139 "FallingWordsModel" "otherRule" "I" : Cond) ∈ lw_tbl := List.mem_of_getElem? (i := 812) (by decide +kernel)
set_option maxRecDepth 20000 in
theorem mw_463 : (.fieldLink RX11 145 "FallingWordsModel" "oneWord" "I" : Cond) ∈ lw_tbl := List.mem_of_getElem? (i := 814) (by decide +kernel)
set_option maxRecDepth 20000 in
theorem mw_464 : (.fieldLink RX11 148 "FallingWordsModel" "otherWord" "I" : Cond) ∈ lw_tbl := List.mem_of_getElem? (i := 815) (by decide +kernel)
set_option maxRecDepth 20000 in
theorem mw_465 : (.methodLink RX11 166 yX11_finds : Cond) ∈ lw_tbl := List.mem_of_getElem? (i := 1008) (by decide +kernel)
set_option maxRecDepth 20000 in
theorem mw_466 : (.instanceMethod yX11_finds : Cond) ∈ lw_tbl := List.mem_of_getElem? (i := 1010) (by decide +kernel)
set_option maxRecDepth 20000 in
theorem mw_467 : (.selects RX11 yX11_finds yX11_finds : Cond) ∈ lw_tbl := List.mem_of_getElem? (i := 76) (by decide +kernel)
set_option maxRecDepth 20000 in
theorem mw_468 : (.code yX11_finds cX11_finds 7 (some .int) : Cond) ∈ lw_tbl := List.mem_of_getElem? (i := 1011) (by decide +kernel)
set_option maxRecDepth 20000 in
theorem mw_469 : (.methodLink RX11 157 yX11_isOverlap : Cond) ∈ lw_tbl := List.mem_of_getElem? (i := 1012) (by decide +kernel)
set_option maxRecDepth 20000 in
theorem mw_470 : (.instanceMethod yX11_isOverlap : Cond) ∈ lw_tbl := List.mem_of_getElem? (i := 1014) (by decide +kernel)
set_option maxRecDepth 20000 in
theorem mw_471 : (.selects RX11 yX11_isOverlap yX11_isOverlap : Cond) ∈ lw_tbl := List.mem_of_getElem? (i := 77) (by decide +kernel)
set_option maxRecDepth 20000 in
theorem mw_472 : (.code yX11_isOverlap cX11_isOverlap 10 (some .boolean) : Cond) ∈ lw_tbl := List.mem_of_getElem? (i := 1015) (by decide +kernel)
set_option maxRecDepth 20000 in
theorem mw_473 : (.methodLink RX11 160 yX11_lays : Cond) ∈ lw_tbl := List.mem_of_getElem? (i := 1016) (by decide +kernel)
set_option maxRecDepth 20000 in
theorem mw_474 : (.instanceMethod yX11_lays : Cond) ∈ lw_tbl := List.mem_of_getElem? (i := 1018) (by decide +kernel)
set_option maxRecDepth 20000 in
theorem mw_475 : (.selects RX11 yX11_lays yX11_lays : Cond) ∈ lw_tbl := List.mem_of_getElem? (i := 78) (by decide +kernel)
set_option maxRecDepth 20000 in
theorem mw_476 : (.code yX11_lays cX11_lays 6 none : Cond) ∈ lw_tbl := List.mem_of_getElem? (i := 1019) (by decide +kernel)
set_option maxRecDepth 20000 in
theorem mw_477 : (.methodLink RX11 163 yX11_parts : Cond) ∈ lw_tbl := List.mem_of_getElem? (i := 1020) (by decide +kernel)
set_option maxRecDepth 20000 in
theorem mw_478 : (.instanceMethod yX11_parts : Cond) ∈ lw_tbl := List.mem_of_getElem? (i := 1022) (by decide +kernel)
set_option maxRecDepth 20000 in
theorem mw_479 : (.selects RX11 yX11_parts yX11_parts : Cond) ∈ lw_tbl := List.mem_of_getElem? (i := 79) (by decide +kernel)
set_option maxRecDepth 20000 in
theorem mw_480 : (.code yX11_parts cX11_parts 3 (some .int) : Cond) ∈ lw_tbl := List.mem_of_getElem? (i := 1023) (by decide +kernel)
set_option maxRecDepth 20000 in
theorem mw_481 : (.fieldLink RX11 151 "FallingWordsModel" "oneNormal" "I" : Cond) ∈ lw_tbl := List.mem_of_getElem? (i := 816) (by decide +kernel)
set_option maxRecDepth 20000 in
theorem mw_482 : (.fieldLink RX11 154 "FallingWordsModel" "otherNormal" "I" : Cond) ∈ lw_tbl := List.mem_of_getElem? (i := 817) (by decide +kernel)
set_option maxRecDepth 20000 in
theorem mw_483 : (.methodLink RL 59 yX11_overlapOf : Cond) ∈ lw_tbl := List.mem_of_getElem? (i := 1004) (by decide +kernel)
set_option maxRecDepth 20000 in
theorem mw_484 : (.instanceMethod yX11_overlapOf : Cond) ∈ lw_tbl := List.mem_of_getElem? (i := 1005) (by decide +kernel)
set_option maxRecDepth 20000 in
theorem mw_485 : (.selects RX11 yX11_overlapOf yX11_overlapOf : Cond) ∈ lw_tbl := List.mem_of_getElem? (i := 1006) (by decide +kernel)
set_option maxRecDepth 20000 in
theorem mw_486 : (.code yX10_complete cX10_complete 5 (some .int) : Cond) ∈ lw_tbl := List.mem_of_getElem? (i := 655) (by decide +kernel)
set_option maxRecDepth 20000 in
theorem mw_487 : (.methodLink RX10 231 Lib.Math.max.name : Cond) ∈ lw_tbl := List.mem_of_getElem? (i := 661) (by decide +kernel)
set_option maxRecDepth 20000 in
theorem mw_488 : (.methodLink RX10 236 Lib.Math.min.name : Cond) ∈ lw_tbl := List.mem_of_getElem? (i := 662) (by decide +kernel)
set_option maxRecDepth 20000 in
theorem mw_489 : (.instanceMethod yX1_findParting : Cond) ∈ lw_tbl := List.mem_of_getElem? (i := 658) (by decide +kernel)
set_option maxRecDepth 20000 in
theorem mw_490 : (.selects RX1 yX1_findParting yX1_findParting : Cond) ∈ lw_tbl := List.mem_of_getElem? (i := 36) (by decide +kernel)
set_option maxRecDepth 20000 in
theorem mw_491 : (.code yX1_findParting cX1_findParting 4 (some .boolean) : Cond) ∈ lw_tbl := List.mem_of_getElem? (i := 659) (by decide +kernel)
set_option maxRecDepth 20000 in
theorem mw_492 : (.methodLink RX1 21 yX1_verdict : Cond) ∈ lw_tbl := List.mem_of_getElem? (i := 660) (by decide +kernel)
set_option maxRecDepth 20000 in
theorem mw_493 : (.instanceMethod yX4_isFull : Cond) ∈ lw_tbl := List.mem_of_getElem? (i := 665) (by decide +kernel)
set_option maxRecDepth 20000 in
theorem mw_494 : (.selects RX4 yX4_isFull yX4_isFull : Cond) ∈ lw_tbl := List.mem_of_getElem? (i := 37) (by decide +kernel)
set_option maxRecDepth 20000 in
theorem mw_495 : (.code yX4_isFull cX4_isFull 1 (some .boolean) : Cond) ∈ lw_tbl := List.mem_of_getElem? (i := 666) (by decide +kernel)
set_option maxRecDepth 20000 in
theorem mw_496 : (.instanceMethod yX6_addRule : Cond) ∈ lw_tbl := List.mem_of_getElem? (i := 669) (by decide +kernel)
set_option maxRecDepth 20000 in
theorem mw_497 : (.selects RX6 yX6_addRule yX6_addRule : Cond) ∈ lw_tbl := List.mem_of_getElem? (i := 38) (by decide +kernel)
set_option maxRecDepth 20000 in
theorem mw_498 : (.code yX6_addRule cX6_addRule 3 none : Cond) ∈ lw_tbl := List.mem_of_getElem? (i := 670) (by decide +kernel)
set_option maxRecDepth 20000 in
theorem mw_499 : (.instanceMethod yX4_add : Cond) ∈ lw_tbl := List.mem_of_getElem? (i := 673) (by decide +kernel)
set_option maxRecDepth 20000 in
theorem mw_500 : (.selects RX4 yX4_add yX4_add : Cond) ∈ lw_tbl := List.mem_of_getElem? (i := 39) (by decide +kernel)
set_option maxRecDepth 20000 in
theorem mw_501 : (.code yX4_add cX4_add 3 none : Cond) ∈ lw_tbl := List.mem_of_getElem? (i := 674) (by decide +kernel)
set_option maxRecDepth 20000 in
theorem mw_502 : (.methodLink RX4 37 yX4_isFull : Cond) ∈ lw_tbl := List.mem_of_getElem? (i := 675) (by decide +kernel)
set_option maxRecDepth 20000 in
theorem mw_503 : (.methodLink RL 60 yX10_complete : Cond) ∈ lw_tbl := List.mem_of_getElem? (i := 652) (by decide +kernel)
set_option maxRecDepth 20000 in
theorem mw_504 : (.instanceMethod yX10_complete : Cond) ∈ lw_tbl := List.mem_of_getElem? (i := 653) (by decide +kernel)
set_option maxRecDepth 20000 in
theorem mw_505 : (.selects RX10 yX10_complete yX10_complete : Cond) ∈ lw_tbl := List.mem_of_getElem? (i := 654) (by decide +kernel)
set_option maxRecDepth 20000 in
theorem mw_506 : (.code yX11_complete cX11_complete 4 (some .int) : Cond) ∈ lw_tbl := List.mem_of_getElem? (i := 1027) (by decide +kernel)
set_option maxRecDepth 20000 in
theorem mw_507 : (.methodLink RX11 173 yX11_completes : Cond) ∈ lw_tbl := List.mem_of_getElem? (i := 1028) (by decide +kernel)
set_option maxRecDepth 20000 in
theorem mw_508 : (.instanceMethod yX11_completes : Cond) ∈ lw_tbl := List.mem_of_getElem? (i := 1030) (by decide +kernel)
set_option maxRecDepth 20000 in
theorem mw_509 : (.selects RX11 yX11_completes yX11_completes : Cond) ∈ lw_tbl := List.mem_of_getElem? (i := 80) (by decide +kernel)
set_option maxRecDepth 20000 in
theorem mw_510 : (.code yX11_completes cX11_completes 4 (some .int) : Cond) ∈ lw_tbl := List.mem_of_getElem? (i := 1031) (by decide +kernel)
set_option maxRecDepth 20000 in
theorem mw_511 : (.methodLink RX11 169 yX11_adds : Cond) ∈ lw_tbl := List.mem_of_getElem? (i := 1032) (by decide +kernel)
set_option maxRecDepth 20000 in
theorem mw_512 : (.instanceMethod yX11_adds : Cond) ∈ lw_tbl := List.mem_of_getElem? (i := 1034) (by decide +kernel)
set_option maxRecDepth 20000 in
theorem mw_513 : (.selects RX11 yX11_adds yX11_adds : Cond) ∈ lw_tbl := List.mem_of_getElem? (i := 81) (by decide +kernel)
set_option maxRecDepth 20000 in
theorem mw_514 : (.code yX11_adds cX11_adds 4 none : Cond) ∈ lw_tbl := List.mem_of_getElem? (i := 1035) (by decide +kernel)
set_option maxRecDepth 20000 in
theorem mw_515 : (.methodLink RL 63 yX11_complete : Cond) ∈ lw_tbl := List.mem_of_getElem? (i := 1024) (by decide +kernel)
set_option maxRecDepth 20000 in
theorem mw_516 : (.instanceMethod yX11_complete : Cond) ∈ lw_tbl := List.mem_of_getElem? (i := 1025) (by decide +kernel)
set_option maxRecDepth 20000 in
theorem mw_517 : (.selects RX11 yX11_complete yX11_complete : Cond) ∈ lw_tbl := List.mem_of_getElem? (i := 1026) (by decide +kernel)
set_option maxRecDepth 20000 in
theorem mw_518 : (.code yX10_count cX10_count 2 (some .int) : Cond) ∈ lw_tbl := List.mem_of_getElem? (i := 679) (by decide +kernel)
set_option maxRecDepth 20000 in
theorem mw_519 : (.instanceMethod yX1_howMany : Cond) ∈ lw_tbl := List.mem_of_getElem? (i := 682) (by decide +kernel)
set_option maxRecDepth 20000 in
theorem mw_520 : (.selects RX1 yX1_howMany yX1_howMany : Cond) ∈ lw_tbl := List.mem_of_getElem? (i := 40) (by decide +kernel)
set_option maxRecDepth 20000 in
theorem mw_521 : (.code yX1_howMany cX1_howMany 4 (some .int) : Cond) ∈ lw_tbl := List.mem_of_getElem? (i := 683) (by decide +kernel)
set_option maxRecDepth 20000 in
theorem mw_522 : (.instanceMethod yX1_howManyAre : Cond) ∈ lw_tbl := List.mem_of_getElem? (i := 686) (by decide +kernel)
set_option maxRecDepth 20000 in
theorem mw_523 : (.selects RX1 yX1_howManyAre yX1_howManyAre : Cond) ∈ lw_tbl := List.mem_of_getElem? (i := 41) (by decide +kernel)
set_option maxRecDepth 20000 in
theorem mw_524 : (.code yX1_howManyAre cX1_howManyAre 6 (some .int) : Cond) ∈ lw_tbl := List.mem_of_getElem? (i := 687) (by decide +kernel)
set_option maxRecDepth 20000 in
theorem mw_525 : (.methodLink RL 64 yX10_count : Cond) ∈ lw_tbl := List.mem_of_getElem? (i := 676) (by decide +kernel)
set_option maxRecDepth 20000 in
theorem mw_526 : (.instanceMethod yX10_count : Cond) ∈ lw_tbl := List.mem_of_getElem? (i := 677) (by decide +kernel)
set_option maxRecDepth 20000 in
theorem mw_527 : (.selects RX10 yX10_count yX10_count : Cond) ∈ lw_tbl := List.mem_of_getElem? (i := 678) (by decide +kernel)
set_option maxRecDepth 20000 in
theorem mw_528 : (.code yX11_count cX11_count 2 (some .int) : Cond) ∈ lw_tbl := List.mem_of_getElem? (i := 1039) (by decide +kernel)
set_option maxRecDepth 20000 in
theorem mw_529 : (.fieldLink RX11 176 "FallingWordsModel" "typed" "I" : Cond) ∈ lw_tbl := List.mem_of_getElem? (i := 797) (by decide +kernel)
set_option maxRecDepth 20000 in
theorem mw_530 : (.methodLink RL 67 yX11_count : Cond) ∈ lw_tbl := List.mem_of_getElem? (i := 1036) (by decide +kernel)
set_option maxRecDepth 20000 in
theorem mw_531 : (.instanceMethod yX11_count : Cond) ∈ lw_tbl := List.mem_of_getElem? (i := 1037) (by decide +kernel)
set_option maxRecDepth 20000 in
theorem mw_532 : (.selects RX11 yX11_count yX11_count : Cond) ∈ lw_tbl := List.mem_of_getElem? (i := 1038) (by decide +kernel)
set_option maxRecDepth 20000 in
theorem mw_533 : (.code yX10_undo cX10_undo 1 (some .int) : Cond) ∈ lw_tbl := List.mem_of_getElem? (i := 691) (by decide +kernel)
set_option maxRecDepth 20000 in
theorem mw_534 : (.constant RX10 260 (-1000002) : Cond) ∈ lw_tbl := List.mem_of_getElem? (i := 692) (by decide +kernel)
set_option maxRecDepth 20000 in
theorem mw_535 : (.instanceMethod yX0_restoreTo : Cond) ∈ lw_tbl := List.mem_of_getElem? (i := 695) (by decide +kernel)
set_option maxRecDepth 20000 in
theorem mw_536 : (.selects RX0 yX0_restoreTo yX0_restoreTo : Cond) ∈ lw_tbl := List.mem_of_getElem? (i := 42) (by decide +kernel)
set_option maxRecDepth 20000 in
theorem mw_537 : (.code yX0_restoreTo cX0_restoreTo 2 none : Cond) ∈ lw_tbl := List.mem_of_getElem? (i := 696) (by decide +kernel)
set_option maxRecDepth 20000 in
theorem mw_538 : (.methodLink RL 68 yX10_undo : Cond) ∈ lw_tbl := List.mem_of_getElem? (i := 688) (by decide +kernel)
set_option maxRecDepth 20000 in
theorem mw_539 : (.instanceMethod yX10_undo : Cond) ∈ lw_tbl := List.mem_of_getElem? (i := 689) (by decide +kernel)
set_option maxRecDepth 20000 in
theorem mw_540 : (.selects RX10 yX10_undo yX10_undo : Cond) ∈ lw_tbl := List.mem_of_getElem? (i := 690) (by decide +kernel)
set_option maxRecDepth 20000 in
theorem mw_541 : (.code yX11_undo cX11_undo 2 (some .int) : Cond) ∈ lw_tbl := List.mem_of_getElem? (i := 1043) (by decide +kernel)
set_option maxRecDepth 20000 in
theorem mw_542 : (.methodLink RL 71 yX11_undo : Cond) ∈ lw_tbl := List.mem_of_getElem? (i := 1040) (by decide +kernel)
set_option maxRecDepth 20000 in
theorem mw_543 : (.instanceMethod yX11_undo : Cond) ∈ lw_tbl := List.mem_of_getElem? (i := 1041) (by decide +kernel)
set_option maxRecDepth 20000 in
theorem mw_544 : (.selects RX11 yX11_undo yX11_undo : Cond) ∈ lw_tbl := List.mem_of_getElem? (i := 1042) (by decide +kernel)
set_option maxRecDepth 20000 in
theorem mw_545 : (.code yX10_type cX10_type 2 (some .int) : Cond) ∈ lw_tbl := List.mem_of_getElem? (i := 700) (by decide +kernel)
set_option maxRecDepth 20000 in
theorem mw_546 : (.instanceMethod yX8_isFull : Cond) ∈ lw_tbl := List.mem_of_getElem? (i := 703) (by decide +kernel)
set_option maxRecDepth 20000 in
theorem mw_547 : (.selects RX8 yX8_isFull yX8_isFull : Cond) ∈ lw_tbl := List.mem_of_getElem? (i := 43) (by decide +kernel)
set_option maxRecDepth 20000 in
theorem mw_548 : (.code yX8_isFull cX8_isFull 1 (some .boolean) : Cond) ∈ lw_tbl := List.mem_of_getElem? (i := 704) (by decide +kernel)
set_option maxRecDepth 20000 in
theorem mw_549 : (.fieldLink RX8 15 "FallingWords$Text" "size" "I" : Cond) ∈ lw_tbl := List.mem_of_getElem? (i := 324) (by decide +kernel)
set_option maxRecDepth 20000 in
theorem mw_550 : (.instanceMethod yX8_append : Cond) ∈ lw_tbl := List.mem_of_getElem? (i := 707) (by decide +kernel)
set_option maxRecDepth 20000 in
theorem mw_551 : (.selects RX8 yX8_append yX8_append : Cond) ∈ lw_tbl := List.mem_of_getElem? (i := 44) (by decide +kernel)
set_option maxRecDepth 20000 in
theorem mw_552 : (.code yX8_append cX8_append 2 none : Cond) ∈ lw_tbl := List.mem_of_getElem? (i := 708) (by decide +kernel)
set_option maxRecDepth 20000 in
theorem mw_553 : (.methodLink RX8 19 yX8_isFull : Cond) ∈ lw_tbl := List.mem_of_getElem? (i := 709) (by decide +kernel)
set_option maxRecDepth 20000 in
theorem mw_554 : (.methodLink RL 72 yX10_type : Cond) ∈ lw_tbl := List.mem_of_getElem? (i := 697) (by decide +kernel)
set_option maxRecDepth 20000 in
theorem mw_555 : (.instanceMethod yX10_type : Cond) ∈ lw_tbl := List.mem_of_getElem? (i := 698) (by decide +kernel)
set_option maxRecDepth 20000 in
theorem mw_556 : (.selects RX10 yX10_type yX10_type : Cond) ∈ lw_tbl := List.mem_of_getElem? (i := 699) (by decide +kernel)
set_option maxRecDepth 20000 in
theorem mw_557 : (.code yX11_type cX11_type 2 (some .int) : Cond) ∈ lw_tbl := List.mem_of_getElem? (i := 1047) (by decide +kernel)
set_option maxRecDepth 20000 in
theorem mw_558 : (.methodLink RL 75 yX11_type : Cond) ∈ lw_tbl := List.mem_of_getElem? (i := 1044) (by decide +kernel)
set_option maxRecDepth 20000 in
theorem mw_559 : (.instanceMethod yX11_type : Cond) ∈ lw_tbl := List.mem_of_getElem? (i := 1045) (by decide +kernel)
set_option maxRecDepth 20000 in
theorem mw_560 : (.selects RX11 yX11_type yX11_type : Cond) ∈ lw_tbl := List.mem_of_getElem? (i := 1046) (by decide +kernel)
set_option maxRecDepth 20000 in
theorem mw_561 : (.code yX10_clearText cX10_clearText 2 (some .int) : Cond) ∈ lw_tbl := List.mem_of_getElem? (i := 713) (by decide +kernel)
set_option maxRecDepth 20000 in
theorem mw_562 : (.methodLink RL 76 yX10_clearText : Cond) ∈ lw_tbl := List.mem_of_getElem? (i := 710) (by decide +kernel)
set_option maxRecDepth 20000 in
theorem mw_563 : (.instanceMethod yX10_clearText : Cond) ∈ lw_tbl := List.mem_of_getElem? (i := 711) (by decide +kernel)
set_option maxRecDepth 20000 in
theorem mw_564 : (.selects RX10 yX10_clearText yX10_clearText : Cond) ∈ lw_tbl := List.mem_of_getElem? (i := 712) (by decide +kernel)
set_option maxRecDepth 20000 in
theorem mw_565 : (.code yX11_clearText cX11_clearText 2 (some .int) : Cond) ∈ lw_tbl := List.mem_of_getElem? (i := 1051) (by decide +kernel)
set_option maxRecDepth 20000 in
theorem mw_566 : (.methodLink RL 79 yX11_clearText : Cond) ∈ lw_tbl := List.mem_of_getElem? (i := 1048) (by decide +kernel)
set_option maxRecDepth 20000 in
theorem mw_567 : (.instanceMethod yX11_clearText : Cond) ∈ lw_tbl := List.mem_of_getElem? (i := 1049) (by decide +kernel)
set_option maxRecDepth 20000 in
theorem mw_568 : (.selects RX11 yX11_clearText yX11_clearText : Cond) ∈ lw_tbl := List.mem_of_getElem? (i := 1050) (by decide +kernel)
set_option maxRecDepth 20000 in
theorem mw_569 : (.code yX10_fault cX10_fault 2 (some .int) : Cond) ∈ lw_tbl := List.mem_of_getElem? (i := 717) (by decide +kernel)
set_option maxRecDepth 20000 in
theorem mw_570 : (.instanceMethod yX5_run : Cond) ∈ lw_tbl := List.mem_of_getElem? (i := 720) (by decide +kernel)
set_option maxRecDepth 20000 in
theorem mw_571 : (.selects RX5 yX5_run yX5_run : Cond) ∈ lw_tbl := List.mem_of_getElem? (i := 45) (by decide +kernel)
set_option maxRecDepth 20000 in
theorem mw_572 : (.code yX5_run cX5_run 5 none : Cond) ∈ lw_tbl := List.mem_of_getElem? (i := 721) (by decide +kernel)
set_option maxRecDepth 20000 in
theorem mw_573 : (.fieldLink RX5 9 "FallingWords$Script" "done" "I" : Cond) ∈ lw_tbl := List.mem_of_getElem? (i := 359) (by decide +kernel)
set_option maxRecDepth 20000 in
theorem mw_574 : (.fieldLink RX5 15 "FallingWords$Script" "position" "I" : Cond) ∈ lw_tbl := List.mem_of_getElem? (i := 361) (by decide +kernel)
set_option maxRecDepth 20000 in
theorem mw_575 : (.fieldLink RX5 18 "FallingWords$Script" "reason" "I" : Cond) ∈ lw_tbl := List.mem_of_getElem? (i := 363) (by decide +kernel)
set_option maxRecDepth 20000 in
theorem mw_576 : (.fieldLink RX5 21 "FallingWords$Script" "cause" "I" : Cond) ∈ lw_tbl := List.mem_of_getElem? (i := 365) (by decide +kernel)
set_option maxRecDepth 20000 in
theorem mw_577 : (.instanceMethod yX8_readCommand : Cond) ∈ lw_tbl := List.mem_of_getElem? (i := 724) (by decide +kernel)
set_option maxRecDepth 20000 in
theorem mw_578 : (.selects RX8 yX8_readCommand yX8_readCommand : Cond) ∈ lw_tbl := List.mem_of_getElem? (i := 46) (by decide +kernel)
set_option maxRecDepth 20000 in
theorem mw_579 : (.code yX8_readCommand cX8_readCommand 2 (some .boolean) : Cond) ∈ lw_tbl := List.mem_of_getElem? (i := 725) (by decide +kernel)
set_option maxRecDepth 20000 in
theorem mw_580 : (.fieldLink RX8 23 "FallingWords$Text" "at" "I" : Cond) ∈ lw_tbl := List.mem_of_getElem? (i := 328) (by decide +kernel)
set_option maxRecDepth 20000 in
theorem mw_581 : (.fieldLink RX8 30 "FallingWords$Text" "kind" "I" : Cond) ∈ lw_tbl := List.mem_of_getElem? (i := 330) (by decide +kernel)
set_option maxRecDepth 20000 in
theorem mw_582 : (.fieldLink RX8 36 "FallingWords$Text" "firstWord" "I" : Cond) ∈ lw_tbl := List.mem_of_getElem? (i := 332) (by decide +kernel)
set_option maxRecDepth 20000 in
theorem mw_583 : (.fieldLink RX8 43 "FallingWords$Text" "secondWord" "I" : Cond) ∈ lw_tbl := List.mem_of_getElem? (i := 334) (by decide +kernel)
set_option maxRecDepth 20000 in
theorem mw_584 : (.methodLink RX8 26 yX8_here : Cond) ∈ lw_tbl := List.mem_of_getElem? (i := 726) (by decide +kernel)
set_option maxRecDepth 20000 in
theorem mw_585 : (.instanceMethod yX8_here : Cond) ∈ lw_tbl := List.mem_of_getElem? (i := 728) (by decide +kernel)
set_option maxRecDepth 20000 in
theorem mw_586 : (.selects RX8 yX8_here yX8_here : Cond) ∈ lw_tbl := List.mem_of_getElem? (i := 47) (by decide +kernel)
set_option maxRecDepth 20000 in
theorem mw_587 : (.code yX8_here cX8_here 1 (some .int) : Cond) ∈ lw_tbl := List.mem_of_getElem? (i := 729) (by decide +kernel)
set_option maxRecDepth 20000 in
theorem mw_588 : (.methodLink RX8 33 yX8_readWord : Cond) ∈ lw_tbl := List.mem_of_getElem? (i := 730) (by decide +kernel)
set_option maxRecDepth 20000 in
theorem mw_589 : (.instanceMethod yX8_readWord : Cond) ∈ lw_tbl := List.mem_of_getElem? (i := 732) (by decide +kernel)
set_option maxRecDepth 20000 in
theorem mw_590 : (.selects RX8 yX8_readWord yX8_readWord : Cond) ∈ lw_tbl := List.mem_of_getElem? (i := 48) (by decide +kernel)
set_option maxRecDepth 20000 in
theorem mw_591 : (.code yX8_readWord cX8_readWord 3 (some .int) : Cond) ∈ lw_tbl := List.mem_of_getElem? (i := 733) (by decide +kernel)
set_option maxRecDepth 20000 in
theorem mw_592 : (.static yX9_withLetter : Cond) ∈ lw_tbl := List.mem_of_getElem? (i := 735) (by decide +kernel)
set_option maxRecDepth 20000 in
theorem mw_593 : (.code yX9_withLetter cX9_withLetter 2 (some .int) : Cond) ∈ lw_tbl := List.mem_of_getElem? (i := 736) (by decide +kernel)
set_option maxRecDepth 20000 in
theorem mw_594 : (.methodLink RX8 39 yX8_passes : Cond) ∈ lw_tbl := List.mem_of_getElem? (i := 737) (by decide +kernel)
set_option maxRecDepth 20000 in
theorem mw_595 : (.instanceMethod yX8_passes : Cond) ∈ lw_tbl := List.mem_of_getElem? (i := 739) (by decide +kernel)
set_option maxRecDepth 20000 in
theorem mw_596 : (.selects RX8 yX8_passes yX8_passes : Cond) ∈ lw_tbl := List.mem_of_getElem? (i := 49) (by decide +kernel)
set_option maxRecDepth 20000 in
theorem mw_597 : (.code yX8_passes cX8_passes 2 (some .boolean) : Cond) ∈ lw_tbl := List.mem_of_getElem? (i := 740) (by decide +kernel)
set_option maxRecDepth 20000 in
theorem mw_598 : (.methodLink RX8 46 yX8_readDigit : Cond) ∈ lw_tbl := List.mem_of_getElem? (i := 741) (by decide +kernel)
set_option maxRecDepth 20000 in
theorem mw_599 : (.instanceMethod yX8_readDigit : Cond) ∈ lw_tbl := List.mem_of_getElem? (i := 743) (by decide +kernel)
set_option maxRecDepth 20000 in
theorem mw_600 : (.selects RX8 yX8_readDigit yX8_readDigit : Cond) ∈ lw_tbl := List.mem_of_getElem? (i := 50) (by decide +kernel)
set_option maxRecDepth 20000 in
theorem mw_601 : (.code yX8_readDigit cX8_readDigit 2 (some .boolean) : Cond) ∈ lw_tbl := List.mem_of_getElem? (i := 744) (by decide +kernel)
set_option maxRecDepth 20000 in
theorem mw_602 : (.fieldLink RX8 49 "FallingWords$Text" "digit" "I" : Cond) ∈ lw_tbl := List.mem_of_getElem? (i := 336) (by decide +kernel)
set_option maxRecDepth 20000 in
theorem mw_603 : (.methodLink RX5 33 yX5_perform : Cond) ∈ lw_tbl := List.mem_of_getElem? (i := 745) (by decide +kernel)
set_option maxRecDepth 20000 in
theorem mw_604 : (.instanceMethod yX5_perform : Cond) ∈ lw_tbl := List.mem_of_getElem? (i := 747) (by decide +kernel)
set_option maxRecDepth 20000 in
theorem mw_605 : (.selects RX5 yX5_perform yX5_perform : Cond) ∈ lw_tbl := List.mem_of_getElem? (i := 51) (by decide +kernel)
set_option maxRecDepth 20000 in
theorem mw_606 : (.code yX5_perform cX5_perform 4 none : Cond) ∈ lw_tbl := List.mem_of_getElem? (i := 748) (by decide +kernel)
set_option maxRecDepth 20000 in
theorem mw_607 : (.methodLink RX5 53 yX5_addRule : Cond) ∈ lw_tbl := List.mem_of_getElem? (i := 749) (by decide +kernel)
set_option maxRecDepth 20000 in
theorem mw_608 : (.instanceMethod yX5_addRule : Cond) ∈ lw_tbl := List.mem_of_getElem? (i := 751) (by decide +kernel)
set_option maxRecDepth 20000 in
theorem mw_609 : (.selects RX5 yX5_addRule yX5_addRule : Cond) ∈ lw_tbl := List.mem_of_getElem? (i := 52) (by decide +kernel)
set_option maxRecDepth 20000 in
theorem mw_610 : (.code yX5_addRule cX5_addRule 6 none : Cond) ∈ lw_tbl := List.mem_of_getElem? (i := 752) (by decide +kernel)
set_option maxRecDepth 20000 in
theorem mw_611 : (.methodLink RX5 40 yX5_failWith : Cond) ∈ lw_tbl := List.mem_of_getElem? (i := 754) (by decide +kernel)
set_option maxRecDepth 20000 in
theorem mw_612 : (.instanceMethod yX5_failWith : Cond) ∈ lw_tbl := List.mem_of_getElem? (i := 756) (by decide +kernel)
set_option maxRecDepth 20000 in
theorem mw_613 : (.selects RX5 yX5_failWith yX5_failWith : Cond) ∈ lw_tbl := List.mem_of_getElem? (i := 53) (by decide +kernel)
set_option maxRecDepth 20000 in
theorem mw_614 : (.code yX5_failWith cX5_failWith 3 none : Cond) ∈ lw_tbl := List.mem_of_getElem? (i := 757) (by decide +kernel)
set_option maxRecDepth 20000 in
theorem mw_615 : (.instanceMethod yX4_hasSides : Cond) ∈ lw_tbl := List.mem_of_getElem? (i := 760) (by decide +kernel)
set_option maxRecDepth 20000 in
theorem mw_616 : (.selects RX4 yX4_hasSides yX4_hasSides : Cond) ∈ lw_tbl := List.mem_of_getElem? (i := 54) (by decide +kernel)
set_option maxRecDepth 20000 in
theorem mw_617 : (.code yX4_hasSides cX4_hasSides 4 (some .boolean) : Cond) ∈ lw_tbl := List.mem_of_getElem? (i := 761) (by decide +kernel)
set_option maxRecDepth 20000 in
theorem mw_618 : (.methodLink RX5 60 yX5_removeRule : Cond) ∈ lw_tbl := List.mem_of_getElem? (i := 764) (by decide +kernel)
set_option maxRecDepth 20000 in
theorem mw_619 : (.instanceMethod yX5_removeRule : Cond) ∈ lw_tbl := List.mem_of_getElem? (i := 766) (by decide +kernel)
set_option maxRecDepth 20000 in
theorem mw_620 : (.selects RX5 yX5_removeRule yX5_removeRule : Cond) ∈ lw_tbl := List.mem_of_getElem? (i := 55) (by decide +kernel)
set_option maxRecDepth 20000 in
theorem mw_621 : (.code yX5_removeRule cX5_removeRule 3 none : Cond) ∈ lw_tbl := List.mem_of_getElem? (i := 767) (by decide +kernel)
set_option maxRecDepth 20000 in
theorem mw_622 : (.methodLink RX5 64 yX5_setWord : Cond) ∈ lw_tbl := List.mem_of_getElem? (i := 770) (by decide +kernel)
set_option maxRecDepth 20000 in
theorem mw_623 : (.instanceMethod yX5_setWord : Cond) ∈ lw_tbl := List.mem_of_getElem? (i := 772) (by decide +kernel)
set_option maxRecDepth 20000 in
theorem mw_624 : (.selects RX5 yX5_setWord yX5_setWord : Cond) ∈ lw_tbl := List.mem_of_getElem? (i := 56) (by decide +kernel)
set_option maxRecDepth 20000 in
theorem mw_625 : (.code yX5_setWord cX5_setWord 3 none : Cond) ∈ lw_tbl := List.mem_of_getElem? (i := 773) (by decide +kernel)
set_option maxRecDepth 20000 in
theorem mw_626 : (.methodLink RX5 77 yX5_setChoosing : Cond) ∈ lw_tbl := List.mem_of_getElem? (i := 776) (by decide +kernel)
set_option maxRecDepth 20000 in
theorem mw_627 : (.instanceMethod yX5_setChoosing : Cond) ∈ lw_tbl := List.mem_of_getElem? (i := 778) (by decide +kernel)
set_option maxRecDepth 20000 in
theorem mw_628 : (.selects RX5 yX5_setChoosing yX5_setChoosing : Cond) ∈ lw_tbl := List.mem_of_getElem? (i := 57) (by decide +kernel)
set_option maxRecDepth 20000 in
theorem mw_629 : (.code yX5_setChoosing cX5_setChoosing 3 none : Cond) ∈ lw_tbl := List.mem_of_getElem? (i := 779) (by decide +kernel)
set_option maxRecDepth 20000 in
theorem mw_630 : (.methodLink RL 80 yX10_fault : Cond) ∈ lw_tbl := List.mem_of_getElem? (i := 714) (by decide +kernel)
set_option maxRecDepth 20000 in
theorem mw_631 : (.instanceMethod yX10_fault : Cond) ∈ lw_tbl := List.mem_of_getElem? (i := 715) (by decide +kernel)
set_option maxRecDepth 20000 in
theorem mw_632 : (.selects RX10 yX10_fault yX10_fault : Cond) ∈ lw_tbl := List.mem_of_getElem? (i := 716) (by decide +kernel)
set_option maxRecDepth 20000 in
theorem mw_633 : (.code yX11_fault cX11_fault 3 (some .int) : Cond) ∈ lw_tbl := List.mem_of_getElem? (i := 1055) (by decide +kernel)
set_option maxRecDepth 20000 in
theorem mw_634 : (.fieldLink RX11 220 "FallingWordsModel" "reason" "I" : Cond) ∈ lw_tbl := List.mem_of_getElem? (i := 799) (by decide +kernel)
set_option maxRecDepth 20000 in
theorem mw_635 : (.fieldLink RX11 191 "FallingWordsModel" "cause" "I" : Cond) ∈ lw_tbl := List.mem_of_getElem? (i := 800) (by decide +kernel)
set_option maxRecDepth 20000 in
theorem mw_636 : (.methodLink RX11 223 yX11_faulty : Cond) ∈ lw_tbl := List.mem_of_getElem? (i := 1056) (by decide +kernel)
set_option maxRecDepth 20000 in
theorem mw_637 : (.instanceMethod yX11_faulty : Cond) ∈ lw_tbl := List.mem_of_getElem? (i := 1058) (by decide +kernel)
set_option maxRecDepth 20000 in
theorem mw_638 : (.selects RX11 yX11_faulty yX11_faulty : Cond) ∈ lw_tbl := List.mem_of_getElem? (i := 82) (by decide +kernel)
set_option maxRecDepth 20000 in
theorem mw_639 : (.code yX11_faulty cX11_faulty 3 (some .int) : Cond) ∈ lw_tbl := List.mem_of_getElem? (i := 1059) (by decide +kernel)
set_option maxRecDepth 20000 in
theorem mw_640 : (.fieldLink RX11 179 "FallingWordsModel" "at" "I" : Cond) ∈ lw_tbl := List.mem_of_getElem? (i := 798) (by decide +kernel)
set_option maxRecDepth 20000 in
theorem mw_641 : (.methodLink RX11 217 yX11_doesNext : Cond) ∈ lw_tbl := List.mem_of_getElem? (i := 1060) (by decide +kernel)
set_option maxRecDepth 20000 in
theorem mw_642 : (.instanceMethod yX11_doesNext : Cond) ∈ lw_tbl := List.mem_of_getElem? (i := 1062) (by decide +kernel)
set_option maxRecDepth 20000 in
theorem mw_643 : (.selects RX11 yX11_doesNext yX11_doesNext : Cond) ∈ lw_tbl := List.mem_of_getElem? (i := 83) (by decide +kernel)
set_option maxRecDepth 20000 in
theorem mw_644 : (.code yX11_doesNext cX11_doesNext 3 (some .int) : Cond) ∈ lw_tbl := List.mem_of_getElem? (i := 1063) (by decide +kernel)
set_option maxRecDepth 20000 in
theorem mw_645 : (.methodLink RX11 182 yX11_sign : Cond) ∈ lw_tbl := List.mem_of_getElem? (i := 1064) (by decide +kernel)
set_option maxRecDepth 20000 in
theorem mw_646 : (.instanceMethod yX11_sign : Cond) ∈ lw_tbl := List.mem_of_getElem? (i := 1066) (by decide +kernel)
set_option maxRecDepth 20000 in
theorem mw_647 : (.selects RX11 yX11_sign yX11_sign : Cond) ∈ lw_tbl := List.mem_of_getElem? (i := 84) (by decide +kernel)
set_option maxRecDepth 20000 in
theorem mw_648 : (.code yX11_sign cX11_sign 1 (some .int) : Cond) ∈ lw_tbl := List.mem_of_getElem? (i := 1067) (by decide +kernel)
set_option maxRecDepth 20000 in
theorem mw_649 : (.methodLink RX11 204 yX11_readsRule : Cond) ∈ lw_tbl := List.mem_of_getElem? (i := 1068) (by decide +kernel)
set_option maxRecDepth 20000 in
theorem mw_650 : (.instanceMethod yX11_readsRule : Cond) ∈ lw_tbl := List.mem_of_getElem? (i := 1070) (by decide +kernel)
set_option maxRecDepth 20000 in
theorem mw_651 : (.selects RX11 yX11_readsRule yX11_readsRule : Cond) ∈ lw_tbl := List.mem_of_getElem? (i := 85) (by decide +kernel)
set_option maxRecDepth 20000 in
theorem mw_652 : (.code yX11_readsRule cX11_readsRule 6 (some .int) : Cond) ∈ lw_tbl := List.mem_of_getElem? (i := 1071) (by decide +kernel)
set_option maxRecDepth 20000 in
theorem mw_653 : (.fieldLink RX11 185 "FallingWordsModel" "read" "I" : Cond) ∈ lw_tbl := List.mem_of_getElem? (i := 801) (by decide +kernel)
set_option maxRecDepth 20000 in
theorem mw_654 : (.fieldLink RX11 188 "FallingWordsModel" "readLength" "I" : Cond) ∈ lw_tbl := List.mem_of_getElem? (i := 802) (by decide +kernel)
set_option maxRecDepth 20000 in
theorem mw_655 : (.methodLink RX11 194 yX11_readsWord : Cond) ∈ lw_tbl := List.mem_of_getElem? (i := 1072) (by decide +kernel)
set_option maxRecDepth 20000 in
theorem mw_656 : (.instanceMethod yX11_readsWord : Cond) ∈ lw_tbl := List.mem_of_getElem? (i := 1074) (by decide +kernel)
set_option maxRecDepth 20000 in
theorem mw_657 : (.selects RX11 yX11_readsWord yX11_readsWord : Cond) ∈ lw_tbl := List.mem_of_getElem? (i := 86) (by decide +kernel)
set_option maxRecDepth 20000 in
theorem mw_658 : (.code yX11_readsWord cX11_readsWord 1 none : Cond) ∈ lw_tbl := List.mem_of_getElem? (i := 1075) (by decide +kernel)
set_option maxRecDepth 20000 in
theorem mw_659 : (.methodLink RX11 197 yX11_takes : Cond) ∈ lw_tbl := List.mem_of_getElem? (i := 1076) (by decide +kernel)
set_option maxRecDepth 20000 in
theorem mw_660 : (.instanceMethod yX11_takes : Cond) ∈ lw_tbl := List.mem_of_getElem? (i := 1078) (by decide +kernel)
set_option maxRecDepth 20000 in
theorem mw_661 : (.selects RX11 yX11_takes yX11_takes : Cond) ∈ lw_tbl := List.mem_of_getElem? (i := 87) (by decide +kernel)
set_option maxRecDepth 20000 in
theorem mw_662 : (.code yX11_takes cX11_takes 3 (some .boolean) : Cond) ∈ lw_tbl := List.mem_of_getElem? (i := 1079) (by decide +kernel)
set_option maxRecDepth 20000 in
theorem mw_663 : (.methodLink RX11 201 yX11_says : Cond) ∈ lw_tbl := List.mem_of_getElem? (i := 1080) (by decide +kernel)
set_option maxRecDepth 20000 in
theorem mw_664 : (.instanceMethod yX11_says : Cond) ∈ lw_tbl := List.mem_of_getElem? (i := 1082) (by decide +kernel)
set_option maxRecDepth 20000 in
theorem mw_665 : (.selects RX11 yX11_says yX11_says : Cond) ∈ lw_tbl := List.mem_of_getElem? (i := 88) (by decide +kernel)
set_option maxRecDepth 20000 in
theorem mw_666 : (.code yX11_says cX11_says 3 (some .int) : Cond) ∈ lw_tbl := List.mem_of_getElem? (i := 1083) (by decide +kernel)
set_option maxRecDepth 20000 in
theorem mw_667 : (.methodLink RX11 207 yX11_readsDigit : Cond) ∈ lw_tbl := List.mem_of_getElem? (i := 1084) (by decide +kernel)
set_option maxRecDepth 20000 in
theorem mw_668 : (.instanceMethod yX11_readsDigit : Cond) ∈ lw_tbl := List.mem_of_getElem? (i := 1086) (by decide +kernel)
set_option maxRecDepth 20000 in
theorem mw_669 : (.selects RX11 yX11_readsDigit yX11_readsDigit : Cond) ∈ lw_tbl := List.mem_of_getElem? (i := 89) (by decide +kernel)
set_option maxRecDepth 20000 in
theorem mw_670 : (.code yX11_readsDigit cX11_readsDigit 5 (some .int) : Cond) ∈ lw_tbl := List.mem_of_getElem? (i := 1087) (by decide +kernel)
set_option maxRecDepth 20000 in
theorem mw_671 : (.methodLink RX11 211 yX11_readsSet : Cond) ∈ lw_tbl := List.mem_of_getElem? (i := 1088) (by decide +kernel)
set_option maxRecDepth 20000 in
theorem mw_672 : (.instanceMethod yX11_readsSet : Cond) ∈ lw_tbl := List.mem_of_getElem? (i := 1090) (by decide +kernel)
set_option maxRecDepth 20000 in
theorem mw_673 : (.selects RX11 yX11_readsSet yX11_readsSet : Cond) ∈ lw_tbl := List.mem_of_getElem? (i := 90) (by decide +kernel)
set_option maxRecDepth 20000 in
theorem mw_674 : (.code yX11_readsSet cX11_readsSet 2 (some .int) : Cond) ∈ lw_tbl := List.mem_of_getElem? (i := 1091) (by decide +kernel)
set_option maxRecDepth 20000 in
theorem mw_675 : (.methodLink RX11 214 yX11_readsDeed : Cond) ∈ lw_tbl := List.mem_of_getElem? (i := 1092) (by decide +kernel)
set_option maxRecDepth 20000 in
theorem mw_676 : (.instanceMethod yX11_readsDeed : Cond) ∈ lw_tbl := List.mem_of_getElem? (i := 1094) (by decide +kernel)
set_option maxRecDepth 20000 in
theorem mw_677 : (.selects RX11 yX11_readsDeed yX11_readsDeed : Cond) ∈ lw_tbl := List.mem_of_getElem? (i := 91) (by decide +kernel)
set_option maxRecDepth 20000 in
theorem mw_678 : (.code yX11_readsDeed cX11_readsDeed 4 (some .int) : Cond) ∈ lw_tbl := List.mem_of_getElem? (i := 1095) (by decide +kernel)
set_option maxRecDepth 20000 in
theorem mw_679 : (.methodLink RL 83 yX11_fault : Cond) ∈ lw_tbl := List.mem_of_getElem? (i := 1052) (by decide +kernel)
set_option maxRecDepth 20000 in
theorem mw_680 : (.instanceMethod yX11_fault : Cond) ∈ lw_tbl := List.mem_of_getElem? (i := 1053) (by decide +kernel)
set_option maxRecDepth 20000 in
theorem mw_681 : (.selects RX11 yX11_fault yX11_fault : Cond) ∈ lw_tbl := List.mem_of_getElem? (i := 1054) (by decide +kernel)
set_option maxRecDepth 20000 in
theorem mw_682 : (.code yX10_play cX10_play 1 (some .int) : Cond) ∈ lw_tbl := List.mem_of_getElem? (i := 784) (by decide +kernel)
set_option maxRecDepth 20000 in
theorem mw_683 : (.methodLink RL 84 yX10_play : Cond) ∈ lw_tbl := List.mem_of_getElem? (i := 781) (by decide +kernel)
set_option maxRecDepth 20000 in
theorem mw_684 : (.instanceMethod yX10_play : Cond) ∈ lw_tbl := List.mem_of_getElem? (i := 782) (by decide +kernel)
set_option maxRecDepth 20000 in
theorem mw_685 : (.selects RX10 yX10_play yX10_play : Cond) ∈ lw_tbl := List.mem_of_getElem? (i := 783) (by decide +kernel)
set_option maxRecDepth 20000 in
theorem mw_686 : (.code yX11_play cX11_play 2 (some .int) : Cond) ∈ lw_tbl := List.mem_of_getElem? (i := 1099) (by decide +kernel)
set_option maxRecDepth 20000 in
theorem mw_687 : (.methodLink RL 87 yX11_play : Cond) ∈ lw_tbl := List.mem_of_getElem? (i := 1096) (by decide +kernel)
set_option maxRecDepth 20000 in
theorem mw_688 : (.instanceMethod yX11_play : Cond) ∈ lw_tbl := List.mem_of_getElem? (i := 1097) (by decide +kernel)
set_option maxRecDepth 20000 in
theorem mw_689 : (.selects RX11 yX11_play yX11_play : Cond) ∈ lw_tbl := List.mem_of_getElem? (i := 1098) (by decide +kernel)
set_option maxRecDepth 20000 in
theorem mw_690 : (.classLink RL 7 RX10 : Cond) ∈ lw_tbl := List.mem_of_getElem? (i := 108) (by decide +kernel)
set_option maxRecDepth 20000 in
theorem mw_691 : (.instantiable RX10 8 : Cond) ∈ lw_tbl := List.mem_of_getElem? (i := 109) (by decide +kernel)
set_option maxRecDepth 20000 in
theorem mw_692 : (.classLink RL 10 RX11 : Cond) ∈ lw_tbl := List.mem_of_getElem? (i := 785) (by decide +kernel)
set_option maxRecDepth 20000 in
theorem mw_693 : (.instantiable RX11 27 : Cond) ∈ lw_tbl := List.mem_of_getElem? (i := 786) (by decide +kernel)
set_option maxRecDepth 20000 in
theorem mw_694 : (.methodLink RL 9 yX10_init : Cond) ∈ lw_tbl := List.mem_of_getElem? (i := 110) (by decide +kernel)
set_option maxRecDepth 20000 in
theorem mw_695 : (.instanceMethod yX10_init : Cond) ∈ lw_tbl := List.mem_of_getElem? (i := 111) (by decide +kernel)
set_option maxRecDepth 20000 in
theorem mw_696 : (.methodLink RL 12 yX11_init : Cond) ∈ lw_tbl := List.mem_of_getElem? (i := 787) (by decide +kernel)
set_option maxRecDepth 20000 in
theorem mw_697 : (.instanceMethod yX11_init : Cond) ∈ lw_tbl := List.mem_of_getElem? (i := 788) (by decide +kernel)
set_option maxRecDepth 20000 in
theorem mw_AO : (.arrayOver (.object RX6) : Cond) ∈ lw_tbl := List.mem_of_getElem? (i := 215) (by decide +kernel)
