theorem dX6_layGlasses_347 : decode cX6_layGlasses 347 = .ok (.getfield 53, 3) := by decide +kernel
theorem dX6_layGlasses_350 : decode cX6_layGlasses 350 = .ok (.bipush 8, 2) := by decide +kernel
theorem dX6_layGlasses_352 : decode cX6_layGlasses 352 = .ok (.iload_n 2, 1) := by decide +kernel
theorem dX6_layGlasses_353 : decode cX6_layGlasses 353 = .ok (.imul, 1) := by decide +kernel
theorem dX6_layGlasses_354 : decode cX6_layGlasses 354 = .ok (.iload 4, 2) := by decide +kernel
theorem dX6_layGlasses_356 : decode cX6_layGlasses 356 = .ok (.iadd, 1) := by decide +kernel
theorem dX6_layGlasses_357 : decode cX6_layGlasses 357 = .ok (.iaload, 1) := by decide +kernel
theorem dX6_layGlasses_358 : decode cX6_layGlasses 358 = .ok (.istore 5, 2) := by decide +kernel
theorem dX6_layGlasses_360 : decode cX6_layGlasses 360 = .ok (.iload_n 1, 1) := by decide +kernel
theorem dX6_layGlasses_361 : decode cX6_layGlasses 361 = .ok (.aload_n 0, 1) := by decide +kernel
theorem dX6_layGlasses_362 : decode cX6_layGlasses 362 = .ok (.getfield 56, 3) := by decide +kernel
theorem dX6_layGlasses_365 : decode cX6_layGlasses 365 = .ok (.bipush 8, 2) := by decide +kernel
theorem dX6_layGlasses_367 : decode cX6_layGlasses 367 = .ok (.iload_n 2, 1) := by decide +kernel
theorem dX6_layGlasses_368 : decode cX6_layGlasses 368 = .ok (.imul, 1) := by decide +kernel
theorem dX6_layGlasses_369 : decode cX6_layGlasses 369 = .ok (.iload 4, 2) := by decide +kernel
theorem dX6_layGlasses_371 : decode cX6_layGlasses 371 = .ok (.iadd, 1) := by decide +kernel
theorem dX6_layGlasses_372 : decode cX6_layGlasses 372 = .ok (.iaload, 1) := by decide +kernel
theorem dX6_layGlasses_373 : decode cX6_layGlasses 373 = .ok (.isub, 1) := by decide +kernel
theorem dX6_layGlasses_374 : decode cX6_layGlasses 374 = .ok (.istore 6, 2) := by decide +kernel
theorem dX6_layGlasses_376 : decode cX6_layGlasses 376 = .ok (.iload 5, 2) := by decide +kernel
theorem dX6_layGlasses_378 : decode cX6_layGlasses 378 = .ok (.iconst (-1), 1) := by decide +kernel
theorem dX6_layGlasses_379 : decode cX6_layGlasses 379 = .ok (.if_icmp .eq 62, 3) := by decide +kernel
theorem dX6_layGlasses_382 : decode cX6_layGlasses 382 = .ok (.iload 6, 2) := by decide +kernel
theorem dX6_layGlasses_384 : decode cX6_layGlasses 384 = .ok (.ifCond .lt 57, 3) := by decide +kernel
theorem dX6_layGlasses_387 : decode cX6_layGlasses 387 = .ok (.aload_n 0, 1) := by decide +kernel
theorem dX6_layGlasses_388 : decode cX6_layGlasses 388 = .ok (.getfield 64, 3) := by decide +kernel
theorem dX6_layGlasses_391 : decode cX6_layGlasses 391 = .ok (.sipush 2197, 3) := by decide +kernel
theorem dX6_layGlasses_394 : decode cX6_layGlasses 394 = .ok (.iload 6, 2) := by decide +kernel
theorem dX6_layGlasses_396 : decode cX6_layGlasses 396 = .ok (.imul, 1) := by decide +kernel
theorem dX6_layGlasses_397 : decode cX6_layGlasses 397 = .ok (.iload 5, 2) := by decide +kernel
theorem dX6_layGlasses_399 : decode cX6_layGlasses 399 = .ok (.iadd, 1) := by decide +kernel
theorem dX6_layGlasses_400 : decode cX6_layGlasses 400 = .ok (.iaload, 1) := by decide +kernel
theorem dX6_layGlasses_401 : decode cX6_layGlasses 401 = .ok (.ldc 111, 2) := by decide +kernel
theorem dX6_layGlasses_403 : decode cX6_layGlasses 403 = .ok (.if_icmp .ge 38, 3) := by decide +kernel
theorem dX6_layGlasses_406 : decode cX6_layGlasses 406 = .ok (.iload 4, 2) := by decide +kernel
theorem dX6_layGlasses_408 : decode cX6_layGlasses 408 = .ok (.invokestatic 170, 3) := by decide +kernel
theorem dX6_layGlasses_411 : decode cX6_layGlasses 411 = .ok (.aload_n 0, 1) := by decide +kernel
theorem dX6_layGlasses_412 : decode cX6_layGlasses 412 = .ok (.getfield 64, 3) := by decide +kernel
theorem dX6_layGlasses_415 : decode cX6_layGlasses 415 = .ok (.sipush 2197, 3) := by decide +kernel
theorem dX6_layGlasses_418 : decode cX6_layGlasses 418 = .ok (.iload 6, 2) := by decide +kernel
theorem dX6_layGlasses_420 : decode cX6_layGlasses 420 = .ok (.imul, 1) := by decide +kernel
theorem dX6_layGlasses_421 : decode cX6_layGlasses 421 = .ok (.iload 5, 2) := by decide +kernel
theorem dX6_layGlasses_423 : decode cX6_layGlasses 423 = .ok (.iadd, 1) := by decide +kernel
theorem dX6_layGlasses_424 : decode cX6_layGlasses 424 = .ok (.iaload, 1) := by decide +kernel
theorem dX6_layGlasses_425 : decode cX6_layGlasses 425 = .ok (.iadd, 1) := by decide +kernel
theorem dX6_layGlasses_426 : decode cX6_layGlasses 426 = .ok (.istore 7, 2) := by decide +kernel
theorem dX6_layGlasses_428 : decode cX6_layGlasses 428 = .ok (.iload 7, 2) := by decide +kernel
theorem dX6_layGlasses_430 : decode cX6_layGlasses 430 = .ok (.iload_n 3, 1) := by decide +kernel
theorem dX6_layGlasses_431 : decode cX6_layGlasses 431 = .ok (.if_icmp .ge 8, 3) := by decide +kernel
theorem dX6_layGlasses_434 : decode cX6_layGlasses 434 = .ok (.iload 7, 2) := by decide +kernel
theorem dX6_layGlasses_436 : decode cX6_layGlasses 436 = .ok (.goto 4, 3) := by decide +kernel
theorem dX6_layGlasses_439 : decode cX6_layGlasses 439 = .ok (.iload_n 3, 1) := by decide +kernel
theorem dX6_layGlasses_440 : decode cX6_layGlasses 440 = .ok (.istore_n 3, 1) := by decide +kernel
theorem dX6_layGlasses_441 : decode cX6_layGlasses 441 = .ok (.iinc 4 1, 3) := by decide +kernel
theorem dX6_layGlasses_444 : decode cX6_layGlasses 444 = .ok (.goto (-109), 3) := by decide +kernel
theorem dX6_layGlasses_447 : decode cX6_layGlasses 447 = .ok (.aload_n 0, 1) := by decide +kernel
theorem dX6_layGlasses_448 : decode cX6_layGlasses 448 = .ok (.getfield 64, 3) := by decide +kernel
theorem dX6_layGlasses_451 : decode cX6_layGlasses 451 = .ok (.sipush 2197, 3) := by decide +kernel
theorem dX6_layGlasses_454 : decode cX6_layGlasses 454 = .ok (.iload_n 1, 1) := by decide +kernel
theorem dX6_layGlasses_455 : decode cX6_layGlasses 455 = .ok (.imul, 1) := by decide +kernel
theorem dX6_layGlasses_456 : decode cX6_layGlasses 456 = .ok (.iload_n 2, 1) := by decide +kernel
theorem dX6_layGlasses_457 : decode cX6_layGlasses 457 = .ok (.iadd, 1) := by decide +kernel
theorem dX6_layGlasses_458 : decode cX6_layGlasses 458 = .ok (.iload_n 3, 1) := by decide +kernel
theorem dX6_layGlasses_459 : decode cX6_layGlasses 459 = .ok (.iastore, 1) := by decide +kernel
theorem dX6_layGlasses_460 : decode cX6_layGlasses 460 = .ok (.iinc 2 1, 3) := by decide +kernel
theorem dX6_layGlasses_463 : decode cX6_layGlasses 463 = .ok (.goto (-149), 3) := by decide +kernel
theorem dX6_layGlasses_466 : decode cX6_layGlasses 466 = .ok (.iinc 1 1, 3) := by decide +kernel
theorem dX6_layGlasses_469 : decode cX6_layGlasses 469 = .ok (.goto (-163), 3) := by decide +kernel
theorem dX6_layGlasses_472 : decode cX6_layGlasses 472 = .ok (.return_, 1) := by decide +kernel
theorem dX6_waitOf_0 : decode cX6_waitOf 0 = .ok (.iconst 0, 1) := by decide +kernel
theorem dX6_waitOf_1 : decode cX6_waitOf 1 = .ok (.istore_n 2, 1) := by decide +kernel
theorem dX6_waitOf_2 : decode cX6_waitOf 2 = .ok (.iload_n 2, 1) := by decide +kernel
theorem dX6_waitOf_3 : decode cX6_waitOf 3 = .ok (.bipush 60, 2) := by decide +kernel
theorem dX6_waitOf_5 : decode cX6_waitOf 5 = .ok (.if_icmp .gt 104, 3) := by decide +kernel
theorem dX6_waitOf_8 : decode cX6_waitOf 8 = .ok (.aload_n 0, 1) := by decide +kernel
theorem dX6_waitOf_9 : decode cX6_waitOf 9 = .ok (.ldc 111, 2) := by decide +kernel
theorem dX6_waitOf_11 : decode cX6_waitOf 11 = .ok (.putfield 173, 3) := by decide +kernel
theorem dX6_waitOf_14 : decode cX6_waitOf 14 = .ok (.iconst 0, 1) := by decide +kernel
theorem dX6_waitOf_15 : decode cX6_waitOf 15 = .ok (.istore_n 3, 1) := by decide +kernel
theorem dX6_waitOf_16 : decode cX6_waitOf 16 = .ok (.iload_n 3, 1) := by decide +kernel
theorem dX6_waitOf_17 : decode cX6_waitOf 17 = .ok (.sipush 2197, 3) := by decide +kernel
theorem dX6_waitOf_20 : decode cX6_waitOf 20 = .ok (.if_icmp .ge 72, 3) := by decide +kernel
theorem dX6_waitOf_23 : decode cX6_waitOf 23 = .ok (.aload_n 0, 1) := by decide +kernel
theorem dX6_waitOf_24 : decode cX6_waitOf 24 = .ok (.getfield 60, 3) := by decide +kernel
theorem dX6_waitOf_27 : decode cX6_waitOf 27 = .ok (.sipush 2197, 3) := by decide +kernel
theorem dX6_waitOf_30 : decode cX6_waitOf 30 = .ok (.iload_n 2, 1) := by decide +kernel
theorem dX6_waitOf_31 : decode cX6_waitOf 31 = .ok (.imul, 1) := by decide +kernel
theorem dX6_waitOf_32 : decode cX6_waitOf 32 = .ok (.iload_n 3, 1) := by decide +kernel
theorem dX6_waitOf_33 : decode cX6_waitOf 33 = .ok (.iadd, 1) := by decide +kernel
theorem dX6_waitOf_34 : decode cX6_waitOf 34 = .ok (.iaload, 1) := by decide +kernel
theorem dX6_waitOf_35 : decode cX6_waitOf 35 = .ok (.istore 4, 2) := by decide +kernel
theorem dX6_waitOf_37 : decode cX6_waitOf 37 = .ok (.aload_n 0, 1) := by decide +kernel
theorem dX6_waitOf_38 : decode cX6_waitOf 38 = .ok (.getfield 64, 3) := by decide +kernel
theorem dX6_waitOf_41 : decode cX6_waitOf 41 = .ok (.sipush 2197, 3) := by decide +kernel
theorem dX6_waitOf_44 : decode cX6_waitOf 44 = .ok (.iload_n 1, 1) := by decide +kernel
theorem dX6_waitOf_45 : decode cX6_waitOf 45 = .ok (.imul, 1) := by decide +kernel
theorem dX6_waitOf_46 : decode cX6_waitOf 46 = .ok (.iload_n 3, 1) := by decide +kernel
theorem dX6_waitOf_47 : decode cX6_waitOf 47 = .ok (.iadd, 1) := by decide +kernel
theorem dX6_waitOf_48 : decode cX6_waitOf 48 = .ok (.iaload, 1) := by decide +kernel
theorem dX6_waitOf_49 : decode cX6_waitOf 49 = .ok (.istore 5, 2) := by decide +kernel
theorem dX6_waitOf_51 : decode cX6_waitOf 51 = .ok (.iload 4, 2) := by decide +kernel
theorem dX6_waitOf_53 : decode cX6_waitOf 53 = .ok (.ldc 111, 2) := by decide +kernel
theorem dX6_waitOf_55 : decode cX6_waitOf 55 = .ok (.if_icmp .ge 31, 3) := by decide +kernel
theorem dX6_waitOf_58 : decode cX6_waitOf 58 = .ok (.iload 5, 2) := by decide +kernel
theorem dX6_waitOf_60 : decode cX6_waitOf 60 = .ok (.ldc 111, 2) := by decide +kernel
theorem dX6_waitOf_62 : decode cX6_waitOf 62 = .ok (.if_icmp .ge 24, 3) := by decide +kernel
theorem dX6_waitOf_65 : decode cX6_waitOf 65 = .ok (.iload 4, 2) := by decide +kernel
theorem dX6_waitOf_67 : decode cX6_waitOf 67 = .ok (.iload 5, 2) := by decide +kernel
theorem dX6_waitOf_69 : decode cX6_waitOf 69 = .ok (.iadd, 1) := by decide +kernel
theorem dX6_waitOf_70 : decode cX6_waitOf 70 = .ok (.aload_n 0, 1) := by decide +kernel
theorem dX6_waitOf_71 : decode cX6_waitOf 71 = .ok (.getfield 173, 3) := by decide +kernel
theorem dX6_waitOf_74 : decode cX6_waitOf 74 = .ok (.if_icmp .ge 12, 3) := by decide +kernel
theorem dX6_waitOf_77 : decode cX6_waitOf 77 = .ok (.aload_n 0, 1) := by decide +kernel
theorem dX6_waitOf_78 : decode cX6_waitOf 78 = .ok (.iload 4, 2) := by decide +kernel
theorem dX6_waitOf_80 : decode cX6_waitOf 80 = .ok (.iload 5, 2) := by decide +kernel
theorem dX6_waitOf_82 : decode cX6_waitOf 82 = .ok (.iadd, 1) := by decide +kernel
theorem dX6_waitOf_83 : decode cX6_waitOf 83 = .ok (.putfield 173, 3) := by decide +kernel
theorem dX6_waitOf_86 : decode cX6_waitOf 86 = .ok (.iinc 3 1, 3) := by decide +kernel
theorem dX6_waitOf_89 : decode cX6_waitOf 89 = .ok (.goto (-73), 3) := by decide +kernel
theorem dX6_waitOf_92 : decode cX6_waitOf 92 = .ok (.aload_n 0, 1) := by decide +kernel
theorem dX6_waitOf_93 : decode cX6_waitOf 93 = .ok (.getfield 173, 3) := by decide +kernel
theorem dX6_waitOf_96 : decode cX6_waitOf 96 = .ok (.ldc 111, 2) := by decide +kernel
theorem dX6_waitOf_98 : decode cX6_waitOf 98 = .ok (.if_icmp .ge 5, 3) := by decide +kernel
theorem dX6_waitOf_101 : decode cX6_waitOf 101 = .ok (.iload_n 2, 1) := by decide +kernel
theorem dX6_waitOf_102 : decode cX6_waitOf 102 = .ok (.ireturn, 1) := by decide +kernel
theorem dX6_waitOf_103 : decode cX6_waitOf 103 = .ok (.iinc 2 1, 3) := by decide +kernel
theorem dX6_waitOf_106 : decode cX6_waitOf 106 = .ok (.goto (-104), 3) := by decide +kernel
theorem dX6_waitOf_109 : decode cX6_waitOf 109 = .ok (.iconst (-1), 1) := by decide +kernel
theorem dX6_waitOf_110 : decode cX6_waitOf 110 = .ok (.ireturn, 1) := by decide +kernel
set_option maxRecDepth 20000 in
theorem ggX6_await_X6_in : GoodIn wsX6_await wsX6_in := goodIn_r _ [4] (by decide +kernel) (by decide +kernel)
set_option maxRecDepth 20000 in
theorem gX6_await_X6_in : GoodIn wsX6_await (va_wsS RX6 71 yX6_in wsX6_in) := goodIn_app (goodIn_of _ (by decide +kernel)) ggX6_await_X6_in
set_option maxRecDepth 20000 in
theorem ggX6_await_X6_layGlasses : GoodIn wsX6_await wsX6_layGlasses := goodIn_r _ [8, 9, 10, 11, 12, 13, 14, 15, 16, 17, 18, 19, 3, 20, 21, 22, 23, 24, 25, 26, 27, 28, 29, 35, 36, 37, 38, 39, 40, 41, 42, 43, 44, 45, 46, 47, 48, 49, 50, 51, 52, 53, 54, 55, 56, 57, 58, 59, 60, 61, 62] (by decide +kernel) (by decide +kernel)
set_option maxRecDepth 20000 in
theorem gX6_await_X6_layGlasses : GoodIn wsX6_await (wsV RX6 176 RX6 yX6_layGlasses wsX6_layGlasses) := goodIn_app (goodIn_of _ (by decide +kernel)) ggX6_await_X6_layGlasses
set_option maxRecDepth 20000 in
theorem ggX6_await_X6_waitOf : GoodIn wsX6_await wsX6_waitOf := goodIn_r _ [33, 15, 34, 14, 16, 35, 36, 37, 38, 39, 40, 41, 42, 43, 44, 45, 46, 47, 48, 49, 50, 51, 52, 53, 54, 55, 56, 57, 58, 59, 60, 61, 62] (by decide +kernel) (by decide +kernel)
set_option maxRecDepth 20000 in
theorem gX6_await_X6_waitOf : GoodIn wsX6_await (wsV RX6 179 RX6 yX6_waitOf wsX6_waitOf) := goodIn_app (goodIn_of _ (by decide +kernel)) ggX6_await_X6_waitOf
theorem dX6_await_0 : decode cX6_await 0 = .ok (.iload_n 1, 1) := by decide +kernel
theorem dX6_await_1 : decode cX6_await 1 = .ok (.iconst 1, 1) := by decide +kernel
theorem dX6_await_2 : decode cX6_await 2 = .ok (.bipush 40, 2) := by decide +kernel
theorem dX6_await_4 : decode cX6_await 4 = .ok (.invokestatic 71, 3) := by decide +kernel
theorem dX6_await_7 : decode cX6_await 7 = .ok (.ifCond .ne 6, 3) := by decide +kernel
theorem dX6_await_10 : decode cX6_await 10 = .ok (.bipush (-2), 2) := by decide +kernel
theorem dX6_await_12 : decode cX6_await 12 = .ok (.ireturn, 1) := by decide +kernel
theorem dX6_await_13 : decode cX6_await 13 = .ok (.aload_n 0, 1) := by decide +kernel
theorem dX6_await_14 : decode cX6_await 14 = .ok (.invokevirtual 176, 3) := by decide +kernel
theorem dX6_await_17 : decode cX6_await 17 = .ok (.aload_n 0, 1) := by decide +kernel
theorem dX6_await_18 : decode cX6_await 18 = .ok (.iload_n 1, 1) := by decide +kernel
theorem dX6_await_19 : decode cX6_await 19 = .ok (.invokevirtual 179, 3) := by decide +kernel
theorem dX6_await_22 : decode cX6_await 22 = .ok (.ireturn, 1) := by decide +kernel
set_option maxRecDepth 20000 in
theorem ggX6_turns_X6_in : GoodIn wsX6_turns wsX6_in := goodIn_r _ [5] (by decide +kernel) (by decide +kernel)
set_option maxRecDepth 20000 in
theorem gX6_turns_X6_in : GoodIn wsX6_turns (va_wsS RX6 71 yX6_in wsX6_in) := goodIn_app (goodIn_of _ (by decide +kernel)) ggX6_turns_X6_in
set_option maxRecDepth 20000 in
theorem ggX6_turns_X6_layGlasses : GoodIn wsX6_turns wsX6_layGlasses := goodIn_r _ [9, 10, 11, 12, 13, 14, 15, 16, 17, 18, 19, 20, 4, 21, 22, 23, 24, 25, 26, 27, 28, 29, 30, 35, 36, 37, 38, 39, 40, 41, 42, 43, 44, 45, 46, 47, 48, 49, 50, 51, 52, 53, 54, 55, 56, 57, 58, 59, 60, 61, 62] (by decide +kernel) (by decide +kernel)
set_option maxRecDepth 20000 in
theorem gX6_turns_X6_layGlasses : GoodIn wsX6_turns (wsV RX6 176 RX6 yX6_layGlasses wsX6_layGlasses) := goodIn_app (goodIn_of _ (by decide +kernel)) ggX6_turns_X6_layGlasses
set_option maxRecDepth 20000 in
theorem ggX6_turns_X6_waitOf : GoodIn wsX6_turns wsX6_waitOf := goodIn_r _ [34, 16, 1, 15, 17, 35, 36, 37, 38, 39, 40, 41, 42, 43, 44, 45, 46, 47, 48, 49, 50, 51, 52, 53, 54, 55, 56, 57, 58, 59, 60, 61, 62] (by decide +kernel) (by decide +kernel)
set_option maxRecDepth 20000 in
theorem gX6_turns_X6_waitOf : GoodIn wsX6_turns (wsV RX6 179 RX6 yX6_waitOf wsX6_waitOf) := goodIn_app (goodIn_of _ (by decide +kernel)) ggX6_turns_X6_waitOf
theorem dX6_turns_0 : decode cX6_turns 0 = .ok (.iload_n 1, 1) := by decide +kernel
theorem dX6_turns_1 : decode cX6_turns 1 = .ok (.iconst 1, 1) := by decide +kernel
theorem dX6_turns_2 : decode cX6_turns 2 = .ok (.bipush 40, 2) := by decide +kernel
theorem dX6_turns_4 : decode cX6_turns 4 = .ok (.invokestatic 71, 3) := by decide +kernel
theorem dX6_turns_7 : decode cX6_turns 7 = .ok (.ifCond .ne 6, 3) := by decide +kernel
theorem dX6_turns_10 : decode cX6_turns 10 = .ok (.bipush (-2), 2) := by decide +kernel
theorem dX6_turns_12 : decode cX6_turns 12 = .ok (.ireturn, 1) := by decide +kernel
theorem dX6_turns_13 : decode cX6_turns 13 = .ok (.aload_n 0, 1) := by decide +kernel
theorem dX6_turns_14 : decode cX6_turns 14 = .ok (.invokevirtual 176, 3) := by decide +kernel
theorem dX6_turns_17 : decode cX6_turns 17 = .ok (.aload_n 0, 1) := by decide +kernel
theorem dX6_turns_18 : decode cX6_turns 18 = .ok (.iload_n 1, 1) := by decide +kernel
theorem dX6_turns_19 : decode cX6_turns 19 = .ok (.invokevirtual 179, 3) := by decide +kernel
theorem dX6_turns_22 : decode cX6_turns 22 = .ok (.iconst (-1), 1) := by decide +kernel
theorem dX6_turns_23 : decode cX6_turns 23 = .ok (.if_icmp .ne 7, 3) := by decide +kernel
theorem dX6_turns_26 : decode cX6_turns 26 = .ok (.iconst (-1), 1) := by decide +kernel
theorem dX6_turns_27 : decode cX6_turns 27 = .ok (.goto 7, 3) := by decide +kernel
theorem dX6_turns_30 : decode cX6_turns 30 = .ok (.aload_n 0, 1) := by decide +kernel
theorem dX6_turns_31 : decode cX6_turns 31 = .ok (.getfield 173, 3) := by decide +kernel
theorem dX6_turns_34 : decode cX6_turns 34 = .ok (.ireturn, 1) := by decide +kernel
set_option maxRecDepth 20000 in
theorem ggX6_spans_X6_in : GoodIn wsX6_spans wsX6_in := goodIn_r _ [5] (by decide +kernel) (by decide +kernel)
set_option maxRecDepth 20000 in
theorem gX6_spans_X6_in : GoodIn wsX6_spans (va_wsS RX6 71 yX6_in wsX6_in) := goodIn_app (goodIn_of _ (by decide +kernel)) ggX6_spans_X6_in
set_option maxRecDepth 20000 in
theorem ggX6_spans_X6_layGlasses : GoodIn wsX6_spans wsX6_layGlasses := goodIn_r _ [9, 10, 11, 12, 13, 14, 15, 16, 17, 18, 19, 20, 4, 21, 22, 23, 24, 25, 26, 27, 28, 29, 30, 36, 37, 38, 39, 40, 41, 42, 43, 44, 45, 46, 47, 48, 49, 50, 51, 52, 53, 54, 55, 56, 57, 58, 59, 60, 61, 62, 63] (by decide +kernel) (by decide +kernel)
set_option maxRecDepth 20000 in
theorem gX6_spans_X6_layGlasses : GoodIn wsX6_spans (wsV RX6 176 RX6 yX6_layGlasses wsX6_layGlasses) := goodIn_app (goodIn_of _ (by decide +kernel)) ggX6_spans_X6_layGlasses
set_option maxRecDepth 20000 in
theorem ggX6_spans_X6_waitOf : GoodIn wsX6_spans wsX6_waitOf := goodIn_r _ [34, 16, 35, 15, 17, 36, 37, 38, 39, 40, 41, 42, 43, 44, 45, 46, 47, 48, 49, 50, 51, 52, 53, 54, 55, 56, 57, 58, 59, 60, 61, 62, 63] (by decide +kernel) (by decide +kernel)
set_option maxRecDepth 20000 in
theorem gX6_spans_X6_waitOf : GoodIn wsX6_spans (wsV RX6 179 RX6 yX6_waitOf wsX6_waitOf) := goodIn_app (goodIn_of _ (by decide +kernel)) ggX6_spans_X6_waitOf
theorem dX6_spans_0 : decode cX6_spans 0 = .ok (.iload_n 1, 1) := by decide +kernel
theorem dX6_spans_1 : decode cX6_spans 1 = .ok (.iconst 0, 1) := by decide +kernel
theorem dX6_spans_2 : decode cX6_spans 2 = .ok (.bipush 60, 2) := by decide +kernel
theorem dX6_spans_4 : decode cX6_spans 4 = .ok (.invokestatic 71, 3) := by decide +kernel
theorem dX6_spans_7 : decode cX6_spans 7 = .ok (.ifCond .ne 7, 3) := by decide +kernel
theorem dX6_spans_10 : decode cX6_spans 10 = .ok (.ldc2_w 133, 3) := by decide +kernel
theorem dX6_spans_13 : decode cX6_spans 13 = .ok (.lreturn, 1) := by decide +kernel
theorem dX6_spans_14 : decode cX6_spans 14 = .ok (.aload_n 0, 1) := by decide +kernel
theorem dX6_spans_15 : decode cX6_spans 15 = .ok (.invokevirtual 176, 3) := by decide +kernel
theorem dX6_spans_18 : decode cX6_spans 18 = .ok (.lconst 0, 1) := by decide +kernel
theorem dX6_spans_19 : decode cX6_spans 19 = .ok (.lstore_n 2, 1) := by decide +kernel
theorem dX6_spans_20 : decode cX6_spans 20 = .ok (.iconst 1, 1) := by decide +kernel
theorem dX6_spans_21 : decode cX6_spans 21 = .ok (.istore 4, 2) := by decide +kernel
theorem dX6_spans_23 : decode cX6_spans 23 = .ok (.iload 4, 2) := by decide +kernel
theorem dX6_spans_25 : decode cX6_spans 25 = .ok (.bipush 40, 2) := by decide +kernel
theorem dX6_spans_27 : decode cX6_spans 27 = .ok (.if_icmp .gt 40, 3) := by decide +kernel
theorem dX6_spans_30 : decode cX6_spans 30 = .ok (.aload_n 0, 1) := by decide +kernel
theorem dX6_spans_31 : decode cX6_spans 31 = .ok (.iload 4, 2) := by decide +kernel
theorem dX6_spans_33 : decode cX6_spans 33 = .ok (.invokevirtual 179, 3) := by decide +kernel
theorem dX6_spans_36 : decode cX6_spans 36 = .ok (.istore 5, 2) := by decide +kernel
theorem dX6_spans_38 : decode cX6_spans 38 = .ok (.lload_n 2, 1) := by decide +kernel
theorem dX6_spans_39 : decode cX6_spans 39 = .ok (.iload 5, 2) := by decide +kernel
theorem dX6_spans_41 : decode cX6_spans 41 = .ok (.iconst (-1), 1) := by decide +kernel
theorem dX6_spans_42 : decode cX6_spans 42 = .ok (.if_icmp .eq 16, 3) := by decide +kernel
theorem dX6_spans_45 : decode cX6_spans 45 = .ok (.iload 5, 2) := by decide +kernel
theorem dX6_spans_47 : decode cX6_spans 47 = .ok (.iload_n 1, 1) := by decide +kernel
theorem dX6_spans_48 : decode cX6_spans 48 = .ok (.if_icmp .gt 10, 3) := by decide +kernel
theorem dX6_spans_51 : decode cX6_spans 51 = .ok (.lconst 1, 1) := by decide +kernel
theorem dX6_spans_52 : decode cX6_spans 52 = .ok (.iload 4, 2) := by decide +kernel
theorem dX6_spans_54 : decode cX6_spans 54 = .ok (.lshl, 1) := by decide +kernel
theorem dX6_spans_55 : decode cX6_spans 55 = .ok (.goto 4, 3) := by decide +kernel
theorem dX6_spans_58 : decode cX6_spans 58 = .ok (.lconst 0, 1) := by decide +kernel
theorem dX6_spans_59 : decode cX6_spans 59 = .ok (.lor, 1) := by decide +kernel
theorem dX6_spans_60 : decode cX6_spans 60 = .ok (.lstore_n 2, 1) := by decide +kernel
theorem dX6_spans_61 : decode cX6_spans 61 = .ok (.iinc 4 1, 3) := by decide +kernel
theorem dX6_spans_64 : decode cX6_spans 64 = .ok (.goto (-41), 3) := by decide +kernel
theorem dX6_spans_67 : decode cX6_spans 67 = .ok (.lload_n 2, 1) := by decide +kernel
theorem dX6_spans_68 : decode cX6_spans 68 = .ok (.lreturn, 1) := by decide +kernel
set_option maxRecDepth 20000 in
theorem ggX6_count_X6_tryOwn : GoodIn wsX6_count wsX6_tryOwn := goodIn_r _ [8, 1, 9, 10, 11, 12, 13, 14, 15, 16, 3, 23, 24, 25, 26, 27, 28, 29, 30, 31, 32, 33, 34, 35, 36, 37, 38, 39, 40, 41, 42, 43, 44, 45, 46, 47, 48, 49, 50] (by decide +kernel) (by decide +kernel)
set_option maxRecDepth 20000 in
theorem gX6_count_X6_tryOwn : GoodIn wsX6_count (wsV RX6 94 RX6 yX6_tryOwn wsX6_tryOwn) := goodIn_app (goodIn_of _ (by decide +kernel)) ggX6_count_X6_tryOwn
set_option maxRecDepth 20000 in
theorem ggX6_count_X6_does : GoodIn wsX6_count wsX6_does := goodIn_r _ [20, 9, 21, 11, 14, 16, 22, 13, 23, 24, 25, 26, 27, 28, 29, 30, 31, 32, 33, 34, 35, 36, 37, 38, 39, 40, 41, 42, 43, 44, 45, 46, 47, 48, 49, 50] (by decide +kernel) (by decide +kernel)
set_option maxRecDepth 20000 in
theorem gX6_count_X6_does : GoodIn wsX6_count (wsV RX6 97 RX6 yX6_does wsX6_does) := goodIn_app (goodIn_of _ (by decide +kernel)) ggX6_count_X6_does
theorem dX6_count_0 : decode cX6_count 0 = .ok (.iconst 0, 1) := by decide +kernel
theorem dX6_count_1 : decode cX6_count 1 = .ok (.istore_n 2, 1) := by decide +kernel
theorem dX6_count_2 : decode cX6_count 2 = .ok (.iload_n 1, 1) := by decide +kernel
theorem dX6_count_3 : decode cX6_count 3 = .ok (.tableswitch 102 0 3 #[29, 34, 39, 66], 29) := by decide +kernel
theorem dX6_count_32 : decode cX6_count 32 = .ok (.aload_n 0, 1) := by decide +kernel
theorem dX6_count_33 : decode cX6_count 33 = .ok (.getfield 67, 3) := by decide +kernel
theorem dX6_count_36 : decode cX6_count 36 = .ok (.ireturn, 1) := by decide +kernel
theorem dX6_count_37 : decode cX6_count 37 = .ok (.aload_n 0, 1) := by decide +kernel
theorem dX6_count_38 : decode cX6_count 38 = .ok (.getfield 155, 3) := by decide +kernel
theorem dX6_count_41 : decode cX6_count 41 = .ok (.ireturn, 1) := by decide +kernel
theorem dX6_count_42 : decode cX6_count 42 = .ok (.iconst 0, 1) := by decide +kernel
theorem dX6_count_43 : decode cX6_count 43 = .ok (.istore_n 3, 1) := by decide +kernel
theorem dX6_count_44 : decode cX6_count 44 = .ok (.iload_n 3, 1) := by decide +kernel
theorem dX6_count_45 : decode cX6_count 45 = .ok (.aload_n 0, 1) := by decide +kernel
theorem dX6_count_46 : decode cX6_count 46 = .ok (.getfield 67, 3) := by decide +kernel
theorem dX6_count_49 : decode cX6_count 49 = .ok (.if_icmp .ge 18, 3) := by decide +kernel
theorem dX6_count_52 : decode cX6_count 52 = .ok (.iload_n 2, 1) := by decide +kernel
theorem dX6_count_53 : decode cX6_count 53 = .ok (.aload_n 0, 1) := by decide +kernel
theorem dX6_count_54 : decode cX6_count 54 = .ok (.getfield 13, 3) := by decide +kernel
theorem dX6_count_57 : decode cX6_count 57 = .ok (.iload_n 3, 1) := by decide +kernel
theorem dX6_count_58 : decode cX6_count 58 = .ok (.iaload, 1) := by decide +kernel
theorem dX6_count_59 : decode cX6_count 59 = .ok (.iadd, 1) := by decide +kernel
theorem dX6_count_60 : decode cX6_count 60 = .ok (.istore_n 2, 1) := by decide +kernel
theorem dX6_count_61 : decode cX6_count 61 = .ok (.iinc 3 1, 3) := by decide +kernel
theorem dX6_count_64 : decode cX6_count 64 = .ok (.goto (-20), 3) := by decide +kernel
theorem dX6_count_67 : decode cX6_count 67 = .ok (.iload_n 2, 1) := by decide +kernel
theorem dX6_count_68 : decode cX6_count 68 = .ok (.ireturn, 1) := by decide +kernel
theorem dX6_count_69 : decode cX6_count 69 = .ok (.iconst 0, 1) := by decide +kernel
theorem dX6_count_70 : decode cX6_count 70 = .ok (.istore_n 3, 1) := by decide +kernel
theorem dX6_count_71 : decode cX6_count 71 = .ok (.iload_n 3, 1) := by decide +kernel
theorem dX6_count_72 : decode cX6_count 72 = .ok (.bipush 24, 2) := by decide +kernel
theorem dX6_count_74 : decode cX6_count 74 = .ok (.if_icmp .ge 29, 3) := by decide +kernel
theorem dX6_count_77 : decode cX6_count 77 = .ok (.aload_n 0, 1) := by decide +kernel
theorem dX6_count_78 : decode cX6_count 78 = .ok (.invokevirtual 94, 3) := by decide +kernel
theorem dX6_count_81 : decode cX6_count 81 = .ok (.iload_n 2, 1) := by decide +kernel
theorem dX6_count_82 : decode cX6_count 82 = .ok (.aload_n 0, 1) := by decide +kernel
theorem dX6_count_83 : decode cX6_count 83 = .ok (.iload_n 3, 1) := by decide +kernel
theorem dX6_count_84 : decode cX6_count 84 = .ok (.invokevirtual 97, 3) := by decide +kernel
theorem dX6_count_87 : decode cX6_count 87 = .ok (.ifCond .eq 7, 3) := by decide +kernel
theorem dX6_count_90 : decode cX6_count 90 = .ok (.iconst 1, 1) := by decide +kernel
theorem dX6_count_91 : decode cX6_count 91 = .ok (.goto 4, 3) := by decide +kernel
theorem dX6_count_94 : decode cX6_count 94 = .ok (.iconst 0, 1) := by decide +kernel
theorem dX6_count_95 : decode cX6_count 95 = .ok (.iadd, 1) := by decide +kernel
theorem dX6_count_96 : decode cX6_count 96 = .ok (.istore_n 2, 1) := by decide +kernel
theorem dX6_count_97 : decode cX6_count 97 = .ok (.iinc 3 1, 3) := by decide +kernel
theorem dX6_count_100 : decode cX6_count 100 = .ok (.goto (-29), 3) := by decide +kernel
theorem dX6_count_103 : decode cX6_count 103 = .ok (.iload_n 2, 1) := by decide +kernel
theorem dX6_count_104 : decode cX6_count 104 = .ok (.ireturn, 1) := by decide +kernel
theorem dX6_count_105 : decode cX6_count 105 = .ok (.bipush (-2), 2) := by decide +kernel
theorem dX6_count_107 : decode cX6_count 107 = .ok (.ireturn, 1) := by decide +kernel
theorem dJ6_bitCount_0f7a4_0 : decode cJ6_bitCount_0f7a4 0 = .ok (.iload_n 0, 1) := by decide +kernel
theorem dJ6_bitCount_0f7a4_1 : decode cJ6_bitCount_0f7a4 1 = .ok (.iload_n 0, 1) := by decide +kernel
theorem dJ6_bitCount_0f7a4_2 : decode cJ6_bitCount_0f7a4 2 = .ok (.iconst 1, 1) := by decide +kernel
theorem dJ6_bitCount_0f7a4_3 : decode cJ6_bitCount_0f7a4 3 = .ok (.iushr, 1) := by decide +kernel
theorem dJ6_bitCount_0f7a4_4 : decode cJ6_bitCount_0f7a4 4 = .ok (.ldc_w 265, 3) := by decide +kernel
theorem dJ6_bitCount_0f7a4_7 : decode cJ6_bitCount_0f7a4 7 = .ok (.iand, 1) := by decide +kernel
theorem dJ6_bitCount_0f7a4_8 : decode cJ6_bitCount_0f7a4 8 = .ok (.isub, 1) := by decide +kernel
theorem dJ6_bitCount_0f7a4_9 : decode cJ6_bitCount_0f7a4 9 = .ok (.istore_n 0, 1) := by decide +kernel
theorem dJ6_bitCount_0f7a4_10 : decode cJ6_bitCount_0f7a4 10 = .ok (.iload_n 0, 1) := by decide +kernel
theorem dJ6_bitCount_0f7a4_11 : decode cJ6_bitCount_0f7a4 11 = .ok (.ldc_w 266, 3) := by decide +kernel
theorem dJ6_bitCount_0f7a4_14 : decode cJ6_bitCount_0f7a4 14 = .ok (.iand, 1) := by decide +kernel
theorem dJ6_bitCount_0f7a4_15 : decode cJ6_bitCount_0f7a4 15 = .ok (.iload_n 0, 1) := by decide +kernel
theorem dJ6_bitCount_0f7a4_16 : decode cJ6_bitCount_0f7a4 16 = .ok (.iconst 2, 1) := by decide +kernel
theorem dJ6_bitCount_0f7a4_17 : decode cJ6_bitCount_0f7a4 17 = .ok (.iushr, 1) := by decide +kernel
theorem dJ6_bitCount_0f7a4_18 : decode cJ6_bitCount_0f7a4 18 = .ok (.ldc_w 266, 3) := by decide +kernel
theorem dJ6_bitCount_0f7a4_21 : decode cJ6_bitCount_0f7a4 21 = .ok (.iand, 1) := by decide +kernel
theorem dJ6_bitCount_0f7a4_22 : decode cJ6_bitCount_0f7a4 22 = .ok (.iadd, 1) := by decide +kernel
theorem dJ6_bitCount_0f7a4_23 : decode cJ6_bitCount_0f7a4 23 = .ok (.istore_n 0, 1) := by decide +kernel
theorem dJ6_bitCount_0f7a4_24 : decode cJ6_bitCount_0f7a4 24 = .ok (.iload_n 0, 1) := by decide +kernel
theorem dJ6_bitCount_0f7a4_25 : decode cJ6_bitCount_0f7a4 25 = .ok (.iload_n 0, 1) := by decide +kernel
theorem dJ6_bitCount_0f7a4_26 : decode cJ6_bitCount_0f7a4 26 = .ok (.iconst 4, 1) := by decide +kernel
theorem dJ6_bitCount_0f7a4_27 : decode cJ6_bitCount_0f7a4 27 = .ok (.iushr, 1) := by decide +kernel
theorem dJ6_bitCount_0f7a4_28 : decode cJ6_bitCount_0f7a4 28 = .ok (.iadd, 1) := by decide +kernel
theorem dJ6_bitCount_0f7a4_29 : decode cJ6_bitCount_0f7a4 29 = .ok (.ldc_w 267, 3) := by decide +kernel
theorem dJ6_bitCount_0f7a4_32 : decode cJ6_bitCount_0f7a4 32 = .ok (.iand, 1) := by decide +kernel
theorem dJ6_bitCount_0f7a4_33 : decode cJ6_bitCount_0f7a4 33 = .ok (.istore_n 0, 1) := by decide +kernel
theorem dJ6_bitCount_0f7a4_34 : decode cJ6_bitCount_0f7a4 34 = .ok (.iload_n 0, 1) := by decide +kernel
theorem dJ6_bitCount_0f7a4_35 : decode cJ6_bitCount_0f7a4 35 = .ok (.iload_n 0, 1) := by decide +kernel
theorem dJ6_bitCount_0f7a4_36 : decode cJ6_bitCount_0f7a4 36 = .ok (.bipush 8, 2) := by decide +kernel
theorem dJ6_bitCount_0f7a4_38 : decode cJ6_bitCount_0f7a4 38 = .ok (.iushr, 1) := by decide +kernel
theorem dJ6_bitCount_0f7a4_39 : decode cJ6_bitCount_0f7a4 39 = .ok (.iadd, 1) := by decide +kernel
theorem dJ6_bitCount_0f7a4_40 : decode cJ6_bitCount_0f7a4 40 = .ok (.istore_n 0, 1) := by decide +kernel
theorem dJ6_bitCount_0f7a4_41 : decode cJ6_bitCount_0f7a4 41 = .ok (.iload_n 0, 1) := by decide +kernel
theorem dJ6_bitCount_0f7a4_42 : decode cJ6_bitCount_0f7a4 42 = .ok (.iload_n 0, 1) := by decide +kernel
theorem dJ6_bitCount_0f7a4_43 : decode cJ6_bitCount_0f7a4 43 = .ok (.bipush 16, 2) := by decide +kernel
theorem dJ6_bitCount_0f7a4_45 : decode cJ6_bitCount_0f7a4 45 = .ok (.iushr, 1) := by decide +kernel
theorem dJ6_bitCount_0f7a4_46 : decode cJ6_bitCount_0f7a4 46 = .ok (.iadd, 1) := by decide +kernel
theorem dJ6_bitCount_0f7a4_47 : decode cJ6_bitCount_0f7a4 47 = .ok (.istore_n 0, 1) := by decide +kernel
theorem dJ6_bitCount_0f7a4_48 : decode cJ6_bitCount_0f7a4 48 = .ok (.iload_n 0, 1) := by decide +kernel
theorem dJ6_bitCount_0f7a4_49 : decode cJ6_bitCount_0f7a4 49 = .ok (.bipush 63, 2) := by decide +kernel
theorem dJ6_bitCount_0f7a4_51 : decode cJ6_bitCount_0f7a4 51 = .ok (.iand, 1) := by decide +kernel
theorem dJ6_bitCount_0f7a4_52 : decode cJ6_bitCount_0f7a4 52 = .ok (.ireturn, 1) := by decide +kernel
theorem dJ9_max_7cf53_0 : decode cJ9_max_7cf53 0 = .ok (.iload_n 0, 1) := by decide +kernel
theorem dJ9_max_7cf53_1 : decode cJ9_max_7cf53 1 = .ok (.iload_n 1, 1) := by decide +kernel
theorem dJ9_max_7cf53_2 : decode cJ9_max_7cf53 2 = .ok (.if_icmp .lt 7, 3) := by decide +kernel
theorem dJ9_max_7cf53_5 : decode cJ9_max_7cf53 5 = .ok (.iload_n 0, 1) := by decide +kernel
theorem dJ9_max_7cf53_6 : decode cJ9_max_7cf53 6 = .ok (.goto 4, 3) := by decide +kernel
theorem dJ9_max_7cf53_9 : decode cJ9_max_7cf53 9 = .ok (.iload_n 1, 1) := by decide +kernel
theorem dJ9_max_7cf53_10 : decode cJ9_max_7cf53 10 = .ok (.ireturn, 1) := by decide +kernel
theorem dJ9_min_7cf53_0 : decode cJ9_min_7cf53 0 = .ok (.iload_n 0, 1) := by decide +kernel
theorem dJ9_min_7cf53_1 : decode cJ9_min_7cf53 1 = .ok (.iload_n 1, 1) := by decide +kernel
theorem dJ9_min_7cf53_2 : decode cJ9_min_7cf53 2 = .ok (.if_icmp .gt 7, 3) := by decide +kernel
theorem dJ9_min_7cf53_5 : decode cJ9_min_7cf53 5 = .ok (.iload_n 0, 1) := by decide +kernel
theorem dJ9_min_7cf53_6 : decode cJ9_min_7cf53 6 = .ok (.goto 4, 3) := by decide +kernel
theorem dJ9_min_7cf53_9 : decode cJ9_min_7cf53 9 = .ok (.iload_n 1, 1) := by decide +kernel
theorem dJ9_min_7cf53_10 : decode cJ9_min_7cf53 10 = .ok (.ireturn, 1) := by decide +kernel
theorem dJ9_min_f86c9_0 : decode cJ9_min_f86c9 0 = .ok (.lload_n 0, 1) := by decide +kernel
theorem dJ9_min_f86c9_1 : decode cJ9_min_f86c9 1 = .ok (.lload_n 2, 1) := by decide +kernel
theorem dJ9_min_f86c9_2 : decode cJ9_min_f86c9 2 = .ok (.lcmp, 1) := by decide +kernel
theorem dJ9_min_f86c9_3 : decode cJ9_min_f86c9 3 = .ok (.ifCond .gt 7, 3) := by decide +kernel
theorem dJ9_min_f86c9_6 : decode cJ9_min_f86c9 6 = .ok (.lload_n 0, 1) := by decide +kernel
theorem dJ9_min_f86c9_7 : decode cJ9_min_f86c9 7 = .ok (.goto 4, 3) := by decide +kernel
theorem dJ9_min_f86c9_10 : decode cJ9_min_f86c9 10 = .ok (.lload_n 2, 1) := by decide +kernel
theorem dJ9_min_f86c9_11 : decode cJ9_min_f86c9 11 = .ok (.lreturn, 1) := by decide +kernel
theorem dJ7_fill_d0a16_0 : decode cJ7_fill_d0a16 0 = .ok (.iconst 0, 1) := by decide +kernel
theorem dJ7_fill_d0a16_1 : decode cJ7_fill_d0a16 1 = .ok (.istore_n 3, 1) := by decide +kernel
theorem dJ7_fill_d0a16_2 : decode cJ7_fill_d0a16 2 = .ok (.aload_n 0, 1) := by decide +kernel
theorem dJ7_fill_d0a16_3 : decode cJ7_fill_d0a16 3 = .ok (.arraylength, 1) := by decide +kernel
theorem dJ7_fill_d0a16_4 : decode cJ7_fill_d0a16 4 = .ok (.istore 4, 2) := by decide +kernel
theorem dJ7_fill_d0a16_6 : decode cJ7_fill_d0a16 6 = .ok (.iload_n 3, 1) := by decide +kernel
theorem dJ7_fill_d0a16_7 : decode cJ7_fill_d0a16 7 = .ok (.iload 4, 2) := by decide +kernel
theorem dJ7_fill_d0a16_9 : decode cJ7_fill_d0a16 9 = .ok (.if_icmp .ge 13, 3) := by decide +kernel
theorem dJ7_fill_d0a16_12 : decode cJ7_fill_d0a16 12 = .ok (.aload_n 0, 1) := by decide +kernel
theorem dJ7_fill_d0a16_13 : decode cJ7_fill_d0a16 13 = .ok (.iload_n 3, 1) := by decide +kernel
theorem dJ7_fill_d0a16_14 : decode cJ7_fill_d0a16 14 = .ok (.lload_n 1, 1) := by decide +kernel
theorem dJ7_fill_d0a16_15 : decode cJ7_fill_d0a16 15 = .ok (.lastore, 1) := by decide +kernel
theorem dJ7_fill_d0a16_16 : decode cJ7_fill_d0a16 16 = .ok (.iinc 3 1, 3) := by decide +kernel
theorem dJ7_fill_d0a16_19 : decode cJ7_fill_d0a16 19 = .ok (.goto (-13), 3) := by decide +kernel
theorem dJ7_fill_d0a16_22 : decode cJ7_fill_d0a16 22 = .ok (.return_, 1) := by decide +kernel
theorem dJ7_fill_53178_0 : decode cJ7_fill_53178 0 = .ok (.iconst 0, 1) := by decide +kernel
theorem dJ7_fill_53178_1 : decode cJ7_fill_53178 1 = .ok (.istore_n 2, 1) := by decide +kernel
theorem dJ7_fill_53178_2 : decode cJ7_fill_53178 2 = .ok (.aload_n 0, 1) := by decide +kernel
theorem dJ7_fill_53178_3 : decode cJ7_fill_53178 3 = .ok (.arraylength, 1) := by decide +kernel
theorem dJ7_fill_53178_4 : decode cJ7_fill_53178 4 = .ok (.istore_n 3, 1) := by decide +kernel
theorem dJ7_fill_53178_5 : decode cJ7_fill_53178 5 = .ok (.iload_n 2, 1) := by decide +kernel
theorem dJ7_fill_53178_6 : decode cJ7_fill_53178 6 = .ok (.iload_n 3, 1) := by decide +kernel
theorem dJ7_fill_53178_7 : decode cJ7_fill_53178 7 = .ok (.if_icmp .ge 13, 3) := by decide +kernel
theorem dJ7_fill_53178_10 : decode cJ7_fill_53178 10 = .ok (.aload_n 0, 1) := by decide +kernel
theorem dJ7_fill_53178_11 : decode cJ7_fill_53178 11 = .ok (.iload_n 2, 1) := by decide +kernel
theorem dJ7_fill_53178_12 : decode cJ7_fill_53178 12 = .ok (.iload_n 1, 1) := by decide +kernel
theorem dJ7_fill_53178_13 : decode cJ7_fill_53178 13 = .ok (.iastore, 1) := by decide +kernel
theorem dJ7_fill_53178_14 : decode cJ7_fill_53178 14 = .ok (.iinc 2 1, 3) := by decide +kernel
theorem dJ7_fill_53178_17 : decode cJ7_fill_53178 17 = .ok (.goto (-12), 3) := by decide +kernel
theorem dJ7_fill_53178_20 : decode cJ7_fill_53178 20 = .ok (.return_, 1) := by decide +kernel
