theorem dL_hangs_380 : decode cL_hangs 380 = .ok (.iconst 0, 1) := by decide +kernel
theorem dL_hangs_381 : decode cL_hangs 381 = .ok (.ireturn, 1) := by decide +kernel
theorem dL_hangs_382 : decode cL_hangs 382 = .ok (.iinc 5 1, 3) := by decide +kernel
theorem dL_hangs_385 : decode cL_hangs 385 = .ok (.goto (-373), 3) := by decide +kernel
theorem dL_hangs_388 : decode cL_hangs 388 = .ok (.aload_n 0, 1) := by decide +kernel
theorem dL_hangs_389 : decode cL_hangs 389 = .ok (.iconst 0, 1) := by decide +kernel
theorem dL_hangs_390 : decode cL_hangs 390 = .ok (.invokestatic 108, 3) := by decide +kernel
theorem dL_hangs_393 : decode cL_hangs 393 = .ok (.istore 5, 2) := by decide +kernel
theorem dL_hangs_395 : decode cL_hangs 395 = .ok (.aload_n 0, 1) := by decide +kernel
theorem dL_hangs_396 : decode cL_hangs 396 = .ok (.invokevirtual 110, 3) := by decide +kernel
theorem dL_hangs_399 : decode cL_hangs 399 = .ok (.istore 6, 2) := by decide +kernel
theorem dL_hangs_401 : decode cL_hangs 401 = .ok (.aload_n 0, 1) := by decide +kernel
theorem dL_hangs_402 : decode cL_hangs 402 = .ok (.iconst 1, 1) := by decide +kernel
theorem dL_hangs_403 : decode cL_hangs 403 = .ok (.invokestatic 98, 3) := by decide +kernel
theorem dL_hangs_406 : decode cL_hangs 406 = .ok (.iload_n 1, 1) := by decide +kernel
theorem dL_hangs_407 : decode cL_hangs 407 = .ok (.if_icmp .ne 91, 3) := by decide +kernel
theorem dL_hangs_410 : decode cL_hangs 410 = .ok (.aload_n 0, 1) := by decide +kernel
theorem dL_hangs_411 : decode cL_hangs 411 = .ok (.iconst 2, 1) := by decide +kernel
theorem dL_hangs_412 : decode cL_hangs 412 = .ok (.invokestatic 98, 3) := by decide +kernel
theorem dL_hangs_415 : decode cL_hangs 415 = .ok (.iload_n 2, 1) := by decide +kernel
theorem dL_hangs_416 : decode cL_hangs 416 = .ok (.if_icmp .ne 82, 3) := by decide +kernel
theorem dL_hangs_419 : decode cL_hangs 419 = .ok (.iload 5, 2) := by decide +kernel
theorem dL_hangs_421 : decode cL_hangs 421 = .ok (.aload_n 0, 1) := by decide +kernel
theorem dL_hangs_422 : decode cL_hangs 422 = .ok (.iconst 1, 1) := by decide +kernel
theorem dL_hangs_423 : decode cL_hangs 423 = .ok (.invokestatic 108, 3) := by decide +kernel
theorem dL_hangs_426 : decode cL_hangs 426 = .ok (.if_icmp .ne 72, 3) := by decide +kernel
theorem dL_hangs_429 : decode cL_hangs 429 = .ok (.iload 5, 2) := by decide +kernel
theorem dL_hangs_431 : decode cL_hangs 431 = .ok (.iload_n 3, 1) := by decide +kernel
theorem dL_hangs_432 : decode cL_hangs 432 = .ok (.if_icmp .gt 66, 3) := by decide +kernel
theorem dL_hangs_435 : decode cL_hangs 435 = .ok (.iload 5, 2) := by decide +kernel
theorem dL_hangs_437 : decode cL_hangs 437 = .ok (.ifCond .lt 61, 3) := by decide +kernel
theorem dL_hangs_440 : decode cL_hangs 440 = .ok (.iload 6, 2) := by decide +kernel
theorem dL_hangs_442 : decode cL_hangs 442 = .ok (.iconst (-1), 1) := by decide +kernel
theorem dL_hangs_443 : decode cL_hangs 443 = .ok (.if_icmp .ne 7, 3) := by decide +kernel
theorem dL_hangs_446 : decode cL_hangs 446 = .ok (.iconst 1, 1) := by decide +kernel
theorem dL_hangs_447 : decode cL_hangs 447 = .ok (.goto 4, 3) := by decide +kernel
theorem dL_hangs_450 : decode cL_hangs 450 = .ok (.iconst 0, 1) := by decide +kernel
theorem dL_hangs_451 : decode cL_hangs 451 = .ok (.iload_n 1, 1) := by decide +kernel
theorem dL_hangs_452 : decode cL_hangs 452 = .ok (.ifCond .ne 7, 3) := by decide +kernel
theorem dL_hangs_455 : decode cL_hangs 455 = .ok (.iconst 1, 1) := by decide +kernel
theorem dL_hangs_456 : decode cL_hangs 456 = .ok (.goto 4, 3) := by decide +kernel
theorem dL_hangs_459 : decode cL_hangs 459 = .ok (.iconst 0, 1) := by decide +kernel
theorem dL_hangs_460 : decode cL_hangs 460 = .ok (.if_icmp .ne 38, 3) := by decide +kernel
theorem dL_hangs_463 : decode cL_hangs 463 = .ok (.iload 6, 2) := by decide +kernel
theorem dL_hangs_465 : decode cL_hangs 465 = .ok (.ifCond .lt 16, 3) := by decide +kernel
theorem dL_hangs_468 : decode cL_hangs 468 = .ok (.aload_n 0, 1) := by decide +kernel
theorem dL_hangs_469 : decode cL_hangs 469 = .ok (.iload 6, 2) := by decide +kernel
theorem dL_hangs_471 : decode cL_hangs 471 = .ok (.bipush 9, 2) := by decide +kernel
theorem dL_hangs_473 : decode cL_hangs 473 = .ok (.invokestatic 100, 3) := by decide +kernel
theorem dL_hangs_476 : decode cL_hangs 476 = .ok (.iload 4, 2) := by decide +kernel
theorem dL_hangs_478 : decode cL_hangs 478 = .ok (.if_icmp .ne 20, 3) := by decide +kernel
theorem dL_hangs_481 : decode cL_hangs 481 = .ok (.aload_n 0, 1) := by decide +kernel
theorem dL_hangs_482 : decode cL_hangs 482 = .ok (.iconst 5, 1) := by decide +kernel
theorem dL_hangs_483 : decode cL_hangs 483 = .ok (.invokestatic 98, 3) := by decide +kernel
theorem dL_hangs_486 : decode cL_hangs 486 = .ok (.aload_n 0, 1) := by decide +kernel
theorem dL_hangs_487 : decode cL_hangs 487 = .ok (.iconst 4, 1) := by decide +kernel
theorem dL_hangs_488 : decode cL_hangs 488 = .ok (.invokestatic 98, 3) := by decide +kernel
theorem dL_hangs_491 : decode cL_hangs 491 = .ok (.if_icmp .gt 7, 3) := by decide +kernel
theorem dL_hangs_494 : decode cL_hangs 494 = .ok (.iconst 1, 1) := by decide +kernel
theorem dL_hangs_495 : decode cL_hangs 495 = .ok (.goto 4, 3) := by decide +kernel
theorem dL_hangs_498 : decode cL_hangs 498 = .ok (.iconst 0, 1) := by decide +kernel
theorem dL_hangs_499 : decode cL_hangs 499 = .ok (.istore 7, 2) := by decide +kernel
theorem dL_hangs_501 : decode cL_hangs 501 = .ok (.iload 7, 2) := by decide +kernel
theorem dL_hangs_503 : decode cL_hangs 503 = .ok (.ifCond .eq 31, 3) := by decide +kernel
theorem dL_hangs_506 : decode cL_hangs 506 = .ok (.aload_n 0, 1) := by decide +kernel
theorem dL_hangs_507 : decode cL_hangs 507 = .ok (.invokevirtual 113, 3) := by decide +kernel
theorem dL_hangs_510 : decode cL_hangs 510 = .ok (.iload_n 3, 1) := by decide +kernel
theorem dL_hangs_511 : decode cL_hangs 511 = .ok (.ifCond .ne 7, 3) := by decide +kernel
theorem dL_hangs_514 : decode cL_hangs 514 = .ok (.dconst 0, 1) := by decide +kernel
theorem dL_hangs_515 : decode cL_hangs 515 = .ok (.goto 11, 3) := by decide +kernel
theorem dL_hangs_518 : decode cL_hangs 518 = .ok (.iload_n 3, 1) := by decide +kernel
theorem dL_hangs_519 : decode cL_hangs 519 = .ok (.iload 5, 2) := by decide +kernel
theorem dL_hangs_521 : decode cL_hangs 521 = .ok (.isub, 1) := by decide +kernel
theorem dL_hangs_522 : decode cL_hangs 522 = .ok (.i2d, 1) := by decide +kernel
theorem dL_hangs_523 : decode cL_hangs 523 = .ok (.iload_n 3, 1) := by decide +kernel
theorem dL_hangs_524 : decode cL_hangs 524 = .ok (.i2d, 1) := by decide +kernel
theorem dL_hangs_525 : decode cL_hangs 525 = .ok (.ddiv, 1) := by decide +kernel
theorem dL_hangs_526 : decode cL_hangs 526 = .ok (.dcmp .l, 1) := by decide +kernel
theorem dL_hangs_527 : decode cL_hangs 527 = .ok (.ifCond .ne 7, 3) := by decide +kernel
theorem dL_hangs_530 : decode cL_hangs 530 = .ok (.iconst 1, 1) := by decide +kernel
theorem dL_hangs_531 : decode cL_hangs 531 = .ok (.goto 4, 3) := by decide +kernel
theorem dL_hangs_534 : decode cL_hangs 534 = .ok (.iconst 0, 1) := by decide +kernel
theorem dL_hangs_535 : decode cL_hangs 535 = .ok (.ireturn, 1) := by decide +kernel
theorem dL_rates_0 : decode cL_rates 0 = .ok (.iconst 0, 1) := by decide +kernel
theorem dL_rates_1 : decode cL_rates 1 = .ok (.istore_n 1, 1) := by decide +kernel
theorem dL_rates_2 : decode cL_rates 2 = .ok (.iconst 1, 1) := by decide +kernel
theorem dL_rates_3 : decode cL_rates 3 = .ok (.istore_n 2, 1) := by decide +kernel
theorem dL_rates_4 : decode cL_rates 4 = .ok (.iload_n 2, 1) := by decide +kernel
theorem dL_rates_5 : decode cL_rates 5 = .ok (.sipush 1000, 3) := by decide +kernel
theorem dL_rates_8 : decode cL_rates 8 = .ok (.if_icmp .ge 54, 3) := by decide +kernel
theorem dL_rates_11 : decode cL_rates 11 = .ok (.aload_n 0, 1) := by decide +kernel
theorem dL_rates_12 : decode cL_rates 12 = .ok (.iload_n 2, 1) := by decide +kernel
theorem dL_rates_13 : decode cL_rates 13 = .ok (.iconst 0, 1) := by decide +kernel
theorem dL_rates_14 : decode cL_rates 14 = .ok (.invokestatic 104, 3) := by decide +kernel
theorem dL_rates_17 : decode cL_rates 17 = .ok (.istore_n 3, 1) := by decide +kernel
theorem dL_rates_18 : decode cL_rates 18 = .ok (.iload_n 3, 1) := by decide +kernel
theorem dL_rates_19 : decode cL_rates 19 = .ok (.iload_n 1, 1) := by decide +kernel
theorem dL_rates_20 : decode cL_rates 20 = .ok (.if_icmp .lt 32, 3) := by decide +kernel
theorem dL_rates_23 : decode cL_rates 23 = .ok (.iload_n 3, 1) := by decide +kernel
theorem dL_rates_24 : decode cL_rates 24 = .ok (.aload_n 0, 1) := by decide +kernel
theorem dL_rates_25 : decode cL_rates 25 = .ok (.iload_n 2, 1) := by decide +kernel
theorem dL_rates_26 : decode cL_rates 26 = .ok (.iconst 1, 1) := by decide +kernel
theorem dL_rates_27 : decode cL_rates 27 = .ok (.invokestatic 104, 3) := by decide +kernel
theorem dL_rates_30 : decode cL_rates 30 = .ok (.if_icmp .ne 22, 3) := by decide +kernel
theorem dL_rates_33 : decode cL_rates 33 = .ok (.iload_n 2, 1) := by decide +kernel
theorem dL_rates_34 : decode cL_rates 34 = .ok (.sipush 600, 3) := by decide +kernel
theorem dL_rates_37 : decode cL_rates 37 = .ok (.if_icmp .le 17, 3) := by decide +kernel
theorem dL_rates_40 : decode cL_rates 40 = .ok (.iload_n 3, 1) := by decide +kernel
theorem dL_rates_41 : decode cL_rates 41 = .ok (.iload_n 1, 1) := by decide +kernel
theorem dL_rates_42 : decode cL_rates 42 = .ok (.if_icmp .eq 12, 3) := by decide +kernel
theorem dL_rates_45 : decode cL_rates 45 = .ok (.iload_n 2, 1) := by decide +kernel
theorem dL_rates_46 : decode cL_rates 46 = .ok (.sipush 650, 3) := by decide +kernel
theorem dL_rates_49 : decode cL_rates 49 = .ok (.if_icmp .le 5, 3) := by decide +kernel
theorem dL_rates_52 : decode cL_rates 52 = .ok (.iconst 0, 1) := by decide +kernel
theorem dL_rates_53 : decode cL_rates 53 = .ok (.ireturn, 1) := by decide +kernel
theorem dL_rates_54 : decode cL_rates 54 = .ok (.iload_n 3, 1) := by decide +kernel
theorem dL_rates_55 : decode cL_rates 55 = .ok (.istore_n 1, 1) := by decide +kernel
theorem dL_rates_56 : decode cL_rates 56 = .ok (.iinc 2 49, 3) := by decide +kernel
theorem dL_rates_59 : decode cL_rates 59 = .ok (.goto (-55), 3) := by decide +kernel
theorem dL_rates_62 : decode cL_rates 62 = .ok (.aload_n 0, 1) := by decide +kernel
theorem dL_rates_63 : decode cL_rates 63 = .ok (.bipush 8, 2) := by decide +kernel
theorem dL_rates_65 : decode cL_rates 65 = .ok (.invokestatic 98, 3) := by decide +kernel
theorem dL_rates_68 : decode cL_rates 68 = .ok (.ifCond .le 7, 3) := by decide +kernel
theorem dL_rates_71 : decode cL_rates 71 = .ok (.iconst 1, 1) := by decide +kernel
theorem dL_rates_72 : decode cL_rates 72 = .ok (.goto 4, 3) := by decide +kernel
theorem dL_rates_75 : decode cL_rates 75 = .ok (.iconst 0, 1) := by decide +kernel
theorem dL_rates_76 : decode cL_rates 76 = .ok (.aload_n 0, 1) := by decide +kernel
theorem dL_rates_77 : decode cL_rates 77 = .ok (.invokestatic 117, 3) := by decide +kernel
theorem dL_rates_80 : decode cL_rates 80 = .ok (.bipush 12, 2) := by decide +kernel
theorem dL_rates_82 : decode cL_rates 82 = .ok (.if_icmp .ge 7, 3) := by decide +kernel
theorem dL_rates_85 : decode cL_rates 85 = .ok (.iconst 1, 1) := by decide +kernel
theorem dL_rates_86 : decode cL_rates 86 = .ok (.goto 4, 3) := by decide +kernel
theorem dL_rates_89 : decode cL_rates 89 = .ok (.iconst 0, 1) := by decide +kernel
theorem dL_rates_90 : decode cL_rates 90 = .ok (.if_icmp .ne 7, 3) := by decide +kernel
theorem dL_rates_93 : decode cL_rates 93 = .ok (.iconst 1, 1) := by decide +kernel
theorem dL_rates_94 : decode cL_rates 94 = .ok (.goto 4, 3) := by decide +kernel
theorem dL_rates_97 : decode cL_rates 97 = .ok (.iconst 0, 1) := by decide +kernel
theorem dL_rates_98 : decode cL_rates 98 = .ok (.ireturn, 1) := by decide +kernel
theorem dL_rises_0 : decode cL_rises 0 = .ok (.iconst 0, 1) := by decide +kernel
theorem dL_rises_1 : decode cL_rises 1 = .ok (.istore_n 1, 1) := by decide +kernel
theorem dL_rises_2 : decode cL_rises 2 = .ok (.iconst 0, 1) := by decide +kernel
theorem dL_rises_3 : decode cL_rises 3 = .ok (.istore_n 2, 1) := by decide +kernel
theorem dL_rises_4 : decode cL_rises 4 = .ok (.iconst 0, 1) := by decide +kernel
theorem dL_rises_5 : decode cL_rises 5 = .ok (.istore_n 3, 1) := by decide +kernel
theorem dL_rises_6 : decode cL_rises 6 = .ok (.iload_n 3, 1) := by decide +kernel
theorem dL_rises_7 : decode cL_rises 7 = .ok (.bipush 12, 2) := by decide +kernel
theorem dL_rises_9 : decode cL_rises 9 = .ok (.if_icmp .ge 55, 3) := by decide +kernel
theorem dL_rises_12 : decode cL_rises 12 = .ok (.aload_n 0, 1) := by decide +kernel
theorem dL_rises_13 : decode cL_rises 13 = .ok (.iload_n 3, 1) := by decide +kernel
theorem dL_rises_14 : decode cL_rises 14 = .ok (.iconst 0, 1) := by decide +kernel
theorem dL_rises_15 : decode cL_rises 15 = .ok (.invokestatic 92, 3) := by decide +kernel
theorem dL_rises_18 : decode cL_rises 18 = .ok (.istore 4, 2) := by decide +kernel
theorem dL_rises_20 : decode cL_rises 20 = .ok (.aload_n 0, 1) := by decide +kernel
theorem dL_rises_21 : decode cL_rises 21 = .ok (.invokestatic 121, 3) := by decide +kernel
theorem dL_rises_24 : decode cL_rises 24 = .ok (.istore 5, 2) := by decide +kernel
theorem dL_rises_26 : decode cL_rises 26 = .ok (.iload_n 1, 1) := by decide +kernel
theorem dL_rises_27 : decode cL_rises 27 = .ok (.iload 4, 2) := by decide +kernel
theorem dL_rises_29 : decode cL_rises 29 = .ok (.iload_n 2, 1) := by decide +kernel
theorem dL_rises_30 : decode cL_rises 30 = .ok (.if_icmp .lt 12, 3) := by decide +kernel
theorem dL_rises_33 : decode cL_rises 33 = .ok (.iload 5, 2) := by decide +kernel
theorem dL_rises_35 : decode cL_rises 35 = .ok (.ifCond .lt 7, 3) := by decide +kernel
theorem dL_rises_38 : decode cL_rises 38 = .ok (.iconst 1, 1) := by decide +kernel
theorem dL_rises_39 : decode cL_rises 39 = .ok (.goto 4, 3) := by decide +kernel
theorem dL_rises_42 : decode cL_rises 42 = .ok (.iconst 0, 1) := by decide +kernel
theorem dL_rises_43 : decode cL_rises 43 = .ok (.iadd, 1) := by decide +kernel
theorem dL_rises_44 : decode cL_rises 44 = .ok (.istore_n 1, 1) := by decide +kernel
theorem dL_rises_45 : decode cL_rises 45 = .ok (.iload 4, 2) := by decide +kernel
theorem dL_rises_47 : decode cL_rises 47 = .ok (.iload_n 2, 1) := by decide +kernel
theorem dL_rises_48 : decode cL_rises 48 = .ok (.if_icmp .le 8, 3) := by decide +kernel
theorem dL_rises_51 : decode cL_rises 51 = .ok (.iload 4, 2) := by decide +kernel
theorem dL_rises_53 : decode cL_rises 53 = .ok (.goto 4, 3) := by decide +kernel
theorem dL_rises_56 : decode cL_rises 56 = .ok (.iload_n 2, 1) := by decide +kernel
theorem dL_rises_57 : decode cL_rises 57 = .ok (.istore_n 2, 1) := by decide +kernel
theorem dL_rises_58 : decode cL_rises 58 = .ok (.iinc 3 1, 3) := by decide +kernel
theorem dL_rises_61 : decode cL_rises 61 = .ok (.goto (-55), 3) := by decide +kernel
theorem dL_rises_64 : decode cL_rises 64 = .ok (.iload_n 1, 1) := by decide +kernel
theorem dL_rises_65 : decode cL_rises 65 = .ok (.ireturn, 1) := by decide +kernel
theorem dL_print_0 : decode cL_print 0 = .ok (.ldc2_w 123, 3) := by decide +kernel
theorem dL_print_3 : decode cL_print 3 = .ok (.lstore_n 1, 1) := by decide +kernel
theorem dL_print_4 : decode cL_print 4 = .ok (.iconst 0, 1) := by decide +kernel
theorem dL_print_5 : decode cL_print 5 = .ok (.istore_n 3, 1) := by decide +kernel
theorem dL_print_6 : decode cL_print 6 = .ok (.iload_n 3, 1) := by decide +kernel
theorem dL_print_7 : decode cL_print 7 = .ok (.bipush 9, 2) := by decide +kernel
theorem dL_print_9 : decode cL_print 9 = .ok (.if_icmp .ge 22, 3) := by decide +kernel
theorem dL_print_12 : decode cL_print 12 = .ok (.ldc2_w 125, 3) := by decide +kernel
theorem dL_print_15 : decode cL_print 15 = .ok (.lload_n 1, 1) := by decide +kernel
theorem dL_print_16 : decode cL_print 16 = .ok (.lmul, 1) := by decide +kernel
theorem dL_print_17 : decode cL_print 17 = .ok (.aload_n 0, 1) := by decide +kernel
theorem dL_print_18 : decode cL_print 18 = .ok (.iload_n 3, 1) := by decide +kernel
theorem dL_print_19 : decode cL_print 19 = .ok (.invokestatic 98, 3) := by decide +kernel
theorem dL_print_22 : decode cL_print 22 = .ok (.i2l, 1) := by decide +kernel
theorem dL_print_23 : decode cL_print 23 = .ok (.ladd, 1) := by decide +kernel
theorem dL_print_24 : decode cL_print 24 = .ok (.lstore_n 1, 1) := by decide +kernel
theorem dL_print_25 : decode cL_print 25 = .ok (.iinc 3 1, 3) := by decide +kernel
theorem dL_print_28 : decode cL_print 28 = .ok (.goto (-22), 3) := by decide +kernel
theorem dL_print_31 : decode cL_print 31 = .ok (.iconst 0, 1) := by decide +kernel
theorem dL_print_32 : decode cL_print 32 = .ok (.istore_n 3, 1) := by decide +kernel
theorem dL_print_33 : decode cL_print 33 = .ok (.iload_n 3, 1) := by decide +kernel
theorem dL_print_34 : decode cL_print 34 = .ok (.bipush 11, 2) := by decide +kernel
theorem dL_print_36 : decode cL_print 36 = .ok (.aload_n 0, 1) := by decide +kernel
theorem dL_print_37 : decode cL_print 37 = .ok (.iconst 0, 1) := by decide +kernel
theorem dL_print_38 : decode cL_print 38 = .ok (.invokestatic 98, 3) := by decide +kernel
theorem dL_print_41 : decode cL_print 41 = .ok (.imul, 1) := by decide +kernel
theorem dL_print_42 : decode cL_print 42 = .ok (.if_icmp .ge 29, 3) := by decide +kernel
theorem dL_print_45 : decode cL_print 45 = .ok (.ldc2_w 125, 3) := by decide +kernel
theorem dL_print_48 : decode cL_print 48 = .ok (.lload_n 1, 1) := by decide +kernel
theorem dL_print_49 : decode cL_print 49 = .ok (.lmul, 1) := by decide +kernel
theorem dL_print_50 : decode cL_print 50 = .ok (.aload_n 0, 1) := by decide +kernel
theorem dL_print_51 : decode cL_print 51 = .ok (.iload_n 3, 1) := by decide +kernel
theorem dL_print_52 : decode cL_print 52 = .ok (.bipush 11, 2) := by decide +kernel
theorem dL_print_54 : decode cL_print 54 = .ok (.idiv, 1) := by decide +kernel
theorem dL_print_55 : decode cL_print 55 = .ok (.iload_n 3, 1) := by decide +kernel
theorem dL_print_56 : decode cL_print 56 = .ok (.bipush 11, 2) := by decide +kernel
theorem dL_print_58 : decode cL_print 58 = .ok (.irem, 1) := by decide +kernel
theorem dL_print_59 : decode cL_print 59 = .ok (.invokestatic 100, 3) := by decide +kernel
theorem dL_print_62 : decode cL_print 62 = .ok (.i2l, 1) := by decide +kernel
theorem dL_print_63 : decode cL_print 63 = .ok (.ladd, 1) := by decide +kernel
theorem dL_print_64 : decode cL_print 64 = .ok (.lstore_n 1, 1) := by decide +kernel
theorem dL_print_65 : decode cL_print 65 = .ok (.iinc 3 1, 3) := by decide +kernel
theorem dL_print_68 : decode cL_print 68 = .ok (.goto (-35), 3) := by decide +kernel
theorem dL_print_71 : decode cL_print 71 = .ok (.iconst 0, 1) := by decide +kernel
theorem dL_print_72 : decode cL_print 72 = .ok (.istore_n 3, 1) := by decide +kernel
theorem dL_print_73 : decode cL_print 73 = .ok (.iload_n 3, 1) := by decide +kernel
theorem dL_print_74 : decode cL_print 74 = .ok (.iconst 4, 1) := by decide +kernel
theorem dL_print_75 : decode cL_print 75 = .ok (.if_icmp .ge 22, 3) := by decide +kernel
theorem dL_print_78 : decode cL_print 78 = .ok (.ldc2_w 125, 3) := by decide +kernel
theorem dL_print_81 : decode cL_print 81 = .ok (.lload_n 1, 1) := by decide +kernel
theorem dL_print_82 : decode cL_print 82 = .ok (.lmul, 1) := by decide +kernel
theorem dL_print_83 : decode cL_print 83 = .ok (.aload_n 0, 1) := by decide +kernel
theorem dL_print_84 : decode cL_print 84 = .ok (.iload_n 3, 1) := by decide +kernel
theorem dL_print_85 : decode cL_print 85 = .ok (.invokestatic 102, 3) := by decide +kernel
theorem dL_print_88 : decode cL_print 88 = .ok (.i2l, 1) := by decide +kernel
theorem dL_print_89 : decode cL_print 89 = .ok (.ladd, 1) := by decide +kernel
theorem dL_print_90 : decode cL_print 90 = .ok (.lstore_n 1, 1) := by decide +kernel
theorem dL_print_91 : decode cL_print 91 = .ok (.iinc 3 1, 3) := by decide +kernel
theorem dL_print_94 : decode cL_print 94 = .ok (.goto (-21), 3) := by decide +kernel
theorem dL_print_97 : decode cL_print 97 = .ok (.ldc2_w 125, 3) := by decide +kernel
theorem dL_print_100 : decode cL_print 100 = .ok (.lload_n 1, 1) := by decide +kernel
theorem dL_print_101 : decode cL_print 101 = .ok (.lmul, 1) := by decide +kernel
theorem dL_print_102 : decode cL_print 102 = .ok (.aload_n 0, 1) := by decide +kernel
theorem dL_print_103 : decode cL_print 103 = .ok (.sipush 600, 3) := by decide +kernel
theorem dL_print_106 : decode cL_print 106 = .ok (.iconst 0, 1) := by decide +kernel
theorem dL_print_107 : decode cL_print 107 = .ok (.invokestatic 104, 3) := by decide +kernel
theorem dL_print_110 : decode cL_print 110 = .ok (.i2l, 1) := by decide +kernel
theorem dL_print_111 : decode cL_print 111 = .ok (.ladd, 1) := by decide +kernel
theorem dL_print_112 : decode cL_print 112 = .ok (.lreturn, 1) := by decide +kernel
theorem dL_sends_0 : decode cL_sends 0 = .ok (.aload_n 0, 1) := by decide +kernel
theorem dL_sends_1 : decode cL_sends 1 = .ok (.iconst 3, 1) := by decide +kernel
theorem dL_sends_2 : decode cL_sends 2 = .ok (.invokestatic 98, 3) := by decide +kernel
theorem dL_sends_5 : decode cL_sends 5 = .ok (.istore_n 3, 1) := by decide +kernel
theorem dL_sends_6 : decode cL_sends 6 = .ok (.aload_n 0, 1) := by decide +kernel
theorem dL_sends_7 : decode cL_sends 7 = .ok (.iconst 4, 1) := by decide +kernel
theorem dL_sends_8 : decode cL_sends 8 = .ok (.invokestatic 98, 3) := by decide +kernel
theorem dL_sends_11 : decode cL_sends 11 = .ok (.istore 4, 2) := by decide +kernel
theorem dL_sends_13 : decode cL_sends 13 = .ok (.aload_n 0, 1) := by decide +kernel
theorem dL_sends_14 : decode cL_sends 14 = .ok (.bipush 7, 2) := by decide +kernel
theorem dL_sends_16 : decode cL_sends 16 = .ok (.invokestatic 98, 3) := by decide +kernel
theorem dL_sends_19 : decode cL_sends 19 = .ok (.istore 5, 2) := by decide +kernel
theorem dL_sends_21 : decode cL_sends 21 = .ok (.aload_n 0, 1) := by decide +kernel
theorem dL_sends_22 : decode cL_sends 22 = .ok (.iconst 0, 1) := by decide +kernel
theorem dL_sends_23 : decode cL_sends 23 = .ok (.invokestatic 98, 3) := by decide +kernel
theorem dL_sends_26 : decode cL_sends 26 = .ok (.istore 6, 2) := by decide +kernel
theorem dL_sends_28 : decode cL_sends 28 = .ok (.aload_n 0, 1) := by decide +kernel
theorem dL_sends_29 : decode cL_sends 29 = .ok (.invokestatic 127, 3) := by decide +kernel
theorem dL_sends_32 : decode cL_sends 32 = .ok (.lstore 7, 2) := by decide +kernel
theorem dL_sends_34 : decode cL_sends 34 = .ok (.iload_n 1, 1) := by decide +kernel
theorem dL_sends_35 : decode cL_sends 35 = .ok (.iload 6, 2) := by decide +kernel
theorem dL_sends_37 : decode cL_sends 37 = .ok (.if_icmp .lt 50, 3) := by decide +kernel
theorem dL_sends_40 : decode cL_sends 40 = .ok (.aload_n 0, 1) := by decide +kernel
theorem dL_sends_41 : decode cL_sends 41 = .ok (.iload_n 1, 1) := by decide +kernel
theorem dL_sends_42 : decode cL_sends 42 = .ok (.invokestatic 84, 3) := by decide +kernel
theorem dL_sends_45 : decode cL_sends 45 = .ok (.ldc 18, 2) := by decide +kernel
theorem dL_sends_47 : decode cL_sends 47 = .ok (.if_icmp .ne 38, 3) := by decide +kernel
theorem dL_sends_50 : decode cL_sends 50 = .ok (.aload_n 0, 1) := by decide +kernel
theorem dL_sends_51 : decode cL_sends 51 = .ok (.iload_n 1, 1) := by decide +kernel
theorem dL_sends_52 : decode cL_sends 52 = .ok (.iconst 1, 1) := by decide +kernel
theorem dL_sends_53 : decode cL_sends 53 = .ok (.invokestatic 87, 3) := by decide +kernel
theorem dL_sends_56 : decode cL_sends 56 = .ok (.ldc 18, 2) := by decide +kernel
theorem dL_sends_58 : decode cL_sends 58 = .ok (.if_icmp .ne 27, 3) := by decide +kernel
theorem dL_sends_61 : decode cL_sends 61 = .ok (.aload_n 0, 1) := by decide +kernel
theorem dL_sends_62 : decode cL_sends 62 = .ok (.iload_n 1, 1) := by decide +kernel
theorem dL_sends_63 : decode cL_sends 63 = .ok (.invokestatic 90, 3) := by decide +kernel
theorem dL_sends_66 : decode cL_sends 66 = .ok (.ldc 18, 2) := by decide +kernel
theorem dL_sends_68 : decode cL_sends 68 = .ok (.if_icmp .ne 17, 3) := by decide +kernel
theorem dL_sends_71 : decode cL_sends 71 = .ok (.aload_n 0, 1) := by decide +kernel
theorem dL_sends_72 : decode cL_sends 72 = .ok (.invokestatic 127, 3) := by decide +kernel
theorem dL_sends_75 : decode cL_sends 75 = .ok (.lload 7, 2) := by decide +kernel
theorem dL_sends_77 : decode cL_sends 77 = .ok (.lcmp, 1) := by decide +kernel
theorem dL_sends_78 : decode cL_sends 78 = .ok (.ifCond .ne 7, 3) := by decide +kernel
theorem dL_sends_81 : decode cL_sends 81 = .ok (.iconst 1, 1) := by decide +kernel
theorem dL_sends_82 : decode cL_sends 82 = .ok (.goto 4, 3) := by decide +kernel
theorem dL_sends_85 : decode cL_sends 85 = .ok (.iconst 0, 1) := by decide +kernel
theorem dL_sends_86 : decode cL_sends 86 = .ok (.ireturn, 1) := by decide +kernel
theorem dL_sends_87 : decode cL_sends 87 = .ok (.aload_n 0, 1) := by decide +kernel
theorem dL_sends_88 : decode cL_sends 88 = .ok (.iload_n 1, 1) := by decide +kernel
theorem dL_sends_89 : decode cL_sends 89 = .ok (.bipush 9, 2) := by decide +kernel
theorem dL_sends_91 : decode cL_sends 91 = .ok (.invokestatic 100, 3) := by decide +kernel
theorem dL_sends_94 : decode cL_sends 94 = .ok (.istore 9, 2) := by decide +kernel
theorem dL_sends_96 : decode cL_sends 96 = .ok (.aload_n 0, 1) := by decide +kernel
theorem dL_sends_97 : decode cL_sends 97 = .ok (.iload_n 1, 1) := by decide +kernel
theorem dL_sends_98 : decode cL_sends 98 = .ok (.bipush 10, 2) := by decide +kernel
theorem dL_sends_100 : decode cL_sends 100 = .ok (.invokestatic 100, 3) := by decide +kernel
theorem dL_sends_103 : decode cL_sends 103 = .ok (.istore 10, 2) := by decide +kernel
theorem dL_sends_105 : decode cL_sends 105 = .ok (.aload_n 0, 1) := by decide +kernel
theorem dL_sends_106 : decode cL_sends 106 = .ok (.iload_n 1, 1) := by decide +kernel
theorem dL_sends_107 : decode cL_sends 107 = .ok (.bipush 8, 2) := by decide +kernel
theorem dL_sends_109 : decode cL_sends 109 = .ok (.invokestatic 100, 3) := by decide +kernel
theorem dL_sends_112 : decode cL_sends 112 = .ok (.istore 11, 2) := by decide +kernel
theorem dL_sends_114 : decode cL_sends 114 = .ok (.aload_n 0, 1) := by decide +kernel
theorem dL_sends_115 : decode cL_sends 115 = .ok (.iload_n 1, 1) := by decide +kernel
theorem dL_sends_116 : decode cL_sends 116 = .ok (.invokestatic 84, 3) := by decide +kernel
theorem dL_sends_119 : decode cL_sends 119 = .ok (.istore 12, 2) := by decide +kernel
theorem dL_sends_121 : decode cL_sends 121 = .ok (.iload 10, 2) := by decide +kernel
theorem dL_sends_123 : decode cL_sends 123 = .ok (.ifCond .ne 57, 3) := by decide +kernel
theorem dL_sends_126 : decode cL_sends 126 = .ok (.iload 12, 2) := by decide +kernel
theorem dL_sends_128 : decode cL_sends 128 = .ok (.bipush 10, 2) := by decide +kernel
theorem dL_sends_130 : decode cL_sends 130 = .ok (.iload 9, 2) := by decide +kernel
theorem dL_sends_132 : decode cL_sends 132 = .ok (.iadd, 1) := by decide +kernel
theorem dL_sends_133 : decode cL_sends 133 = .ok (.if_icmp .ne 43, 3) := by decide +kernel
theorem dL_sends_136 : decode cL_sends 136 = .ok (.aload_n 0, 1) := by decide +kernel
theorem dL_sends_137 : decode cL_sends 137 = .ok (.iconst 3, 1) := by decide +kernel
theorem dL_sends_138 : decode cL_sends 138 = .ok (.invokestatic 98, 3) := by decide +kernel
theorem dL_sends_141 : decode cL_sends 141 = .ok (.iload_n 3, 1) := by decide +kernel
theorem dL_sends_142 : decode cL_sends 142 = .ok (.iload 9, 2) := by decide +kernel
theorem dL_sends_144 : decode cL_sends 144 = .ok (.iadd, 1) := by decide +kernel
theorem dL_sends_145 : decode cL_sends 145 = .ok (.if_icmp .ne 31, 3) := by decide +kernel
theorem dL_sends_148 : decode cL_sends 148 = .ok (.aload_n 0, 1) := by decide +kernel
theorem dL_sends_149 : decode cL_sends 149 = .ok (.iconst 4, 1) := by decide +kernel
theorem dL_sends_150 : decode cL_sends 150 = .ok (.invokestatic 98, 3) := by decide +kernel
theorem dL_sends_153 : decode cL_sends 153 = .ok (.iload 4, 2) := by decide +kernel
theorem dL_sends_155 : decode cL_sends 155 = .ok (.iconst 1, 1) := by decide +kernel
theorem dL_sends_156 : decode cL_sends 156 = .ok (.iadd, 1) := by decide +kernel
theorem dL_sends_157 : decode cL_sends 157 = .ok (.if_icmp .ne 19, 3) := by decide +kernel
theorem dL_sends_160 : decode cL_sends 160 = .ok (.aload_n 0, 1) := by decide +kernel
theorem dL_sends_161 : decode cL_sends 161 = .ok (.iconst 0, 1) := by decide +kernel
theorem dL_sends_162 : decode cL_sends 162 = .ok (.invokestatic 98, 3) := by decide +kernel
theorem dL_sends_165 : decode cL_sends 165 = .ok (.iload 6, 2) := by decide +kernel
theorem dL_sends_167 : decode cL_sends 167 = .ok (.iconst 1, 1) := by decide +kernel
theorem dL_sends_168 : decode cL_sends 168 = .ok (.isub, 1) := by decide +kernel
theorem dL_sends_169 : decode cL_sends 169 = .ok (.if_icmp .ne 7, 3) := by decide +kernel
theorem dL_sends_172 : decode cL_sends 172 = .ok (.iconst 1, 1) := by decide +kernel
theorem dL_sends_173 : decode cL_sends 173 = .ok (.goto 51, 3) := by decide +kernel
theorem dL_sends_176 : decode cL_sends 176 = .ok (.iconst 0, 1) := by decide +kernel
theorem dL_sends_177 : decode cL_sends 177 = .ok (.goto 47, 3) := by decide +kernel
theorem dL_sends_180 : decode cL_sends 180 = .ok (.iload 12, 2) := by decide +kernel
theorem dL_sends_182 : decode cL_sends 182 = .ok (.iload 10, 2) := by decide +kernel
theorem dL_sends_184 : decode cL_sends 184 = .ok (.if_icmp .ne 39, 3) := by decide +kernel
theorem dL_sends_187 : decode cL_sends 187 = .ok (.aload_n 0, 1) := by decide +kernel
theorem dL_sends_188 : decode cL_sends 188 = .ok (.iconst 3, 1) := by decide +kernel
theorem dL_sends_189 : decode cL_sends 189 = .ok (.invokestatic 98, 3) := by decide +kernel
theorem dL_sends_192 : decode cL_sends 192 = .ok (.iload_n 3, 1) := by decide +kernel
theorem dL_sends_193 : decode cL_sends 193 = .ok (.if_icmp .ne 30, 3) := by decide +kernel
theorem dL_sends_196 : decode cL_sends 196 = .ok (.aload_n 0, 1) := by decide +kernel
theorem dL_sends_197 : decode cL_sends 197 = .ok (.bipush 7, 2) := by decide +kernel
theorem dL_sends_199 : decode cL_sends 199 = .ok (.invokestatic 98, 3) := by decide +kernel
theorem dL_sends_202 : decode cL_sends 202 = .ok (.iload 5, 2) := by decide +kernel
theorem dL_sends_204 : decode cL_sends 204 = .ok (.iconst 1, 1) := by decide +kernel
theorem dL_sends_205 : decode cL_sends 205 = .ok (.iadd, 1) := by decide +kernel
theorem dL_sends_206 : decode cL_sends 206 = .ok (.if_icmp .ne 17, 3) := by decide +kernel
theorem dL_sends_209 : decode cL_sends 209 = .ok (.aload_n 0, 1) := by decide +kernel
theorem dL_sends_210 : decode cL_sends 210 = .ok (.iconst 0, 1) := by decide +kernel
theorem dL_sends_211 : decode cL_sends 211 = .ok (.invokestatic 98, 3) := by decide +kernel
theorem dL_sends_214 : decode cL_sends 214 = .ok (.iload 6, 2) := by decide +kernel
theorem dL_sends_216 : decode cL_sends 216 = .ok (.if_icmp .ne 7, 3) := by decide +kernel
theorem dL_sends_219 : decode cL_sends 219 = .ok (.iconst 1, 1) := by decide +kernel
theorem dL_sends_220 : decode cL_sends 220 = .ok (.goto 4, 3) := by decide +kernel
theorem dL_sends_223 : decode cL_sends 223 = .ok (.iconst 0, 1) := by decide +kernel
theorem dL_sends_224 : decode cL_sends 224 = .ok (.istore 13, 2) := by decide +kernel
theorem dL_sends_226 : decode cL_sends 226 = .ok (.iload 13, 2) := by decide +kernel
theorem dL_sends_228 : decode cL_sends 228 = .ok (.ifCond .eq 24, 3) := by decide +kernel
theorem dL_sends_231 : decode cL_sends 231 = .ok (.aload_n 0, 1) := by decide +kernel
theorem dL_sends_232 : decode cL_sends 232 = .ok (.invokestatic 121, 3) := by decide +kernel
theorem dL_sends_235 : decode cL_sends 235 = .ok (.ifCond .lt 17, 3) := by decide +kernel
theorem dL_sends_238 : decode cL_sends 238 = .ok (.aload_n 0, 1) := by decide +kernel
theorem dL_sends_239 : decode cL_sends 239 = .ok (.invokestatic 127, 3) := by decide +kernel
theorem dL_sends_242 : decode cL_sends 242 = .ok (.lload 7, 2) := by decide +kernel
theorem dL_sends_244 : decode cL_sends 244 = .ok (.lcmp, 1) := by decide +kernel
theorem dL_sends_245 : decode cL_sends 245 = .ok (.ifCond .ne 7, 3) := by decide +kernel
theorem dL_sends_248 : decode cL_sends 248 = .ok (.iconst 1, 1) := by decide +kernel
theorem dL_sends_249 : decode cL_sends 249 = .ok (.goto 4, 3) := by decide +kernel
theorem dL_sends_252 : decode cL_sends 252 = .ok (.iconst 0, 1) := by decide +kernel
theorem dL_sends_253 : decode cL_sends 253 = .ok (.istore 13, 2) := by decide +kernel
theorem dL_sends_255 : decode cL_sends 255 = .ok (.aload_n 0, 1) := by decide +kernel
theorem dL_sends_256 : decode cL_sends 256 = .ok (.iload_n 1, 1) := by decide +kernel
theorem dL_sends_257 : decode cL_sends 257 = .ok (.iload 11, 2) := by decide +kernel
theorem dL_sends_259 : decode cL_sends 259 = .ok (.invokestatic 87, 3) := by decide +kernel
theorem dL_sends_262 : decode cL_sends 262 = .ok (.istore 14, 2) := by decide +kernel
theorem dL_sends_264 : decode cL_sends 264 = .ok (.iload 13, 2) := by decide +kernel
theorem dL_sends_266 : decode cL_sends 266 = .ok (.ifCond .eq 44, 3) := by decide +kernel
theorem dL_sends_269 : decode cL_sends 269 = .ok (.iload 14, 2) := by decide +kernel
theorem dL_sends_271 : decode cL_sends 271 = .ok (.iload 10, 2) := by decide +kernel
theorem dL_sends_273 : decode cL_sends 273 = .ok (.ifCond .ne 11, 3) := by decide +kernel
theorem dL_sends_276 : decode cL_sends 276 = .ok (.bipush 10, 2) := by decide +kernel
theorem dL_sends_278 : decode cL_sends 278 = .ok (.iload 9, 2) := by decide +kernel
theorem dL_sends_280 : decode cL_sends 280 = .ok (.iadd, 1) := by decide +kernel
theorem dL_sends_281 : decode cL_sends 281 = .ok (.goto 5, 3) := by decide +kernel
theorem dL_sends_284 : decode cL_sends 284 = .ok (.iload 10, 2) := by decide +kernel
theorem dL_sends_286 : decode cL_sends 286 = .ok (.if_icmp .ne 24, 3) := by decide +kernel
theorem dL_sends_289 : decode cL_sends 289 = .ok (.aload_n 0, 1) := by decide +kernel
theorem dL_sends_290 : decode cL_sends 290 = .ok (.invokestatic 121, 3) := by decide +kernel
theorem dL_sends_293 : decode cL_sends 293 = .ok (.ifCond .lt 17, 3) := by decide +kernel
theorem dL_sends_296 : decode cL_sends 296 = .ok (.aload_n 0, 1) := by decide +kernel
theorem dL_sends_297 : decode cL_sends 297 = .ok (.invokestatic 127, 3) := by decide +kernel
theorem dL_sends_300 : decode cL_sends 300 = .ok (.lload 7, 2) := by decide +kernel
theorem dL_sends_302 : decode cL_sends 302 = .ok (.lcmp, 1) := by decide +kernel
theorem dL_sends_303 : decode cL_sends 303 = .ok (.ifCond .ne 7, 3) := by decide +kernel
theorem dL_sends_306 : decode cL_sends 306 = .ok (.iconst 1, 1) := by decide +kernel
theorem dL_sends_307 : decode cL_sends 307 = .ok (.goto 4, 3) := by decide +kernel
theorem dL_sends_310 : decode cL_sends 310 = .ok (.iconst 0, 1) := by decide +kernel
theorem dL_sends_311 : decode cL_sends 311 = .ok (.istore 13, 2) := by decide +kernel
theorem dL_sends_313 : decode cL_sends 313 = .ok (.iload 11, 2) := by decide +kernel
theorem dL_sends_315 : decode cL_sends 315 = .ok (.iload_n 2, 1) := by decide +kernel
theorem dL_sends_316 : decode cL_sends 316 = .ok (.iadd, 1) := by decide +kernel
theorem dL_sends_317 : decode cL_sends 317 = .ok (.iconst 1, 1) := by decide +kernel
theorem dL_sends_318 : decode cL_sends 318 = .ok (.if_icmp .ge 7, 3) := by decide +kernel
theorem dL_sends_321 : decode cL_sends 321 = .ok (.iconst 1, 1) := by decide +kernel
theorem dL_sends_322 : decode cL_sends 322 = .ok (.goto 23, 3) := by decide +kernel
theorem dL_sends_325 : decode cL_sends 325 = .ok (.iload 11, 2) := by decide +kernel
theorem dL_sends_327 : decode cL_sends 327 = .ok (.iload_n 2, 1) := by decide +kernel
theorem dL_sends_328 : decode cL_sends 328 = .ok (.iadd, 1) := by decide +kernel
theorem dL_sends_329 : decode cL_sends 329 = .ok (.sipush 999, 3) := by decide +kernel
theorem dL_sends_332 : decode cL_sends 332 = .ok (.if_icmp .le 9, 3) := by decide +kernel
theorem dL_sends_335 : decode cL_sends 335 = .ok (.sipush 999, 3) := by decide +kernel
theorem dL_sends_338 : decode cL_sends 338 = .ok (.goto 7, 3) := by decide +kernel
theorem dL_sends_341 : decode cL_sends 341 = .ok (.iload 11, 2) := by decide +kernel
theorem dL_sends_343 : decode cL_sends 343 = .ok (.iload_n 2, 1) := by decide +kernel
theorem dL_sends_344 : decode cL_sends 344 = .ok (.iadd, 1) := by decide +kernel
theorem dL_sends_345 : decode cL_sends 345 = .ok (.istore 15, 2) := by decide +kernel
theorem dL_sends_347 : decode cL_sends 347 = .ok (.iload 15, 2) := by decide +kernel
theorem dL_sends_349 : decode cL_sends 349 = .ok (.iload 11, 2) := by decide +kernel
theorem dL_sends_351 : decode cL_sends 351 = .ok (.if_icmp .le 11, 3) := by decide +kernel
theorem dL_sends_354 : decode cL_sends 354 = .ok (.iload 15, 2) := by decide +kernel
theorem dL_sends_356 : decode cL_sends 356 = .ok (.iload 11, 2) := by decide +kernel
theorem dL_sends_358 : decode cL_sends 358 = .ok (.isub, 1) := by decide +kernel
theorem dL_sends_359 : decode cL_sends 359 = .ok (.goto 8, 3) := by decide +kernel
theorem dL_sends_362 : decode cL_sends 362 = .ok (.iload 11, 2) := by decide +kernel
theorem dL_sends_364 : decode cL_sends 364 = .ok (.iload 15, 2) := by decide +kernel
theorem dL_sends_366 : decode cL_sends 366 = .ok (.isub, 1) := by decide +kernel
theorem dL_sends_367 : decode cL_sends 367 = .ok (.istore 16, 2) := by decide +kernel
theorem dL_sends_369 : decode cL_sends 369 = .ok (.aload_n 0, 1) := by decide +kernel
theorem dL_sends_370 : decode cL_sends 370 = .ok (.bipush 6, 2) := by decide +kernel
theorem dL_sends_372 : decode cL_sends 372 = .ok (.invokestatic 98, 3) := by decide +kernel
theorem dL_sends_375 : decode cL_sends 375 = .ok (.istore 17, 2) := by decide +kernel
theorem dL_sends_377 : decode cL_sends 377 = .ok (.aload_n 0, 1) := by decide +kernel
theorem dL_sends_378 : decode cL_sends 378 = .ok (.iload_n 1, 1) := by decide +kernel
theorem dL_sends_379 : decode cL_sends 379 = .ok (.iload 15, 2) := by decide +kernel
theorem dL_sends_381 : decode cL_sends 381 = .ok (.invokestatic 87, 3) := by decide +kernel
theorem dL_sends_384 : decode cL_sends 384 = .ok (.istore 12, 2) := by decide +kernel
theorem dL_sends_386 : decode cL_sends 386 = .ok (.iload 13, 2) := by decide +kernel
theorem dL_sends_388 : decode cL_sends 388 = .ok (.ifCond .eq 91, 3) := by decide +kernel
theorem dL_sends_391 : decode cL_sends 391 = .ok (.iload 10, 2) := by decide +kernel
theorem dL_sends_393 : decode cL_sends 393 = .ok (.ifCond .le 13, 3) := by decide +kernel
theorem dL_sends_396 : decode cL_sends 396 = .ok (.iload 12, 2) := by decide +kernel
theorem dL_sends_398 : decode cL_sends 398 = .ok (.iload 10, 2) := by decide +kernel
theorem dL_sends_400 : decode cL_sends 400 = .ok (.if_icmp .ne 79, 3) := by decide +kernel
theorem dL_sends_403 : decode cL_sends 403 = .ok (.goto 72, 3) := by decide +kernel
theorem dL_sends_406 : decode cL_sends 406 = .ok (.iload 16, 2) := by decide +kernel
theorem dL_sends_408 : decode cL_sends 408 = .ok (.aload_n 0, 1) := by decide +kernel
theorem dL_sends_409 : decode cL_sends 409 = .ok (.iconst 3, 1) := by decide +kernel
theorem dL_sends_410 : decode cL_sends 410 = .ok (.invokestatic 102, 3) := by decide +kernel
theorem dL_sends_413 : decode cL_sends 413 = .ok (.if_icmp .le 25, 3) := by decide +kernel
theorem dL_sends_416 : decode cL_sends 416 = .ok (.iload 12, 2) := by decide +kernel
theorem dL_sends_418 : decode cL_sends 418 = .ok (.iconst 4, 1) := by decide +kernel
theorem dL_sends_419 : decode cL_sends 419 = .ok (.if_icmp .ne 60, 3) := by decide +kernel
theorem dL_sends_422 : decode cL_sends 422 = .ok (.aload_n 0, 1) := by decide +kernel
theorem dL_sends_423 : decode cL_sends 423 = .ok (.bipush 6, 2) := by decide +kernel
theorem dL_sends_425 : decode cL_sends 425 = .ok (.invokestatic 98, 3) := by decide +kernel
theorem dL_sends_428 : decode cL_sends 428 = .ok (.iload 17, 2) := by decide +kernel
theorem dL_sends_430 : decode cL_sends 430 = .ok (.iconst 1, 1) := by decide +kernel
theorem dL_sends_431 : decode cL_sends 431 = .ok (.iadd, 1) := by decide +kernel
theorem dL_sends_432 : decode cL_sends 432 = .ok (.if_icmp .ne 47, 3) := by decide +kernel
theorem dL_sends_435 : decode cL_sends 435 = .ok (.goto 40, 3) := by decide +kernel
theorem dL_sends_438 : decode cL_sends 438 = .ok (.iload 12, 2) := by decide +kernel
theorem dL_sends_440 : decode cL_sends 440 = .ok (.bipush 9, 2) := by decide +kernel
theorem dL_sends_442 : decode cL_sends 442 = .ok (.if_icmp .le 37, 3) := by decide +kernel
theorem dL_sends_445 : decode cL_sends 445 = .ok (.iload 15, 2) := by decide +kernel
theorem dL_sends_447 : decode cL_sends 447 = .ok (.iload 11, 2) := by decide +kernel
theorem dL_sends_449 : decode cL_sends 449 = .ok (.if_icmp .ge 16, 3) := by decide +kernel
theorem dL_sends_452 : decode cL_sends 452 = .ok (.iload 12, 2) := by decide +kernel
theorem dL_sends_454 : decode cL_sends 454 = .ok (.bipush 10, 2) := by decide +kernel
theorem dL_sends_456 : decode cL_sends 456 = .ok (.iload 9, 2) := by decide +kernel
theorem dL_sends_458 : decode cL_sends 458 = .ok (.iadd, 1) := by decide +kernel
theorem dL_sends_459 : decode cL_sends 459 = .ok (.if_icmp .gt 20, 3) := by decide +kernel
theorem dL_sends_462 : decode cL_sends 462 = .ok (.goto 13, 3) := by decide +kernel
theorem dL_sends_465 : decode cL_sends 465 = .ok (.iload 12, 2) := by decide +kernel
theorem dL_sends_467 : decode cL_sends 467 = .ok (.bipush 10, 2) := by decide +kernel
theorem dL_sends_469 : decode cL_sends 469 = .ok (.iload 9, 2) := by decide +kernel
theorem dL_sends_471 : decode cL_sends 471 = .ok (.iadd, 1) := by decide +kernel
theorem dL_sends_472 : decode cL_sends 472 = .ok (.if_icmp .lt 7, 3) := by decide +kernel
theorem dL_sends_475 : decode cL_sends 475 = .ok (.iconst 1, 1) := by decide +kernel
theorem dL_sends_476 : decode cL_sends 476 = .ok (.goto 4, 3) := by decide +kernel
theorem dL_sends_479 : decode cL_sends 479 = .ok (.iconst 0, 1) := by decide +kernel
theorem dL_sends_480 : decode cL_sends 480 = .ok (.istore 13, 2) := by decide +kernel
theorem dL_sends_482 : decode cL_sends 482 = .ok (.iload 13, 2) := by decide +kernel
theorem dL_sends_484 : decode cL_sends 484 = .ok (.ifCond .eq 24, 3) := by decide +kernel
theorem dL_sends_487 : decode cL_sends 487 = .ok (.aload_n 0, 1) := by decide +kernel
theorem dL_sends_488 : decode cL_sends 488 = .ok (.invokestatic 121, 3) := by decide +kernel
theorem dL_sends_491 : decode cL_sends 491 = .ok (.ifCond .lt 17, 3) := by decide +kernel
theorem dL_sends_494 : decode cL_sends 494 = .ok (.aload_n 0, 1) := by decide +kernel
theorem dL_sends_495 : decode cL_sends 495 = .ok (.invokestatic 127, 3) := by decide +kernel
theorem dL_sends_498 : decode cL_sends 498 = .ok (.lload 7, 2) := by decide +kernel
theorem dL_sends_500 : decode cL_sends 500 = .ok (.lcmp, 1) := by decide +kernel
theorem dL_sends_501 : decode cL_sends 501 = .ok (.ifCond .ne 7, 3) := by decide +kernel
theorem dL_sends_504 : decode cL_sends 504 = .ok (.iconst 1, 1) := by decide +kernel
theorem dL_sends_505 : decode cL_sends 505 = .ok (.goto 4, 3) := by decide +kernel
theorem dL_sends_508 : decode cL_sends 508 = .ok (.iconst 0, 1) := by decide +kernel
theorem dL_sends_509 : decode cL_sends 509 = .ok (.ireturn, 1) := by decide +kernel
theorem dL_ties_0 : decode cL_ties 0 = .ok (.aload_n 0, 1) := by decide +kernel
theorem dL_ties_1 : decode cL_ties 1 = .ok (.iconst 0, 1) := by decide +kernel
theorem dL_ties_2 : decode cL_ties 2 = .ok (.invokestatic 98, 3) := by decide +kernel
theorem dL_ties_5 : decode cL_ties 5 = .ok (.istore_n 3, 1) := by decide +kernel
theorem dL_ties_6 : decode cL_ties 6 = .ok (.iload_n 1, 1) := by decide +kernel
theorem dL_ties_7 : decode cL_ties 7 = .ok (.iload_n 3, 1) := by decide +kernel
theorem dL_ties_8 : decode cL_ties 8 = .ok (.if_icmp .ge 13, 3) := by decide +kernel
theorem dL_ties_11 : decode cL_ties 11 = .ok (.iload_n 2, 1) := by decide +kernel
theorem dL_ties_12 : decode cL_ties 12 = .ok (.iload_n 3, 1) := by decide +kernel
theorem dL_ties_13 : decode cL_ties 13 = .ok (.if_icmp .ge 8, 3) := by decide +kernel
theorem dL_ties_16 : decode cL_ties 16 = .ok (.iload_n 1, 1) := by decide +kernel
theorem dL_ties_17 : decode cL_ties 17 = .ok (.iload_n 2, 1) := by decide +kernel
theorem dL_ties_18 : decode cL_ties 18 = .ok (.if_icmp .ne 34, 3) := by decide +kernel
theorem dL_ties_21 : decode cL_ties 21 = .ok (.iload_n 1, 1) := by decide +kernel
theorem dL_ties_22 : decode cL_ties 22 = .ok (.iload_n 2, 1) := by decide +kernel
theorem dL_ties_23 : decode cL_ties 23 = .ok (.if_icmp .ne 8, 3) := by decide +kernel
theorem dL_ties_26 : decode cL_ties 26 = .ok (.iload_n 1, 1) := by decide +kernel
theorem dL_ties_27 : decode cL_ties 27 = .ok (.iload_n 3, 1) := by decide +kernel
theorem dL_ties_28 : decode cL_ties 28 = .ok (.if_icmp .lt 7, 3) := by decide +kernel
theorem dL_ties_31 : decode cL_ties 31 = .ok (.iconst 1, 1) := by decide +kernel
theorem dL_ties_32 : decode cL_ties 32 = .ok (.goto 19, 3) := by decide +kernel
theorem dL_ties_35 : decode cL_ties 35 = .ok (.aload_n 0, 1) := by decide +kernel
theorem dL_ties_36 : decode cL_ties 36 = .ok (.iload_n 1, 1) := by decide +kernel
theorem dL_ties_37 : decode cL_ties 37 = .ok (.iload_n 2, 1) := by decide +kernel
theorem dL_ties_38 : decode cL_ties 38 = .ok (.invokestatic 131, 3) := by decide +kernel
theorem dL_ties_41 : decode cL_ties 41 = .ok (.ldc 25, 2) := by decide +kernel
theorem dL_ties_43 : decode cL_ties 43 = .ok (.if_icmp .ne 7, 3) := by decide +kernel
theorem dL_ties_46 : decode cL_ties 46 = .ok (.iconst 1, 1) := by decide +kernel
theorem dL_ties_47 : decode cL_ties 47 = .ok (.goto 4, 3) := by decide +kernel
theorem dL_ties_50 : decode cL_ties 50 = .ok (.iconst 0, 1) := by decide +kernel
theorem dL_ties_51 : decode cL_ties 51 = .ok (.ireturn, 1) := by decide +kernel
theorem dL_ties_52 : decode cL_ties 52 = .ok (.aload_n 0, 1) := by decide +kernel
theorem dL_ties_53 : decode cL_ties 53 = .ok (.invokestatic 127, 3) := by decide +kernel
theorem dL_ties_56 : decode cL_ties 56 = .ok (.lstore 4, 2) := by decide +kernel
theorem dL_ties_58 : decode cL_ties 58 = .ok (.aload_n 0, 1) := by decide +kernel
theorem dL_ties_59 : decode cL_ties 59 = .ok (.iload_n 1, 1) := by decide +kernel
theorem dL_ties_60 : decode cL_ties 60 = .ok (.invokestatic 106, 3) := by decide +kernel
theorem dL_ties_63 : decode cL_ties 63 = .ok (.istore 6, 2) := by decide +kernel
theorem dL_ties_65 : decode cL_ties 65 = .ok (.iconst (-1), 1) := by decide +kernel
theorem dL_ties_66 : decode cL_ties 66 = .ok (.istore 7, 2) := by decide +kernel
theorem dL_ties_68 : decode cL_ties 68 = .ok (.iconst (-1), 1) := by decide +kernel
theorem dL_ties_69 : decode cL_ties 69 = .ok (.istore 8, 2) := by decide +kernel
theorem dL_ties_71 : decode cL_ties 71 = .ok (.iconst 1, 1) := by decide +kernel
theorem dL_ties_72 : decode cL_ties 72 = .ok (.istore 9, 2) := by decide +kernel
theorem dL_ties_74 : decode cL_ties 74 = .ok (.iconst 0, 1) := by decide +kernel
theorem dL_ties_75 : decode cL_ties 75 = .ok (.istore 10, 2) := by decide +kernel
theorem dL_ties_77 : decode cL_ties 77 = .ok (.iload 10, 2) := by decide +kernel
theorem dL_ties_79 : decode cL_ties 79 = .ok (.iconst 3, 1) := by decide +kernel
theorem dL_ties_80 : decode cL_ties 80 = .ok (.if_icmp .ge 109, 3) := by decide +kernel
theorem dL_ties_83 : decode cL_ties 83 = .ok (.aload_n 0, 1) := by decide +kernel
theorem dL_ties_84 : decode cL_ties 84 = .ok (.iload_n 1, 1) := by decide +kernel
theorem dL_ties_85 : decode cL_ties 85 = .ok (.iconst 0, 1) := by decide +kernel
theorem dL_ties_86 : decode cL_ties 86 = .ok (.iload 10, 2) := by decide +kernel
theorem dL_ties_88 : decode cL_ties 88 = .ok (.invokestatic 81, 3) := by decide +kernel
theorem dL_ties_91 : decode cL_ties 91 = .ok (.istore 11, 2) := by decide +kernel
theorem dL_ties_93 : decode cL_ties 93 = .ok (.aload_n 0, 1) := by decide +kernel
theorem dL_ties_94 : decode cL_ties 94 = .ok (.iload_n 1, 1) := by decide +kernel
theorem dL_ties_95 : decode cL_ties 95 = .ok (.bipush 9, 2) := by decide +kernel
theorem dL_ties_97 : decode cL_ties 97 = .ok (.invokestatic 100, 3) := by decide +kernel
theorem dL_ties_100 : decode cL_ties 100 = .ok (.istore 12, 2) := by decide +kernel
theorem dL_ties_102 : decode cL_ties 102 = .ok (.aload_n 0, 1) := by decide +kernel
theorem dL_ties_103 : decode cL_ties 103 = .ok (.iload_n 1, 1) := by decide +kernel
theorem dL_ties_104 : decode cL_ties 104 = .ok (.bipush 10, 2) := by decide +kernel
theorem dL_ties_106 : decode cL_ties 106 = .ok (.invokestatic 100, 3) := by decide +kernel
theorem dL_ties_109 : decode cL_ties 109 = .ok (.ifCond .ne 19, 3) := by decide +kernel
theorem dL_ties_112 : decode cL_ties 112 = .ok (.iload 8, 2) := by decide +kernel
theorem dL_ties_114 : decode cL_ties 114 = .ok (.ifCond .lt 10, 3) := by decide +kernel
theorem dL_ties_117 : decode cL_ties 117 = .ok (.iload 12, 2) := by decide +kernel
theorem dL_ties_119 : decode cL_ties 119 = .ok (.iload 7, 2) := by decide +kernel
theorem dL_ties_121 : decode cL_ties 121 = .ok (.if_icmp .ge 7, 3) := by decide +kernel
theorem dL_ties_124 : decode cL_ties 124 = .ok (.iconst 1, 1) := by decide +kernel
theorem dL_ties_125 : decode cL_ties 125 = .ok (.goto 4, 3) := by decide +kernel
theorem dL_ties_128 : decode cL_ties 128 = .ok (.iconst 0, 1) := by decide +kernel
theorem dL_ties_129 : decode cL_ties 129 = .ok (.istore 13, 2) := by decide +kernel
theorem dL_ties_131 : decode cL_ties 131 = .ok (.iload 13, 2) := by decide +kernel
theorem dL_ties_133 : decode cL_ties 133 = .ok (.ifCond .eq 8, 3) := by decide +kernel
theorem dL_ties_136 : decode cL_ties 136 = .ok (.iload 10, 2) := by decide +kernel
theorem dL_ties_138 : decode cL_ties 138 = .ok (.goto 5, 3) := by decide +kernel
theorem dL_ties_141 : decode cL_ties 141 = .ok (.iload 8, 2) := by decide +kernel
theorem dL_ties_143 : decode cL_ties 143 = .ok (.istore 8, 2) := by decide +kernel
theorem dL_ties_145 : decode cL_ties 145 = .ok (.iload 13, 2) := by decide +kernel
theorem dL_ties_147 : decode cL_ties 147 = .ok (.ifCond .eq 8, 3) := by decide +kernel
theorem dL_ties_150 : decode cL_ties 150 = .ok (.iload 12, 2) := by decide +kernel
theorem dL_ties_152 : decode cL_ties 152 = .ok (.goto 5, 3) := by decide +kernel
theorem dL_ties_155 : decode cL_ties 155 = .ok (.iload 7, 2) := by decide +kernel
theorem dL_ties_157 : decode cL_ties 157 = .ok (.istore 7, 2) := by decide +kernel
theorem dL_ties_159 : decode cL_ties 159 = .ok (.iload 9, 2) := by decide +kernel
theorem dL_ties_161 : decode cL_ties 161 = .ok (.ifCond .eq 19, 3) := by decide +kernel
theorem dL_ties_164 : decode cL_ties 164 = .ok (.iload 11, 2) := by decide +kernel
theorem dL_ties_166 : decode cL_ties 166 = .ok (.ifCond .lt 14, 3) := by decide +kernel
theorem dL_ties_169 : decode cL_ties 169 = .ok (.aload_n 0, 1) := by decide +kernel
theorem dL_ties_170 : decode cL_ties 170 = .ok (.invokestatic 121, 3) := by decide +kernel
theorem dL_ties_173 : decode cL_ties 173 = .ok (.ifCond .lt 7, 3) := by decide +kernel
theorem dL_ties_176 : decode cL_ties 176 = .ok (.iconst 1, 1) := by decide +kernel
theorem dL_ties_177 : decode cL_ties 177 = .ok (.goto 4, 3) := by decide +kernel
theorem dL_ties_180 : decode cL_ties 180 = .ok (.iconst 0, 1) := by decide +kernel
theorem dL_ties_181 : decode cL_ties 181 = .ok (.istore 9, 2) := by decide +kernel
theorem dL_ties_183 : decode cL_ties 183 = .ok (.iinc 10 1, 3) := by decide +kernel
theorem dL_ties_186 : decode cL_ties 186 = .ok (.goto (-109), 3) := by decide +kernel
theorem dL_ties_189 : decode cL_ties 189 = .ok (.aload_n 0, 1) := by decide +kernel
theorem dL_ties_190 : decode cL_ties 190 = .ok (.iload_n 1, 1) := by decide +kernel
theorem dL_ties_191 : decode cL_ties 191 = .ok (.iload_n 2, 1) := by decide +kernel
theorem dL_ties_192 : decode cL_ties 192 = .ok (.invokestatic 131, 3) := by decide +kernel
theorem dL_ties_195 : decode cL_ties 195 = .ok (.istore 10, 2) := by decide +kernel
theorem dL_ties_197 : decode cL_ties 197 = .ok (.iload 9, 2) := by decide +kernel
theorem dL_ties_199 : decode cL_ties 199 = .ok (.ifCond .eq 35, 3) := by decide +kernel
theorem dL_ties_202 : decode cL_ties 202 = .ok (.iload 8, 2) := by decide +kernel
theorem dL_ties_204 : decode cL_ties 204 = .ok (.iload 6, 2) := by decide +kernel
theorem dL_ties_206 : decode cL_ties 206 = .ok (.if_icmp .ne 28, 3) := by decide +kernel
theorem dL_ties_209 : decode cL_ties 209 = .ok (.iload 10, 2) := by decide +kernel
theorem dL_ties_211 : decode cL_ties 211 = .ok (.aload_n 0, 1) := by decide +kernel
theorem dL_ties_212 : decode cL_ties 212 = .ok (.iload_n 2, 1) := by decide +kernel
theorem dL_ties_213 : decode cL_ties 213 = .ok (.iload_n 1, 1) := by decide +kernel
theorem dL_ties_214 : decode cL_ties 214 = .ok (.invokestatic 131, 3) := by decide +kernel
theorem dL_ties_217 : decode cL_ties 217 = .ok (.if_icmp .ne 17, 3) := by decide +kernel
theorem dL_ties_220 : decode cL_ties 220 = .ok (.aload_n 0, 1) := by decide +kernel
theorem dL_ties_221 : decode cL_ties 221 = .ok (.invokestatic 127, 3) := by decide +kernel
theorem dL_ties_224 : decode cL_ties 224 = .ok (.lload 4, 2) := by decide +kernel
theorem dL_ties_226 : decode cL_ties 226 = .ok (.lcmp, 1) := by decide +kernel
theorem dL_ties_227 : decode cL_ties 227 = .ok (.ifCond .ne 7, 3) := by decide +kernel
theorem dL_ties_230 : decode cL_ties 230 = .ok (.iconst 1, 1) := by decide +kernel
theorem dL_ties_231 : decode cL_ties 231 = .ok (.goto 4, 3) := by decide +kernel
theorem dL_ties_234 : decode cL_ties 234 = .ok (.iconst 0, 1) := by decide +kernel
theorem dL_ties_235 : decode cL_ties 235 = .ok (.istore 9, 2) := by decide +kernel
theorem dL_ties_237 : decode cL_ties 237 = .ok (.iload 9, 2) := by decide +kernel
theorem dL_ties_239 : decode cL_ties 239 = .ok (.ifCond .eq 160, 3) := by decide +kernel
theorem dL_ties_242 : decode cL_ties 242 = .ok (.iload 10, 2) := by decide +kernel
theorem dL_ties_244 : decode cL_ties 244 = .ok (.ifCond .lt 155, 3) := by decide +kernel
theorem dL_ties_247 : decode cL_ties 247 = .ok (.aload_n 0, 1) := by decide +kernel
theorem dL_ties_248 : decode cL_ties 248 = .ok (.iconst 0, 1) := by decide +kernel
theorem dL_ties_249 : decode cL_ties 249 = .ok (.invokestatic 108, 3) := by decide +kernel
theorem dL_ties_252 : decode cL_ties 252 = .ok (.istore 11, 2) := by decide +kernel
theorem dL_ties_254 : decode cL_ties 254 = .ok (.iload_n 1, 1) := by decide +kernel
theorem dL_ties_255 : decode cL_ties 255 = .ok (.iload_n 2, 1) := by decide +kernel
theorem dL_ties_256 : decode cL_ties 256 = .ok (.if_icmp .le 7, 3) := by decide +kernel
theorem dL_ties_259 : decode cL_ties 259 = .ok (.iload_n 1, 1) := by decide +kernel
theorem dL_ties_260 : decode cL_ties 260 = .ok (.goto 4, 3) := by decide +kernel
theorem dL_ties_263 : decode cL_ties 263 = .ok (.iload_n 2, 1) := by decide +kernel
theorem dL_ties_264 : decode cL_ties 264 = .ok (.istore 12, 2) := by decide +kernel
theorem dL_ties_266 : decode cL_ties 266 = .ok (.iload_n 1, 1) := by decide +kernel
theorem dL_ties_267 : decode cL_ties 267 = .ok (.iload_n 2, 1) := by decide +kernel
theorem dL_ties_268 : decode cL_ties 268 = .ok (.if_icmp .le 7, 3) := by decide +kernel
theorem dL_ties_271 : decode cL_ties 271 = .ok (.iload_n 2, 1) := by decide +kernel
theorem dL_ties_272 : decode cL_ties 272 = .ok (.goto 4, 3) := by decide +kernel
theorem dL_ties_275 : decode cL_ties 275 = .ok (.iload_n 1, 1) := by decide +kernel
theorem dL_ties_276 : decode cL_ties 276 = .ok (.istore 13, 2) := by decide +kernel
theorem dL_ties_278 : decode cL_ties 278 = .ok (.aload_n 0, 1) := by decide +kernel
theorem dL_ties_279 : decode cL_ties 279 = .ok (.iload 12, 2) := by decide +kernel
theorem dL_ties_281 : decode cL_ties 281 = .ok (.invokestatic 90, 3) := by decide +kernel
theorem dL_ties_284 : decode cL_ties 284 = .ok (.istore 14, 2) := by decide +kernel
theorem dL_ties_286 : decode cL_ties 286 = .ok (.aload_n 0, 1) := by decide +kernel
theorem dL_ties_287 : decode cL_ties 287 = .ok (.iload 13, 2) := by decide +kernel
theorem dL_ties_289 : decode cL_ties 289 = .ok (.invokestatic 90, 3) := by decide +kernel
theorem dL_ties_292 : decode cL_ties 292 = .ok (.istore 14, 2) := by decide +kernel
theorem dL_ties_294 : decode cL_ties 294 = .ok (.iload 14, 2) := by decide +kernel
theorem dL_ties_296 : decode cL_ties 296 = .ok (.iload_n 3, 1) := by decide +kernel
theorem dL_ties_297 : decode cL_ties 297 = .ok (.iconst 2, 1) := by decide +kernel
theorem dL_ties_298 : decode cL_ties 298 = .ok (.isub, 1) := by decide +kernel
theorem dL_ties_299 : decode cL_ties 299 = .ok (.if_icmp .ne 97, 3) := by decide +kernel
theorem dL_ties_302 : decode cL_ties 302 = .ok (.aload_n 0, 1) := by decide +kernel
theorem dL_ties_303 : decode cL_ties 303 = .ok (.iconst 1, 1) := by decide +kernel
theorem dL_ties_304 : decode cL_ties 304 = .ok (.invokestatic 108, 3) := by decide +kernel
theorem dL_ties_307 : decode cL_ties 307 = .ok (.iload 10, 2) := by decide +kernel
theorem dL_ties_309 : decode cL_ties 309 = .ok (.iadd, 1) := by decide +kernel
theorem dL_ties_310 : decode cL_ties 310 = .ok (.iload 11, 2) := by decide +kernel
theorem dL_ties_312 : decode cL_ties 312 = .ok (.if_icmp .lt 84, 3) := by decide +kernel
theorem dL_ties_315 : decode cL_ties 315 = .ok (.aload_n 0, 1) := by decide +kernel
theorem dL_ties_316 : decode cL_ties 316 = .ok (.invokestatic 121, 3) := by decide +kernel
theorem dL_ties_319 : decode cL_ties 319 = .ok (.ifCond .lt 77, 3) := by decide +kernel
theorem dL_ties_322 : decode cL_ties 322 = .ok (.aload_n 0, 1) := by decide +kernel
theorem dL_ties_323 : decode cL_ties 323 = .ok (.invokestatic 121, 3) := by decide +kernel
theorem dL_ties_326 : decode cL_ties 326 = .ok (.ifCond .lt 70, 3) := by decide +kernel
theorem dL_ties_329 : decode cL_ties 329 = .ok (.aload_n 0, 1) := by decide +kernel
theorem dL_ties_330 : decode cL_ties 330 = .ok (.invokestatic 127, 3) := by decide +kernel
theorem dL_ties_333 : decode cL_ties 333 = .ok (.lload 4, 2) := by decide +kernel
theorem dL_ties_335 : decode cL_ties 335 = .ok (.lcmp, 1) := by decide +kernel
theorem dL_ties_336 : decode cL_ties 336 = .ok (.ifCond .ne 60, 3) := by decide +kernel
theorem dL_ties_339 : decode cL_ties 339 = .ok (.aload_n 0, 1) := by decide +kernel
theorem dL_ties_340 : decode cL_ties 340 = .ok (.iload_n 1, 1) := by decide +kernel
theorem dL_ties_341 : decode cL_ties 341 = .ok (.iconst 4, 1) := by decide +kernel
theorem dL_ties_342 : decode cL_ties 342 = .ok (.invokestatic 100, 3) := by decide +kernel
theorem dL_ties_345 : decode cL_ties 345 = .ok (.aload_n 0, 1) := by decide +kernel
theorem dL_ties_346 : decode cL_ties 346 = .ok (.iload_n 2, 1) := by decide +kernel
theorem dL_ties_347 : decode cL_ties 347 = .ok (.iconst 4, 1) := by decide +kernel
theorem dL_ties_348 : decode cL_ties 348 = .ok (.invokestatic 100, 3) := by decide +kernel
theorem dL_ties_351 : decode cL_ties 351 = .ok (.if_icmp .ne 45, 3) := by decide +kernel
theorem dL_ties_354 : decode cL_ties 354 = .ok (.aload_n 0, 1) := by decide +kernel
theorem dL_ties_355 : decode cL_ties 355 = .ok (.iload_n 1, 1) := by decide +kernel
theorem dL_ties_356 : decode cL_ties 356 = .ok (.bipush 10, 2) := by decide +kernel
theorem dL_ties_358 : decode cL_ties 358 = .ok (.invokestatic 100, 3) := by decide +kernel
theorem dL_ties_361 : decode cL_ties 361 = .ok (.ifCond .ne 35, 3) := by decide +kernel
theorem dL_ties_364 : decode cL_ties 364 = .ok (.aload_n 0, 1) := by decide +kernel
theorem dL_ties_365 : decode cL_ties 365 = .ok (.iload_n 2, 1) := by decide +kernel
theorem dL_ties_366 : decode cL_ties 366 = .ok (.bipush 10, 2) := by decide +kernel
theorem dL_ties_368 : decode cL_ties 368 = .ok (.invokestatic 100, 3) := by decide +kernel
theorem dL_ties_371 : decode cL_ties 371 = .ok (.ifCond .ne 25, 3) := by decide +kernel
theorem dL_ties_374 : decode cL_ties 374 = .ok (.aload_n 0, 1) := by decide +kernel
theorem dL_ties_375 : decode cL_ties 375 = .ok (.iload_n 1, 1) := by decide +kernel
theorem dL_ties_376 : decode cL_ties 376 = .ok (.iconst 3, 1) := by decide +kernel
theorem dL_ties_377 : decode cL_ties 377 = .ok (.invokestatic 100, 3) := by decide +kernel
theorem dL_ties_380 : decode cL_ties 380 = .ok (.aload_n 0, 1) := by decide +kernel
theorem dL_ties_381 : decode cL_ties 381 = .ok (.iload_n 2, 1) := by decide +kernel
theorem dL_ties_382 : decode cL_ties 382 = .ok (.iconst 3, 1) := by decide +kernel
theorem dL_ties_383 : decode cL_ties 383 = .ok (.invokestatic 100, 3) := by decide +kernel
theorem dL_ties_386 : decode cL_ties 386 = .ok (.iadd, 1) := by decide +kernel
theorem dL_ties_387 : decode cL_ties 387 = .ok (.bipush 100, 2) := by decide +kernel
theorem dL_ties_389 : decode cL_ties 389 = .ok (.if_icmp .ge 7, 3) := by decide +kernel
theorem dL_ties_392 : decode cL_ties 392 = .ok (.iconst 1, 1) := by decide +kernel
theorem dL_ties_393 : decode cL_ties 393 = .ok (.goto 4, 3) := by decide +kernel
theorem dL_ties_396 : decode cL_ties 396 = .ok (.iconst 0, 1) := by decide +kernel
theorem dL_ties_397 : decode cL_ties 397 = .ok (.istore 9, 2) := by decide +kernel
theorem dL_ties_399 : decode cL_ties 399 = .ok (.iload 9, 2) := by decide +kernel
theorem dL_ties_401 : decode cL_ties 401 = .ok (.ireturn, 1) := by decide +kernel
theorem dL_law_0 : decode cL_law 0 = .ok (.new 11, 3) := by decide +kernel
theorem dL_law_3 : decode cL_law 3 = .ok (.dup, 1) := by decide +kernel
theorem dL_law_4 : decode cL_law 4 = .ok (.invokespecial 133, 3) := by decide +kernel
theorem dL_law_7 : decode cL_law 7 = .ok (.astore_n 1, 1) := by decide +kernel
theorem dL_law_8 : decode cL_law 8 = .ok (.aload_n 1, 1) := by decide +kernel
theorem dL_law_9 : decode cL_law 9 = .ok (.invokestatic 134, 3) := by decide +kernel
theorem dL_law_12 : decode cL_law 12 = .ok (.ifCond .eq 14, 3) := by decide +kernel
theorem dL_law_15 : decode cL_law 15 = .ok (.aload_n 1, 1) := by decide +kernel
theorem dL_law_16 : decode cL_law 16 = .ok (.invokestatic 138, 3) := by decide +kernel
theorem dL_law_19 : decode cL_law 19 = .ok (.ifCond .eq 7, 3) := by decide +kernel
theorem dL_law_22 : decode cL_law 22 = .ok (.iconst 1, 1) := by decide +kernel
theorem dL_law_23 : decode cL_law 23 = .ok (.goto 4, 3) := by decide +kernel
theorem dL_law_26 : decode cL_law 26 = .ok (.iconst 0, 1) := by decide +kernel
theorem dL_law_27 : decode cL_law 27 = .ok (.istore_n 2, 1) := by decide +kernel
theorem dL_law_28 : decode cL_law 28 = .ok (.iconst 0, 1) := by decide +kernel
theorem dL_law_29 : decode cL_law 29 = .ok (.istore_n 3, 1) := by decide +kernel
theorem dL_law_30 : decode cL_law 30 = .ok (.iload_n 3, 1) := by decide +kernel
theorem dL_law_31 : decode cL_law 31 = .ok (.bipush 42, 2) := by decide +kernel
theorem dL_law_33 : decode cL_law 33 = .ok (.if_icmp .ge 336, 3) := by decide +kernel
theorem dL_law_36 : decode cL_law 36 = .ok (.iload_n 2, 1) := by decide +kernel
theorem dL_law_37 : decode cL_law 37 = .ok (.ifCond .eq 332, 3) := by decide +kernel
theorem dL_law_40 : decode cL_law 40 = .ok (.aload_n 0, 1) := by decide +kernel
theorem dL_law_41 : decode cL_law 41 = .ok (.iconst 2, 1) := by decide +kernel
theorem dL_law_42 : decode cL_law 42 = .ok (.iload_n 3, 1) := by decide +kernel
theorem dL_law_43 : decode cL_law 43 = .ok (.imul, 1) := by decide +kernel
theorem dL_law_44 : decode cL_law 44 = .ok (.invokestatic 141, 3) := by decide +kernel
theorem dL_law_47 : decode cL_law 47 = .ok (.istore 4, 2) := by decide +kernel
theorem dL_law_49 : decode cL_law 49 = .ok (.aload_n 0, 1) := by decide +kernel
theorem dL_law_50 : decode cL_law 50 = .ok (.iconst 2, 1) := by decide +kernel
theorem dL_law_51 : decode cL_law 51 = .ok (.iload_n 3, 1) := by decide +kernel
theorem dL_law_52 : decode cL_law 52 = .ok (.imul, 1) := by decide +kernel
theorem dL_law_53 : decode cL_law 53 = .ok (.iconst 1, 1) := by decide +kernel
theorem dL_law_54 : decode cL_law 54 = .ok (.iadd, 1) := by decide +kernel
theorem dL_law_55 : decode cL_law 55 = .ok (.invokestatic 141, 3) := by decide +kernel
theorem dL_law_58 : decode cL_law 58 = .ok (.istore 5, 2) := by decide +kernel
theorem dL_law_60 : decode cL_law 60 = .ok (.aload_n 1, 1) := by decide +kernel
theorem dL_law_61 : decode cL_law 61 = .ok (.bipush 9, 2) := by decide +kernel
theorem dL_law_63 : decode cL_law 63 = .ok (.invokestatic 98, 3) := by decide +kernel
theorem dL_law_66 : decode cL_law 66 = .ok (.istore 6, 2) := by decide +kernel
theorem dL_law_68 : decode cL_law 68 = .ok (.aload_n 1, 1) := by decide +kernel
theorem dL_law_69 : decode cL_law 69 = .ok (.invokestatic 127, 3) := by decide +kernel
theorem dL_law_72 : decode cL_law 72 = .ok (.lstore 7, 2) := by decide +kernel
theorem dL_law_74 : decode cL_law 74 = .ok (.iload_n 3, 1) := by decide +kernel
theorem dL_law_75 : decode cL_law 75 = .ok (.iconst 4, 1) := by decide +kernel
theorem dL_law_76 : decode cL_law 76 = .ok (.if_icmp .ge 59, 3) := by decide +kernel
theorem dL_law_79 : decode cL_law 79 = .ok (.aload_n 1, 1) := by decide +kernel
theorem dL_law_80 : decode cL_law 80 = .ok (.iconst 1, 1) := by decide +kernel
theorem dL_law_81 : decode cL_law 81 = .ok (.iload 4, 2) := by decide +kernel
theorem dL_law_83 : decode cL_law 83 = .ok (.bipush 30, 2) := by decide +kernel
theorem dL_law_85 : decode cL_law 85 = .ok (.invokestatic 73, 3) := by decide +kernel
theorem dL_law_88 : decode cL_law 88 = .ok (.iadd, 1) := by decide +kernel
theorem dL_law_89 : decode cL_law 89 = .ok (.iconst 1, 1) := by decide +kernel
theorem dL_law_90 : decode cL_law 90 = .ok (.iload 4, 2) := by decide +kernel
theorem dL_law_92 : decode cL_law 92 = .ok (.iconst 5, 1) := by decide +kernel
theorem dL_law_93 : decode cL_law 93 = .ok (.ishr, 1) := by decide +kernel
theorem dL_law_94 : decode cL_law 94 = .ok (.bipush 30, 2) := by decide +kernel
theorem dL_law_96 : decode cL_law 96 = .ok (.invokestatic 73, 3) := by decide +kernel
theorem dL_law_99 : decode cL_law 99 = .ok (.iadd, 1) := by decide +kernel
theorem dL_law_100 : decode cL_law 100 = .ok (.iconst 1, 1) := by decide +kernel
theorem dL_law_101 : decode cL_law 101 = .ok (.iload 4, 2) := by decide +kernel
theorem dL_law_103 : decode cL_law 103 = .ok (.bipush 10, 2) := by decide +kernel
theorem dL_law_105 : decode cL_law 105 = .ok (.ishr, 1) := by decide +kernel
theorem dL_law_106 : decode cL_law 106 = .ok (.bipush 30, 2) := by decide +kernel
theorem dL_law_108 : decode cL_law 108 = .ok (.invokestatic 73, 3) := by decide +kernel
theorem dL_law_111 : decode cL_law 111 = .ok (.iadd, 1) := by decide +kernel
theorem dL_law_112 : decode cL_law 112 = .ok (.iconst 1, 1) := by decide +kernel
theorem dL_law_113 : decode cL_law 113 = .ok (.iload 5, 2) := by decide +kernel
theorem dL_law_115 : decode cL_law 115 = .ok (.bipush 30, 2) := by decide +kernel
theorem dL_law_117 : decode cL_law 117 = .ok (.invokestatic 73, 3) := by decide +kernel
theorem dL_law_120 : decode cL_law 120 = .ok (.iadd, 1) := by decide +kernel
theorem dL_law_121 : decode cL_law 121 = .ok (.iload 5, 2) := by decide +kernel
theorem dL_law_123 : decode cL_law 123 = .ok (.iconst 5, 1) := by decide +kernel
theorem dL_law_124 : decode cL_law 124 = .ok (.ishr, 1) := by decide +kernel
theorem dL_law_125 : decode cL_law 125 = .ok (.iconst 2, 1) := by decide +kernel
theorem dL_law_126 : decode cL_law 126 = .ok (.invokestatic 73, 3) := by decide +kernel
theorem dL_law_129 : decode cL_law 129 = .ok (.invokestatic 78, 3) := by decide +kernel
theorem dL_law_132 : decode cL_law 132 = .ok (.goto 11, 3) := by decide +kernel
theorem dL_law_135 : decode cL_law 135 = .ok (.aload_n 1, 1) := by decide +kernel
theorem dL_law_136 : decode cL_law 136 = .ok (.iload 4, 2) := by decide +kernel
theorem dL_law_138 : decode cL_law 138 = .ok (.iload 5, 2) := by decide +kernel
