theorem dX3_follow_296 : decode cX3_follow 296 = .ok (.iconst 2, 1) := by decide +kernel
theorem dX3_follow_297 : decode cX3_follow 297 = .ok (.iadd, 1) := by decide +kernel
theorem dX3_follow_298 : decode cX3_follow 298 = .ok (.laload, 1) := by decide +kernel
theorem dX3_follow_299 : decode cX3_follow 299 = .ok (.lastore, 1) := by decide +kernel
theorem dX3_follow_300 : decode cX3_follow 300 = .ok (.aload_n 0, 1) := by decide +kernel
theorem dX3_follow_301 : decode cX3_follow 301 = .ok (.getfield 35, 3) := by decide +kernel
theorem dX3_follow_304 : decode cX3_follow 304 = .ok (.iconst 4, 1) := by decide +kernel
theorem dX3_follow_305 : decode cX3_follow 305 = .ok (.iload_n 1, 1) := by decide +kernel
theorem dX3_follow_306 : decode cX3_follow 306 = .ok (.imul, 1) := by decide +kernel
theorem dX3_follow_307 : decode cX3_follow 307 = .ok (.iconst 3, 1) := by decide +kernel
theorem dX3_follow_308 : decode cX3_follow 308 = .ok (.iadd, 1) := by decide +kernel
theorem dX3_follow_309 : decode cX3_follow 309 = .ok (.aload_n 0, 1) := by decide +kernel
theorem dX3_follow_310 : decode cX3_follow 310 = .ok (.getfield 19, 3) := by decide +kernel
theorem dX3_follow_313 : decode cX3_follow 313 = .ok (.iconst 4, 1) := by decide +kernel
theorem dX3_follow_314 : decode cX3_follow 314 = .ok (.iload_n 3, 1) := by decide +kernel
theorem dX3_follow_315 : decode cX3_follow 315 = .ok (.imul, 1) := by decide +kernel
theorem dX3_follow_316 : decode cX3_follow 316 = .ok (.iconst 3, 1) := by decide +kernel
theorem dX3_follow_317 : decode cX3_follow 317 = .ok (.iadd, 1) := by decide +kernel
theorem dX3_follow_318 : decode cX3_follow 318 = .ok (.laload, 1) := by decide +kernel
theorem dX3_follow_319 : decode cX3_follow 319 = .ok (.lastore, 1) := by decide +kernel
theorem dX3_follow_320 : decode cX3_follow 320 = .ok (.iinc 1 1, 3) := by decide +kernel
theorem dX3_follow_323 : decode cX3_follow 323 = .ok (.iinc 3 1, 3) := by decide +kernel
theorem dX3_follow_326 : decode cX3_follow 326 = .ok (.goto (-312), 3) := by decide +kernel
theorem dX3_follow_329 : decode cX3_follow 329 = .ok (.iinc 2 1, 3) := by decide +kernel
theorem dX3_follow_332 : decode cX3_follow 332 = .ok (.goto (-328), 3) := by decide +kernel
theorem dX3_follow_335 : decode cX3_follow 335 = .ok (.aload_n 0, 1) := by decide +kernel
theorem dX3_follow_336 : decode cX3_follow 336 = .ok (.iload_n 1, 1) := by decide +kernel
theorem dX3_follow_337 : decode cX3_follow 337 = .ok (.putfield 51, 3) := by decide +kernel
theorem dX3_follow_340 : decode cX3_follow 340 = .ok (.iconst 0, 1) := by decide +kernel
theorem dX3_follow_341 : decode cX3_follow 341 = .ok (.istore_n 2, 1) := by decide +kernel
theorem dX3_follow_342 : decode cX3_follow 342 = .ok (.iload_n 2, 1) := by decide +kernel
theorem dX3_follow_343 : decode cX3_follow 343 = .ok (.iconst 4, 1) := by decide +kernel
theorem dX3_follow_344 : decode cX3_follow 344 = .ok (.iload_n 1, 1) := by decide +kernel
theorem dX3_follow_345 : decode cX3_follow 345 = .ok (.imul, 1) := by decide +kernel
theorem dX3_follow_346 : decode cX3_follow 346 = .ok (.if_icmp .ge 21, 3) := by decide +kernel
theorem dX3_follow_349 : decode cX3_follow 349 = .ok (.aload_n 0, 1) := by decide +kernel
theorem dX3_follow_350 : decode cX3_follow 350 = .ok (.getfield 19, 3) := by decide +kernel
theorem dX3_follow_353 : decode cX3_follow 353 = .ok (.iload_n 2, 1) := by decide +kernel
theorem dX3_follow_354 : decode cX3_follow 354 = .ok (.aload_n 0, 1) := by decide +kernel
theorem dX3_follow_355 : decode cX3_follow 355 = .ok (.getfield 35, 3) := by decide +kernel
theorem dX3_follow_358 : decode cX3_follow 358 = .ok (.iload_n 2, 1) := by decide +kernel
theorem dX3_follow_359 : decode cX3_follow 359 = .ok (.laload, 1) := by decide +kernel
theorem dX3_follow_360 : decode cX3_follow 360 = .ok (.lastore, 1) := by decide +kernel
theorem dX3_follow_361 : decode cX3_follow 361 = .ok (.iinc 2 1, 3) := by decide +kernel
theorem dX3_follow_364 : decode cX3_follow 364 = .ok (.goto (-22), 3) := by decide +kernel
theorem dX3_follow_367 : decode cX3_follow 367 = .ok (.aload_n 0, 1) := by decide +kernel
theorem dX3_follow_368 : decode cX3_follow 368 = .ok (.invokevirtual 79, 3) := by decide +kernel
theorem dX3_follow_371 : decode cX3_follow 371 = .ok (.return_, 1) := by decide +kernel
theorem dX3_isNothing_0 : decode cX3_isNothing 0 = .ok (.aload_n 0, 1) := by decide +kernel
theorem dX3_isNothing_1 : decode cX3_isNothing 1 = .ok (.getfield 51, 3) := by decide +kernel
theorem dX3_isNothing_4 : decode cX3_isNothing 4 = .ok (.iconst 1, 1) := by decide +kernel
theorem dX3_isNothing_5 : decode cX3_isNothing 5 = .ok (.if_icmp .ne 7, 3) := by decide +kernel
theorem dX3_isNothing_8 : decode cX3_isNothing 8 = .ok (.iconst 1, 1) := by decide +kernel
theorem dX3_isNothing_9 : decode cX3_isNothing 9 = .ok (.goto 4, 3) := by decide +kernel
theorem dX3_isNothing_12 : decode cX3_isNothing 12 = .ok (.iconst 0, 1) := by decide +kernel
theorem dX3_isNothing_13 : decode cX3_isNothing 13 = .ok (.ireturn, 1) := by decide +kernel
theorem dX3_isLeaf_0 : decode cX3_isLeaf 0 = .ok (.iload_n 0, 1) := by decide +kernel
theorem dX3_isLeaf_1 : decode cX3_isLeaf 1 = .ok (.i2l, 1) := by decide +kernel
theorem dX3_isLeaf_2 : decode cX3_isLeaf 2 = .ok (.lconst 0, 1) := by decide +kernel
theorem dX3_isLeaf_3 : decode cX3_isLeaf 3 = .ok (.ldc2_w 82, 3) := by decide +kernel
theorem dX3_isLeaf_6 : decode cX3_isLeaf 6 = .ok (.invokestatic 43, 3) := by decide +kernel
theorem dX3_isLeaf_9 : decode cX3_isLeaf 9 = .ok (.ifCond .eq 22, 3) := by decide +kernel
theorem dX3_isLeaf_12 : decode cX3_isLeaf 12 = .ok (.iload_n 1, 1) := by decide +kernel
theorem dX3_isLeaf_13 : decode cX3_isLeaf 13 = .ok (.i2l, 1) := by decide +kernel
theorem dX3_isLeaf_14 : decode cX3_isLeaf 14 = .ok (.lconst 0, 1) := by decide +kernel
theorem dX3_isLeaf_15 : decode cX3_isLeaf 15 = .ok (.iconst 1, 1) := by decide +kernel
theorem dX3_isLeaf_16 : decode cX3_isLeaf 16 = .ok (.iload_n 0, 1) := by decide +kernel
theorem dX3_isLeaf_17 : decode cX3_isLeaf 17 = .ok (.ishl, 1) := by decide +kernel
theorem dX3_isLeaf_18 : decode cX3_isLeaf 18 = .ok (.iconst 1, 1) := by decide +kernel
theorem dX3_isLeaf_19 : decode cX3_isLeaf 19 = .ok (.isub, 1) := by decide +kernel
theorem dX3_isLeaf_20 : decode cX3_isLeaf 20 = .ok (.i2l, 1) := by decide +kernel
theorem dX3_isLeaf_21 : decode cX3_isLeaf 21 = .ok (.invokestatic 43, 3) := by decide +kernel
theorem dX3_isLeaf_24 : decode cX3_isLeaf 24 = .ok (.ifCond .eq 7, 3) := by decide +kernel
theorem dX3_isLeaf_27 : decode cX3_isLeaf 27 = .ok (.iconst 1, 1) := by decide +kernel
theorem dX3_isLeaf_28 : decode cX3_isLeaf 28 = .ok (.goto 4, 3) := by decide +kernel
theorem dX3_isLeaf_31 : decode cX3_isLeaf 31 = .ok (.iconst 0, 1) := by decide +kernel
theorem dX3_isLeaf_32 : decode cX3_isLeaf 32 = .ok (.ireturn, 1) := by decide +kernel
theorem dX3_pair_0 : decode cX3_pair 0 = .ok (.iload_n 1, 1) := by decide +kernel
theorem dX3_pair_1 : decode cX3_pair 1 = .ok (.iload_n 2, 1) := by decide +kernel
theorem dX3_pair_2 : decode cX3_pair 2 = .ok (.invokestatic 84, 3) := by decide +kernel
theorem dX3_pair_5 : decode cX3_pair 5 = .ok (.ifCond .eq 12, 3) := by decide +kernel
theorem dX3_pair_8 : decode cX3_pair 8 = .ok (.iload_n 3, 1) := by decide +kernel
theorem dX3_pair_9 : decode cX3_pair 9 = .ok (.iload 4, 2) := by decide +kernel
theorem dX3_pair_11 : decode cX3_pair 11 = .ok (.invokestatic 84, 3) := by decide +kernel
theorem dX3_pair_14 : decode cX3_pair 14 = .ok (.ifCond .ne 6, 3) := by decide +kernel
theorem dX3_pair_17 : decode cX3_pair 17 = .ok (.bipush (-102), 2) := by decide +kernel
theorem dX3_pair_19 : decode cX3_pair 19 = .ok (.ireturn, 1) := by decide +kernel
theorem dX3_pair_20 : decode cX3_pair 20 = .ok (.aload_n 0, 1) := by decide +kernel
theorem dX3_pair_21 : decode cX3_pair 21 = .ok (.getfield 88, 3) := by decide +kernel
theorem dX3_pair_24 : decode cX3_pair 24 = .ok (.bipush 24, 2) := by decide +kernel
theorem dX3_pair_26 : decode cX3_pair 26 = .ok (.if_icmp .ne 6, 3) := by decide +kernel
theorem dX3_pair_29 : decode cX3_pair 29 = .ok (.bipush (-104), 2) := by decide +kernel
theorem dX3_pair_31 : decode cX3_pair 31 = .ok (.ireturn, 1) := by decide +kernel
theorem dX3_pair_32 : decode cX3_pair 32 = .ok (.aload_n 0, 1) := by decide +kernel
theorem dX3_pair_33 : decode cX3_pair 33 = .ok (.getfield 16, 3) := by decide +kernel
theorem dX3_pair_36 : decode cX3_pair 36 = .ok (.iconst 4, 1) := by decide +kernel
theorem dX3_pair_37 : decode cX3_pair 37 = .ok (.aload_n 0, 1) := by decide +kernel
theorem dX3_pair_38 : decode cX3_pair 38 = .ok (.getfield 88, 3) := by decide +kernel
theorem dX3_pair_41 : decode cX3_pair 41 = .ok (.imul, 1) := by decide +kernel
theorem dX3_pair_42 : decode cX3_pair 42 = .ok (.iload_n 1, 1) := by decide +kernel
theorem dX3_pair_43 : decode cX3_pair 43 = .ok (.iastore, 1) := by decide +kernel
theorem dX3_pair_44 : decode cX3_pair 44 = .ok (.aload_n 0, 1) := by decide +kernel
theorem dX3_pair_45 : decode cX3_pair 45 = .ok (.getfield 16, 3) := by decide +kernel
theorem dX3_pair_48 : decode cX3_pair 48 = .ok (.iconst 4, 1) := by decide +kernel
theorem dX3_pair_49 : decode cX3_pair 49 = .ok (.aload_n 0, 1) := by decide +kernel
theorem dX3_pair_50 : decode cX3_pair 50 = .ok (.getfield 88, 3) := by decide +kernel
theorem dX3_pair_53 : decode cX3_pair 53 = .ok (.imul, 1) := by decide +kernel
theorem dX3_pair_54 : decode cX3_pair 54 = .ok (.iconst 1, 1) := by decide +kernel
theorem dX3_pair_55 : decode cX3_pair 55 = .ok (.iadd, 1) := by decide +kernel
theorem dX3_pair_56 : decode cX3_pair 56 = .ok (.iload_n 2, 1) := by decide +kernel
theorem dX3_pair_57 : decode cX3_pair 57 = .ok (.iastore, 1) := by decide +kernel
theorem dX3_pair_58 : decode cX3_pair 58 = .ok (.aload_n 0, 1) := by decide +kernel
theorem dX3_pair_59 : decode cX3_pair 59 = .ok (.getfield 16, 3) := by decide +kernel
theorem dX3_pair_62 : decode cX3_pair 62 = .ok (.iconst 4, 1) := by decide +kernel
theorem dX3_pair_63 : decode cX3_pair 63 = .ok (.aload_n 0, 1) := by decide +kernel
theorem dX3_pair_64 : decode cX3_pair 64 = .ok (.getfield 88, 3) := by decide +kernel
theorem dX3_pair_67 : decode cX3_pair 67 = .ok (.imul, 1) := by decide +kernel
theorem dX3_pair_68 : decode cX3_pair 68 = .ok (.iconst 2, 1) := by decide +kernel
theorem dX3_pair_69 : decode cX3_pair 69 = .ok (.iadd, 1) := by decide +kernel
theorem dX3_pair_70 : decode cX3_pair 70 = .ok (.iload_n 3, 1) := by decide +kernel
theorem dX3_pair_71 : decode cX3_pair 71 = .ok (.iastore, 1) := by decide +kernel
theorem dX3_pair_72 : decode cX3_pair 72 = .ok (.aload_n 0, 1) := by decide +kernel
theorem dX3_pair_73 : decode cX3_pair 73 = .ok (.getfield 16, 3) := by decide +kernel
theorem dX3_pair_76 : decode cX3_pair 76 = .ok (.iconst 4, 1) := by decide +kernel
theorem dX3_pair_77 : decode cX3_pair 77 = .ok (.aload_n 0, 1) := by decide +kernel
theorem dX3_pair_78 : decode cX3_pair 78 = .ok (.getfield 88, 3) := by decide +kernel
theorem dX3_pair_81 : decode cX3_pair 81 = .ok (.imul, 1) := by decide +kernel
theorem dX3_pair_82 : decode cX3_pair 82 = .ok (.iconst 3, 1) := by decide +kernel
theorem dX3_pair_83 : decode cX3_pair 83 = .ok (.iadd, 1) := by decide +kernel
theorem dX3_pair_84 : decode cX3_pair 84 = .ok (.iload 4, 2) := by decide +kernel
theorem dX3_pair_86 : decode cX3_pair 86 = .ok (.iastore, 1) := by decide +kernel
theorem dX3_pair_87 : decode cX3_pair 87 = .ok (.aload_n 0, 1) := by decide +kernel
theorem dX3_pair_88 : decode cX3_pair 88 = .ok (.dup, 1) := by decide +kernel
theorem dX3_pair_89 : decode cX3_pair 89 = .ok (.getfield 88, 3) := by decide +kernel
theorem dX3_pair_92 : decode cX3_pair 92 = .ok (.iconst 1, 1) := by decide +kernel
theorem dX3_pair_93 : decode cX3_pair 93 = .ok (.iadd, 1) := by decide +kernel
theorem dX3_pair_94 : decode cX3_pair 94 = .ok (.putfield 88, 3) := by decide +kernel
theorem dX3_pair_97 : decode cX3_pair 97 = .ok (.aload_n 0, 1) := by decide +kernel
theorem dX3_pair_98 : decode cX3_pair 98 = .ok (.getfield 88, 3) := by decide +kernel
theorem dX3_pair_101 : decode cX3_pair 101 = .ok (.ireturn, 1) := by decide +kernel
theorem dX3_clear_0 : decode cX3_clear 0 = .ok (.aload_n 0, 1) := by decide +kernel
theorem dX3_clear_1 : decode cX3_clear 1 = .ok (.getfield 88, 3) := by decide +kernel
theorem dX3_clear_4 : decode cX3_clear 4 = .ok (.istore_n 1, 1) := by decide +kernel
theorem dX3_clear_5 : decode cX3_clear 5 = .ok (.aload_n 0, 1) := by decide +kernel
theorem dX3_clear_6 : decode cX3_clear 6 = .ok (.iconst 0, 1) := by decide +kernel
theorem dX3_clear_7 : decode cX3_clear 7 = .ok (.putfield 88, 3) := by decide +kernel
theorem dX3_clear_10 : decode cX3_clear 10 = .ok (.iload_n 1, 1) := by decide +kernel
theorem dX3_clear_11 : decode cX3_clear 11 = .ok (.ireturn, 1) := by decide +kernel
theorem dX3_isCut_0 : decode cX3_isCut 0 = .ok (.lconst 0, 1) := by decide +kernel
theorem dX3_isCut_1 : decode cX3_isCut 1 = .ok (.lstore_n 2, 1) := by decide +kernel
theorem dX3_isCut_2 : decode cX3_isCut 2 = .ok (.iconst 1, 1) := by decide +kernel
theorem dX3_isCut_3 : decode cX3_isCut 3 = .ok (.istore 4, 2) := by decide +kernel
theorem dX3_isCut_5 : decode cX3_isCut 5 = .ok (.iconst 0, 1) := by decide +kernel
theorem dX3_isCut_6 : decode cX3_isCut 6 = .ok (.istore 5, 2) := by decide +kernel
theorem dX3_isCut_8 : decode cX3_isCut 8 = .ok (.iload 5, 2) := by decide +kernel
theorem dX3_isCut_10 : decode cX3_isCut 10 = .ok (.aload_n 0, 1) := by decide +kernel
theorem dX3_isCut_11 : decode cX3_isCut 11 = .ok (.getfield 88, 3) := by decide +kernel
theorem dX3_isCut_14 : decode cX3_isCut 14 = .ok (.if_icmp .ge 128, 3) := by decide +kernel
theorem dX3_isCut_17 : decode cX3_isCut 17 = .ok (.aload_n 0, 1) := by decide +kernel
theorem dX3_isCut_18 : decode cX3_isCut 18 = .ok (.getfield 16, 3) := by decide +kernel
theorem dX3_isCut_21 : decode cX3_isCut 21 = .ok (.iconst 4, 1) := by decide +kernel
theorem dX3_isCut_22 : decode cX3_isCut 22 = .ok (.iload 5, 2) := by decide +kernel
theorem dX3_isCut_24 : decode cX3_isCut 24 = .ok (.imul, 1) := by decide +kernel
theorem dX3_isCut_25 : decode cX3_isCut 25 = .ok (.iload_n 1, 1) := by decide +kernel
theorem dX3_isCut_26 : decode cX3_isCut 26 = .ok (.iadd, 1) := by decide +kernel
theorem dX3_isCut_27 : decode cX3_isCut 27 = .ok (.iaload, 1) := by decide +kernel
theorem dX3_isCut_28 : decode cX3_isCut 28 = .ok (.istore 6, 2) := by decide +kernel
theorem dX3_isCut_30 : decode cX3_isCut 30 = .ok (.aload_n 0, 1) := by decide +kernel
theorem dX3_isCut_31 : decode cX3_isCut 31 = .ok (.getfield 16, 3) := by decide +kernel
theorem dX3_isCut_34 : decode cX3_isCut 34 = .ok (.iconst 4, 1) := by decide +kernel
theorem dX3_isCut_35 : decode cX3_isCut 35 = .ok (.iload 5, 2) := by decide +kernel
theorem dX3_isCut_37 : decode cX3_isCut 37 = .ok (.imul, 1) := by decide +kernel
theorem dX3_isCut_38 : decode cX3_isCut 38 = .ok (.iload_n 1, 1) := by decide +kernel
theorem dX3_isCut_39 : decode cX3_isCut 39 = .ok (.iadd, 1) := by decide +kernel
theorem dX3_isCut_40 : decode cX3_isCut 40 = .ok (.iconst 1, 1) := by decide +kernel
theorem dX3_isCut_41 : decode cX3_isCut 41 = .ok (.iadd, 1) := by decide +kernel
theorem dX3_isCut_42 : decode cX3_isCut 42 = .ok (.iaload, 1) := by decide +kernel
theorem dX3_isCut_43 : decode cX3_isCut 43 = .ok (.istore 7, 2) := by decide +kernel
theorem dX3_isCut_45 : decode cX3_isCut 45 = .ok (.lload_n 2, 1) := by decide +kernel
theorem dX3_isCut_46 : decode cX3_isCut 46 = .ok (.lconst 1, 1) := by decide +kernel
theorem dX3_isCut_47 : decode cX3_isCut 47 = .ok (.bipush 23, 2) := by decide +kernel
theorem dX3_isCut_49 : decode cX3_isCut 49 = .ok (.iload 6, 2) := by decide +kernel
theorem dX3_isCut_51 : decode cX3_isCut 51 = .ok (.isub, 1) := by decide +kernel
theorem dX3_isCut_52 : decode cX3_isCut 52 = .ok (.lshl, 1) := by decide +kernel
theorem dX3_isCut_53 : decode cX3_isCut 53 = .ok (.ladd, 1) := by decide +kernel
theorem dX3_isCut_54 : decode cX3_isCut 54 = .ok (.lstore_n 2, 1) := by decide +kernel
theorem dX3_isCut_55 : decode cX3_isCut 55 = .ok (.iconst 0, 1) := by decide +kernel
theorem dX3_isCut_56 : decode cX3_isCut 56 = .ok (.istore 8, 2) := by decide +kernel
theorem dX3_isCut_58 : decode cX3_isCut 58 = .ok (.iload 8, 2) := by decide +kernel
theorem dX3_isCut_60 : decode cX3_isCut 60 = .ok (.aload_n 0, 1) := by decide +kernel
theorem dX3_isCut_61 : decode cX3_isCut 61 = .ok (.getfield 88, 3) := by decide +kernel
theorem dX3_isCut_64 : decode cX3_isCut 64 = .ok (.if_icmp .ge 72, 3) := by decide +kernel
theorem dX3_isCut_67 : decode cX3_isCut 67 = .ok (.aload_n 0, 1) := by decide +kernel
theorem dX3_isCut_68 : decode cX3_isCut 68 = .ok (.getfield 16, 3) := by decide +kernel
theorem dX3_isCut_71 : decode cX3_isCut 71 = .ok (.iconst 4, 1) := by decide +kernel
theorem dX3_isCut_72 : decode cX3_isCut 72 = .ok (.iload 8, 2) := by decide +kernel
theorem dX3_isCut_74 : decode cX3_isCut 74 = .ok (.imul, 1) := by decide +kernel
theorem dX3_isCut_75 : decode cX3_isCut 75 = .ok (.iload_n 1, 1) := by decide +kernel
theorem dX3_isCut_76 : decode cX3_isCut 76 = .ok (.iadd, 1) := by decide +kernel
theorem dX3_isCut_77 : decode cX3_isCut 77 = .ok (.iaload, 1) := by decide +kernel
theorem dX3_isCut_78 : decode cX3_isCut 78 = .ok (.istore 9, 2) := by decide +kernel
theorem dX3_isCut_80 : decode cX3_isCut 80 = .ok (.iload 4, 2) := by decide +kernel
theorem dX3_isCut_82 : decode cX3_isCut 82 = .ok (.ifCond .eq 45, 3) := by decide +kernel
theorem dX3_isCut_85 : decode cX3_isCut 85 = .ok (.iload 5, 2) := by decide +kernel
theorem dX3_isCut_87 : decode cX3_isCut 87 = .ok (.iload 8, 2) := by decide +kernel
theorem dX3_isCut_89 : decode cX3_isCut 89 = .ok (.if_icmp .eq 34, 3) := by decide +kernel
theorem dX3_isCut_92 : decode cX3_isCut 92 = .ok (.iload 9, 2) := by decide +kernel
theorem dX3_isCut_94 : decode cX3_isCut 94 = .ok (.iload 6, 2) := by decide +kernel
theorem dX3_isCut_96 : decode cX3_isCut 96 = .ok (.if_icmp .lt 27, 3) := by decide +kernel
theorem dX3_isCut_99 : decode cX3_isCut 99 = .ok (.aload_n 0, 1) := by decide +kernel
theorem dX3_isCut_100 : decode cX3_isCut 100 = .ok (.getfield 16, 3) := by decide +kernel
theorem dX3_isCut_103 : decode cX3_isCut 103 = .ok (.iconst 4, 1) := by decide +kernel
theorem dX3_isCut_104 : decode cX3_isCut 104 = .ok (.iload 8, 2) := by decide +kernel
theorem dX3_isCut_106 : decode cX3_isCut 106 = .ok (.imul, 1) := by decide +kernel
theorem dX3_isCut_107 : decode cX3_isCut 107 = .ok (.iload_n 1, 1) := by decide +kernel
theorem dX3_isCut_108 : decode cX3_isCut 108 = .ok (.iadd, 1) := by decide +kernel
theorem dX3_isCut_109 : decode cX3_isCut 109 = .ok (.iconst 1, 1) := by decide +kernel
theorem dX3_isCut_110 : decode cX3_isCut 110 = .ok (.iadd, 1) := by decide +kernel
theorem dX3_isCut_111 : decode cX3_isCut 111 = .ok (.iaload, 1) := by decide +kernel
theorem dX3_isCut_112 : decode cX3_isCut 112 = .ok (.iload 9, 2) := by decide +kernel
theorem dX3_isCut_114 : decode cX3_isCut 114 = .ok (.iload 6, 2) := by decide +kernel
theorem dX3_isCut_116 : decode cX3_isCut 116 = .ok (.isub, 1) := by decide +kernel
theorem dX3_isCut_117 : decode cX3_isCut 117 = .ok (.ishr, 1) := by decide +kernel
theorem dX3_isCut_118 : decode cX3_isCut 118 = .ok (.iload 7, 2) := by decide +kernel
theorem dX3_isCut_120 : decode cX3_isCut 120 = .ok (.if_icmp .eq 7, 3) := by decide +kernel
theorem dX3_isCut_123 : decode cX3_isCut 123 = .ok (.iconst 1, 1) := by decide +kernel
theorem dX3_isCut_124 : decode cX3_isCut 124 = .ok (.goto 4, 3) := by decide +kernel
theorem dX3_isCut_127 : decode cX3_isCut 127 = .ok (.iconst 0, 1) := by decide +kernel
theorem dX3_isCut_128 : decode cX3_isCut 128 = .ok (.istore 4, 2) := by decide +kernel
theorem dX3_isCut_130 : decode cX3_isCut 130 = .ok (.iinc 8 1, 3) := by decide +kernel
theorem dX3_isCut_133 : decode cX3_isCut 133 = .ok (.goto (-75), 3) := by decide +kernel
theorem dX3_isCut_136 : decode cX3_isCut 136 = .ok (.iinc 5 1, 3) := by decide +kernel
theorem dX3_isCut_139 : decode cX3_isCut 139 = .ok (.goto (-131), 3) := by decide +kernel
theorem dX3_isCut_142 : decode cX3_isCut 142 = .ok (.iload 4, 2) := by decide +kernel
theorem dX3_isCut_144 : decode cX3_isCut 144 = .ok (.ifCond .eq 15, 3) := by decide +kernel
theorem dX3_isCut_147 : decode cX3_isCut 147 = .ok (.lload_n 2, 1) := by decide +kernel
theorem dX3_isCut_148 : decode cX3_isCut 148 = .ok (.ldc2_w 91, 3) := by decide +kernel
theorem dX3_isCut_151 : decode cX3_isCut 151 = .ok (.lcmp, 1) := by decide +kernel
theorem dX3_isCut_152 : decode cX3_isCut 152 = .ok (.ifCond .ne 7, 3) := by decide +kernel
theorem dX3_isCut_155 : decode cX3_isCut 155 = .ok (.iconst 1, 1) := by decide +kernel
theorem dX3_isCut_156 : decode cX3_isCut 156 = .ok (.goto 4, 3) := by decide +kernel
theorem dX3_isCut_159 : decode cX3_isCut 159 = .ok (.iconst 0, 1) := by decide +kernel
theorem dX3_isCut_160 : decode cX3_isCut 160 = .ok (.ireturn, 1) := by decide +kernel
theorem dX3_make_0 : decode cX3_make 0 = .ok (.iload_n 1, 1) := by decide +kernel
theorem dX3_make_1 : decode cX3_make 1 = .ok (.invokestatic 47, 3) := by decide +kernel
theorem dX3_make_4 : decode cX3_make 4 = .ok (.ifCond .ne 6, 3) := by decide +kernel
theorem dX3_make_7 : decode cX3_make 7 = .ok (.bipush (-101), 2) := by decide +kernel
theorem dX3_make_9 : decode cX3_make 9 = .ok (.ireturn, 1) := by decide +kernel
theorem dX3_make_10 : decode cX3_make 10 = .ok (.aload_n 0, 1) := by decide +kernel
theorem dX3_make_11 : decode cX3_make 11 = .ok (.iconst 0, 1) := by decide +kernel
theorem dX3_make_12 : decode cX3_make 12 = .ok (.invokevirtual 93, 3) := by decide +kernel
theorem dX3_make_15 : decode cX3_make 15 = .ok (.ifCond .eq 11, 3) := by decide +kernel
theorem dX3_make_18 : decode cX3_make 18 = .ok (.aload_n 0, 1) := by decide +kernel
theorem dX3_make_19 : decode cX3_make 19 = .ok (.iconst 2, 1) := by decide +kernel
theorem dX3_make_20 : decode cX3_make 20 = .ok (.invokevirtual 93, 3) := by decide +kernel
theorem dX3_make_23 : decode cX3_make 23 = .ok (.ifCond .ne 6, 3) := by decide +kernel
theorem dX3_make_26 : decode cX3_make 26 = .ok (.bipush (-103), 2) := by decide +kernel
theorem dX3_make_28 : decode cX3_make 28 = .ok (.ireturn, 1) := by decide +kernel
theorem dX3_make_29 : decode cX3_make 29 = .ok (.aload_n 0, 1) := by decide +kernel
theorem dX3_make_30 : decode cX3_make 30 = .ok (.iconst 0, 1) := by decide +kernel
theorem dX3_make_31 : decode cX3_make 31 = .ok (.putfield 51, 3) := by decide +kernel
theorem dX3_make_34 : decode cX3_make 34 = .ok (.iconst 0, 1) := by decide +kernel
theorem dX3_make_35 : decode cX3_make 35 = .ok (.istore_n 2, 1) := by decide +kernel
theorem dX3_make_36 : decode cX3_make 36 = .ok (.iload_n 2, 1) := by decide +kernel
theorem dX3_make_37 : decode cX3_make 37 = .ok (.aload_n 0, 1) := by decide +kernel
theorem dX3_make_38 : decode cX3_make 38 = .ok (.getfield 88, 3) := by decide +kernel
theorem dX3_make_41 : decode cX3_make 41 = .ok (.if_icmp .ge 55, 3) := by decide +kernel
theorem dX3_make_44 : decode cX3_make 44 = .ok (.aload_n 0, 1) := by decide +kernel
theorem dX3_make_45 : decode cX3_make 45 = .ok (.aload_n 0, 1) := by decide +kernel
theorem dX3_make_46 : decode cX3_make 46 = .ok (.getfield 16, 3) := by decide +kernel
theorem dX3_make_49 : decode cX3_make 49 = .ok (.iconst 4, 1) := by decide +kernel
theorem dX3_make_50 : decode cX3_make 50 = .ok (.iload_n 2, 1) := by decide +kernel
theorem dX3_make_51 : decode cX3_make 51 = .ok (.imul, 1) := by decide +kernel
theorem dX3_make_52 : decode cX3_make 52 = .ok (.iaload, 1) := by decide +kernel
theorem dX3_make_53 : decode cX3_make 53 = .ok (.i2l, 1) := by decide +kernel
theorem dX3_make_54 : decode cX3_make 54 = .ok (.aload_n 0, 1) := by decide +kernel
theorem dX3_make_55 : decode cX3_make 55 = .ok (.getfield 16, 3) := by decide +kernel
theorem dX3_make_58 : decode cX3_make 58 = .ok (.iconst 4, 1) := by decide +kernel
theorem dX3_make_59 : decode cX3_make 59 = .ok (.iload_n 2, 1) := by decide +kernel
theorem dX3_make_60 : decode cX3_make 60 = .ok (.imul, 1) := by decide +kernel
theorem dX3_make_61 : decode cX3_make 61 = .ok (.iconst 1, 1) := by decide +kernel
theorem dX3_make_62 : decode cX3_make 62 = .ok (.iadd, 1) := by decide +kernel
theorem dX3_make_63 : decode cX3_make 63 = .ok (.iaload, 1) := by decide +kernel
theorem dX3_make_64 : decode cX3_make 64 = .ok (.i2l, 1) := by decide +kernel
theorem dX3_make_65 : decode cX3_make 65 = .ok (.aload_n 0, 1) := by decide +kernel
theorem dX3_make_66 : decode cX3_make 66 = .ok (.getfield 16, 3) := by decide +kernel
theorem dX3_make_69 : decode cX3_make 69 = .ok (.iconst 4, 1) := by decide +kernel
theorem dX3_make_70 : decode cX3_make 70 = .ok (.iload_n 2, 1) := by decide +kernel
theorem dX3_make_71 : decode cX3_make 71 = .ok (.imul, 1) := by decide +kernel
theorem dX3_make_72 : decode cX3_make 72 = .ok (.iconst 2, 1) := by decide +kernel
theorem dX3_make_73 : decode cX3_make 73 = .ok (.iadd, 1) := by decide +kernel
theorem dX3_make_74 : decode cX3_make 74 = .ok (.iaload, 1) := by decide +kernel
theorem dX3_make_75 : decode cX3_make 75 = .ok (.i2l, 1) := by decide +kernel
theorem dX3_make_76 : decode cX3_make 76 = .ok (.aload_n 0, 1) := by decide +kernel
theorem dX3_make_77 : decode cX3_make 77 = .ok (.getfield 16, 3) := by decide +kernel
theorem dX3_make_80 : decode cX3_make 80 = .ok (.iconst 4, 1) := by decide +kernel
theorem dX3_make_81 : decode cX3_make 81 = .ok (.iload_n 2, 1) := by decide +kernel
theorem dX3_make_82 : decode cX3_make 82 = .ok (.imul, 1) := by decide +kernel
theorem dX3_make_83 : decode cX3_make 83 = .ok (.iconst 3, 1) := by decide +kernel
theorem dX3_make_84 : decode cX3_make 84 = .ok (.iadd, 1) := by decide +kernel
theorem dX3_make_85 : decode cX3_make 85 = .ok (.iaload, 1) := by decide +kernel
theorem dX3_make_86 : decode cX3_make 86 = .ok (.i2l, 1) := by decide +kernel
theorem dX3_make_87 : decode cX3_make 87 = .ok (.invokevirtual 55, 3) := by decide +kernel
theorem dX3_make_90 : decode cX3_make 90 = .ok (.iinc 2 1, 3) := by decide +kernel
theorem dX3_make_93 : decode cX3_make 93 = .ok (.goto (-57), 3) := by decide +kernel
theorem dX3_make_96 : decode cX3_make 96 = .ok (.aload_n 0, 1) := by decide +kernel
theorem dX3_make_97 : decode cX3_make 97 = .ok (.iconst 0, 1) := by decide +kernel
theorem dX3_make_98 : decode cX3_make 98 = .ok (.putfield 88, 3) := by decide +kernel
theorem dX3_make_101 : decode cX3_make 101 = .ok (.aload_n 0, 1) := by decide +kernel
theorem dX3_make_102 : decode cX3_make 102 = .ok (.invokevirtual 79, 3) := by decide +kernel
theorem dX3_make_105 : decode cX3_make 105 = .ok (.aload_n 0, 1) := by decide +kernel
theorem dX3_make_106 : decode cX3_make 106 = .ok (.iload_n 1, 1) := by decide +kernel
theorem dX3_make_107 : decode cX3_make 107 = .ok (.invokevirtual 96, 3) := by decide +kernel
theorem dX3_make_110 : decode cX3_make 110 = .ok (.aload_n 0, 1) := by decide +kernel
theorem dX3_make_111 : decode cX3_make 111 = .ok (.getfield 51, 3) := by decide +kernel
theorem dX3_make_114 : decode cX3_make 114 = .ok (.ireturn, 1) := by decide +kernel
theorem dX3_makeStrong_0 : decode cX3_makeStrong 0 = .ok (.aload_n 0, 1) := by decide +kernel
theorem dX3_makeStrong_1 : decode cX3_makeStrong 1 = .ok (.iconst 0, 1) := by decide +kernel
theorem dX3_makeStrong_2 : decode cX3_makeStrong 2 = .ok (.putfield 51, 3) := by decide +kernel
theorem dX3_makeStrong_5 : decode cX3_makeStrong 5 = .ok (.iconst 1, 1) := by decide +kernel
theorem dX3_makeStrong_6 : decode cX3_makeStrong 6 = .ok (.istore_n 2, 1) := by decide +kernel
theorem dX3_makeStrong_7 : decode cX3_makeStrong 7 = .ok (.iload_n 2, 1) := by decide +kernel
theorem dX3_makeStrong_8 : decode cX3_makeStrong 8 = .ok (.iload_n 1, 1) := by decide +kernel
theorem dX3_makeStrong_9 : decode cX3_makeStrong 9 = .ok (.if_icmp .gt 29, 3) := by decide +kernel
theorem dX3_makeStrong_12 : decode cX3_makeStrong 12 = .ok (.aload_n 0, 1) := by decide +kernel
theorem dX3_makeStrong_13 : decode cX3_makeStrong 13 = .ok (.iload_n 2, 1) := by decide +kernel
theorem dX3_makeStrong_14 : decode cX3_makeStrong 14 = .ok (.i2l, 1) := by decide +kernel
theorem dX3_makeStrong_15 : decode cX3_makeStrong 15 = .ok (.iconst 1, 1) := by decide +kernel
theorem dX3_makeStrong_16 : decode cX3_makeStrong 16 = .ok (.iload_n 2, 1) := by decide +kernel
theorem dX3_makeStrong_17 : decode cX3_makeStrong 17 = .ok (.ishl, 1) := by decide +kernel
theorem dX3_makeStrong_18 : decode cX3_makeStrong 18 = .ok (.iconst 2, 1) := by decide +kernel
theorem dX3_makeStrong_19 : decode cX3_makeStrong 19 = .ok (.isub, 1) := by decide +kernel
theorem dX3_makeStrong_20 : decode cX3_makeStrong 20 = .ok (.i2l, 1) := by decide +kernel
theorem dX3_makeStrong_21 : decode cX3_makeStrong 21 = .ok (.iload_n 2, 1) := by decide +kernel
theorem dX3_makeStrong_22 : decode cX3_makeStrong 22 = .ok (.i2l, 1) := by decide +kernel
theorem dX3_makeStrong_23 : decode cX3_makeStrong 23 = .ok (.iconst 1, 1) := by decide +kernel
theorem dX3_makeStrong_24 : decode cX3_makeStrong 24 = .ok (.iload_n 2, 1) := by decide +kernel
theorem dX3_makeStrong_25 : decode cX3_makeStrong 25 = .ok (.ishl, 1) := by decide +kernel
theorem dX3_makeStrong_26 : decode cX3_makeStrong 26 = .ok (.iconst 2, 1) := by decide +kernel
theorem dX3_makeStrong_27 : decode cX3_makeStrong 27 = .ok (.isub, 1) := by decide +kernel
theorem dX3_makeStrong_28 : decode cX3_makeStrong 28 = .ok (.i2l, 1) := by decide +kernel
theorem dX3_makeStrong_29 : decode cX3_makeStrong 29 = .ok (.invokevirtual 55, 3) := by decide +kernel
theorem dX3_makeStrong_32 : decode cX3_makeStrong 32 = .ok (.iinc 2 1, 3) := by decide +kernel
theorem dX3_makeStrong_35 : decode cX3_makeStrong 35 = .ok (.goto (-28), 3) := by decide +kernel
theorem dX3_makeStrong_38 : decode cX3_makeStrong 38 = .ok (.iconst 1, 1) := by decide +kernel
theorem dX3_makeStrong_39 : decode cX3_makeStrong 39 = .ok (.iload_n 1, 1) := by decide +kernel
theorem dX3_makeStrong_40 : decode cX3_makeStrong 40 = .ok (.ishl, 1) := by decide +kernel
theorem dX3_makeStrong_41 : decode cX3_makeStrong 41 = .ok (.iconst 1, 1) := by decide +kernel
theorem dX3_makeStrong_42 : decode cX3_makeStrong 42 = .ok (.isub, 1) := by decide +kernel
theorem dX3_makeStrong_43 : decode cX3_makeStrong 43 = .ok (.istore_n 2, 1) := by decide +kernel
theorem dX3_makeStrong_44 : decode cX3_makeStrong 44 = .ok (.aload_n 0, 1) := by decide +kernel
theorem dX3_makeStrong_45 : decode cX3_makeStrong 45 = .ok (.iload_n 1, 1) := by decide +kernel
theorem dX3_makeStrong_46 : decode cX3_makeStrong 46 = .ok (.iconst 1, 1) := by decide +kernel
theorem dX3_makeStrong_47 : decode cX3_makeStrong 47 = .ok (.iadd, 1) := by decide +kernel
theorem dX3_makeStrong_48 : decode cX3_makeStrong 48 = .ok (.i2l, 1) := by decide +kernel
theorem dX3_makeStrong_49 : decode cX3_makeStrong 49 = .ok (.iconst 2, 1) := by decide +kernel
theorem dX3_makeStrong_50 : decode cX3_makeStrong 50 = .ok (.iload_n 2, 1) := by decide +kernel
theorem dX3_makeStrong_51 : decode cX3_makeStrong 51 = .ok (.imul, 1) := by decide +kernel
theorem dX3_makeStrong_52 : decode cX3_makeStrong 52 = .ok (.i2l, 1) := by decide +kernel
theorem dX3_makeStrong_53 : decode cX3_makeStrong 53 = .ok (.iload_n 1, 1) := by decide +kernel
theorem dX3_makeStrong_54 : decode cX3_makeStrong 54 = .ok (.iconst 2, 1) := by decide +kernel
theorem dX3_makeStrong_55 : decode cX3_makeStrong 55 = .ok (.iadd, 1) := by decide +kernel
theorem dX3_makeStrong_56 : decode cX3_makeStrong 56 = .ok (.i2l, 1) := by decide +kernel
theorem dX3_makeStrong_57 : decode cX3_makeStrong 57 = .ok (.iconst 4, 1) := by decide +kernel
theorem dX3_makeStrong_58 : decode cX3_makeStrong 58 = .ok (.iload_n 2, 1) := by decide +kernel
theorem dX3_makeStrong_59 : decode cX3_makeStrong 59 = .ok (.imul, 1) := by decide +kernel
theorem dX3_makeStrong_60 : decode cX3_makeStrong 60 = .ok (.i2l, 1) := by decide +kernel
theorem dX3_makeStrong_61 : decode cX3_makeStrong 61 = .ok (.invokevirtual 55, 3) := by decide +kernel
theorem dX3_makeStrong_64 : decode cX3_makeStrong 64 = .ok (.aload_n 0, 1) := by decide +kernel
theorem dX3_makeStrong_65 : decode cX3_makeStrong 65 = .ok (.iload_n 1, 1) := by decide +kernel
theorem dX3_makeStrong_66 : decode cX3_makeStrong 66 = .ok (.iconst 2, 1) := by decide +kernel
theorem dX3_makeStrong_67 : decode cX3_makeStrong 67 = .ok (.iadd, 1) := by decide +kernel
theorem dX3_makeStrong_68 : decode cX3_makeStrong 68 = .ok (.i2l, 1) := by decide +kernel
theorem dX3_makeStrong_69 : decode cX3_makeStrong 69 = .ok (.iconst 4, 1) := by decide +kernel
theorem dX3_makeStrong_70 : decode cX3_makeStrong 70 = .ok (.iload_n 2, 1) := by decide +kernel
theorem dX3_makeStrong_71 : decode cX3_makeStrong 71 = .ok (.imul, 1) := by decide +kernel
theorem dX3_makeStrong_72 : decode cX3_makeStrong 72 = .ok (.iconst 2, 1) := by decide +kernel
theorem dX3_makeStrong_73 : decode cX3_makeStrong 73 = .ok (.iadd, 1) := by decide +kernel
theorem dX3_makeStrong_74 : decode cX3_makeStrong 74 = .ok (.i2l, 1) := by decide +kernel
theorem dX3_makeStrong_75 : decode cX3_makeStrong 75 = .ok (.iload_n 1, 1) := by decide +kernel
theorem dX3_makeStrong_76 : decode cX3_makeStrong 76 = .ok (.iconst 2, 1) := by decide +kernel
theorem dX3_makeStrong_77 : decode cX3_makeStrong 77 = .ok (.iadd, 1) := by decide +kernel
theorem dX3_makeStrong_78 : decode cX3_makeStrong 78 = .ok (.i2l, 1) := by decide +kernel
theorem dX3_makeStrong_79 : decode cX3_makeStrong 79 = .ok (.iconst 4, 1) := by decide +kernel
theorem dX3_makeStrong_80 : decode cX3_makeStrong 80 = .ok (.iload_n 2, 1) := by decide +kernel
theorem dX3_makeStrong_81 : decode cX3_makeStrong 81 = .ok (.imul, 1) := by decide +kernel
theorem dX3_makeStrong_82 : decode cX3_makeStrong 82 = .ok (.iconst 1, 1) := by decide +kernel
theorem dX3_makeStrong_83 : decode cX3_makeStrong 83 = .ok (.iadd, 1) := by decide +kernel
theorem dX3_makeStrong_84 : decode cX3_makeStrong 84 = .ok (.i2l, 1) := by decide +kernel
theorem dX3_makeStrong_85 : decode cX3_makeStrong 85 = .ok (.invokevirtual 55, 3) := by decide +kernel
theorem dX3_makeStrong_88 : decode cX3_makeStrong 88 = .ok (.aload_n 0, 1) := by decide +kernel
theorem dX3_makeStrong_89 : decode cX3_makeStrong 89 = .ok (.iload_n 1, 1) := by decide +kernel
theorem dX3_makeStrong_90 : decode cX3_makeStrong 90 = .ok (.iconst 2, 1) := by decide +kernel
theorem dX3_makeStrong_91 : decode cX3_makeStrong 91 = .ok (.iadd, 1) := by decide +kernel
theorem dX3_makeStrong_92 : decode cX3_makeStrong 92 = .ok (.i2l, 1) := by decide +kernel
theorem dX3_makeStrong_93 : decode cX3_makeStrong 93 = .ok (.iconst 4, 1) := by decide +kernel
theorem dX3_makeStrong_94 : decode cX3_makeStrong 94 = .ok (.iload_n 2, 1) := by decide +kernel
theorem dX3_makeStrong_95 : decode cX3_makeStrong 95 = .ok (.imul, 1) := by decide +kernel
theorem dX3_makeStrong_96 : decode cX3_makeStrong 96 = .ok (.iconst 3, 1) := by decide +kernel
theorem dX3_makeStrong_97 : decode cX3_makeStrong 97 = .ok (.iadd, 1) := by decide +kernel
theorem dX3_makeStrong_98 : decode cX3_makeStrong 98 = .ok (.i2l, 1) := by decide +kernel
theorem dX3_makeStrong_99 : decode cX3_makeStrong 99 = .ok (.iload_n 1, 1) := by decide +kernel
theorem dX3_makeStrong_100 : decode cX3_makeStrong 100 = .ok (.iconst 1, 1) := by decide +kernel
theorem dX3_makeStrong_101 : decode cX3_makeStrong 101 = .ok (.iadd, 1) := by decide +kernel
theorem dX3_makeStrong_102 : decode cX3_makeStrong 102 = .ok (.i2l, 1) := by decide +kernel
theorem dX3_makeStrong_103 : decode cX3_makeStrong 103 = .ok (.iconst 2, 1) := by decide +kernel
theorem dX3_makeStrong_104 : decode cX3_makeStrong 104 = .ok (.iload_n 2, 1) := by decide +kernel
theorem dX3_makeStrong_105 : decode cX3_makeStrong 105 = .ok (.imul, 1) := by decide +kernel
theorem dX3_makeStrong_106 : decode cX3_makeStrong 106 = .ok (.iconst 1, 1) := by decide +kernel
theorem dX3_makeStrong_107 : decode cX3_makeStrong 107 = .ok (.iadd, 1) := by decide +kernel
theorem dX3_makeStrong_108 : decode cX3_makeStrong 108 = .ok (.i2l, 1) := by decide +kernel
theorem dX3_makeStrong_109 : decode cX3_makeStrong 109 = .ok (.invokevirtual 55, 3) := by decide +kernel
theorem dX3_makeStrong_112 : decode cX3_makeStrong 112 = .ok (.aload_n 0, 1) := by decide +kernel
theorem dX3_makeStrong_113 : decode cX3_makeStrong 113 = .ok (.invokevirtual 62, 3) := by decide +kernel
theorem dX3_makeStrong_116 : decode cX3_makeStrong 116 = .ok (.return_, 1) := by decide +kernel
theorem dX3_strong_0 : decode cX3_strong 0 = .ok (.iload_n 1, 1) := by decide +kernel
theorem dX3_strong_1 : decode cX3_strong 1 = .ok (.invokestatic 47, 3) := by decide +kernel
theorem dX3_strong_4 : decode cX3_strong 4 = .ok (.ifCond .ne 6, 3) := by decide +kernel
theorem dX3_strong_7 : decode cX3_strong 7 = .ok (.bipush (-101), 2) := by decide +kernel
theorem dX3_strong_9 : decode cX3_strong 9 = .ok (.ireturn, 1) := by decide +kernel
theorem dX3_strong_10 : decode cX3_strong 10 = .ok (.iload_n 2, 1) := by decide +kernel
theorem dX3_strong_11 : decode cX3_strong 11 = .ok (.i2l, 1) := by decide +kernel
theorem dX3_strong_12 : decode cX3_strong 12 = .ok (.lconst 0, 1) := by decide +kernel
theorem dX3_strong_13 : decode cX3_strong 13 = .ok (.ldc2_w 99, 3) := by decide +kernel
theorem dX3_strong_16 : decode cX3_strong 16 = .ok (.invokestatic 43, 3) := by decide +kernel
theorem dX3_strong_19 : decode cX3_strong 19 = .ok (.ifCond .ne 6, 3) := by decide +kernel
theorem dX3_strong_22 : decode cX3_strong 22 = .ok (.bipush (-102), 2) := by decide +kernel
theorem dX3_strong_24 : decode cX3_strong 24 = .ok (.ireturn, 1) := by decide +kernel
theorem dX3_strong_25 : decode cX3_strong 25 = .ok (.aload_n 0, 1) := by decide +kernel
theorem dX3_strong_26 : decode cX3_strong 26 = .ok (.iload_n 2, 1) := by decide +kernel
theorem dX3_strong_27 : decode cX3_strong 27 = .ok (.invokevirtual 101, 3) := by decide +kernel
theorem dX3_strong_30 : decode cX3_strong 30 = .ok (.aload_n 0, 1) := by decide +kernel
theorem dX3_strong_31 : decode cX3_strong 31 = .ok (.iload_n 1, 1) := by decide +kernel
theorem dX3_strong_32 : decode cX3_strong 32 = .ok (.invokevirtual 96, 3) := by decide +kernel
theorem dX3_strong_35 : decode cX3_strong 35 = .ok (.aload_n 0, 1) := by decide +kernel
theorem dX3_strong_36 : decode cX3_strong 36 = .ok (.getfield 51, 3) := by decide +kernel
theorem dX3_strong_39 : decode cX3_strong 39 = .ok (.ireturn, 1) := by decide +kernel
theorem dX3_then_0 : decode cX3_then 0 = .ok (.iload_n 1, 1) := by decide +kernel
theorem dX3_then_1 : decode cX3_then 1 = .ok (.invokestatic 47, 3) := by decide +kernel
theorem dX3_then_4 : decode cX3_then 4 = .ok (.ifCond .eq 19, 3) := by decide +kernel
theorem dX3_then_7 : decode cX3_then 7 = .ok (.aload_n 0, 1) := by decide +kernel
theorem dX3_then_8 : decode cX3_then 8 = .ok (.iload_n 2, 1) := by decide +kernel
theorem dX3_then_9 : decode cX3_then 9 = .ok (.invokevirtual 104, 3) := by decide +kernel
theorem dX3_then_12 : decode cX3_then 12 = .ok (.ifCond .eq 11, 3) := by decide +kernel
theorem dX3_then_15 : decode cX3_then 15 = .ok (.aload_n 0, 1) := by decide +kernel
theorem dX3_then_16 : decode cX3_then 16 = .ok (.iload_n 3, 1) := by decide +kernel
theorem dX3_then_17 : decode cX3_then 17 = .ok (.invokevirtual 104, 3) := by decide +kernel
theorem dX3_then_20 : decode cX3_then 20 = .ok (.ifCond .ne 6, 3) := by decide +kernel
theorem dX3_then_23 : decode cX3_then 23 = .ok (.bipush (-101), 2) := by decide +kernel
theorem dX3_then_25 : decode cX3_then 25 = .ok (.ireturn, 1) := by decide +kernel
theorem dX3_then_26 : decode cX3_then 26 = .ok (.aload_n 0, 1) := by decide +kernel
theorem dX3_then_27 : decode cX3_then 27 = .ok (.iload_n 2, 1) := by decide +kernel
theorem dX3_then_28 : decode cX3_then 28 = .ok (.invokevirtual 107, 3) := by decide +kernel
theorem dX3_then_31 : decode cX3_then 31 = .ok (.aload_n 0, 1) := by decide +kernel
theorem dX3_then_32 : decode cX3_then 32 = .ok (.invokevirtual 110, 3) := by decide +kernel
theorem dX3_then_35 : decode cX3_then 35 = .ok (.aload_n 0, 1) := by decide +kernel
theorem dX3_then_36 : decode cX3_then 36 = .ok (.iload_n 3, 1) := by decide +kernel
theorem dX3_then_37 : decode cX3_then 37 = .ok (.invokevirtual 107, 3) := by decide +kernel
theorem dX3_then_40 : decode cX3_then 40 = .ok (.aload_n 0, 1) := by decide +kernel
theorem dX3_then_41 : decode cX3_then 41 = .ok (.invokevirtual 113, 3) := by decide +kernel
theorem dX3_then_44 : decode cX3_then 44 = .ok (.aload_n 0, 1) := by decide +kernel
theorem dX3_then_45 : decode cX3_then 45 = .ok (.getfield 51, 3) := by decide +kernel
theorem dX3_then_48 : decode cX3_then 48 = .ok (.bipush 24, 2) := by decide +kernel
theorem dX3_then_50 : decode cX3_then 50 = .ok (.if_icmp .le 6, 3) := by decide +kernel
theorem dX3_then_53 : decode cX3_then 53 = .ok (.bipush (-104), 2) := by decide +kernel
theorem dX3_then_55 : decode cX3_then 55 = .ok (.ireturn, 1) := by decide +kernel
theorem dX3_then_56 : decode cX3_then 56 = .ok (.aload_n 0, 1) := by decide +kernel
theorem dX3_then_57 : decode cX3_then 57 = .ok (.iload_n 1, 1) := by decide +kernel
theorem dX3_then_58 : decode cX3_then 58 = .ok (.invokevirtual 96, 3) := by decide +kernel
theorem dX3_then_61 : decode cX3_then 61 = .ok (.aload_n 0, 1) := by decide +kernel
theorem dX3_then_62 : decode cX3_then 62 = .ok (.getfield 51, 3) := by decide +kernel
theorem dX3_then_65 : decode cX3_then 65 = .ok (.ireturn, 1) := by decide +kernel
theorem dX3_turn_0 : decode cX3_turn 0 = .ok (.iload_n 1, 1) := by decide +kernel
theorem dX3_turn_1 : decode cX3_turn 1 = .ok (.invokestatic 47, 3) := by decide +kernel
theorem dX3_turn_4 : decode cX3_turn 4 = .ok (.ifCond .eq 11, 3) := by decide +kernel
theorem dX3_turn_7 : decode cX3_turn 7 = .ok (.aload_n 0, 1) := by decide +kernel
theorem dX3_turn_8 : decode cX3_turn 8 = .ok (.iload_n 2, 1) := by decide +kernel
theorem dX3_turn_9 : decode cX3_turn 9 = .ok (.invokevirtual 104, 3) := by decide +kernel
theorem dX3_turn_12 : decode cX3_turn 12 = .ok (.ifCond .ne 6, 3) := by decide +kernel
theorem dX3_turn_15 : decode cX3_turn 15 = .ok (.bipush (-101), 2) := by decide +kernel
theorem dX3_turn_17 : decode cX3_turn 17 = .ok (.ireturn, 1) := by decide +kernel
theorem dX3_turn_18 : decode cX3_turn 18 = .ok (.aload_n 0, 1) := by decide +kernel
theorem dX3_turn_19 : decode cX3_turn 19 = .ok (.iload_n 2, 1) := by decide +kernel
theorem dX3_turn_20 : decode cX3_turn 20 = .ok (.invokevirtual 107, 3) := by decide +kernel
theorem dX3_turn_23 : decode cX3_turn 23 = .ok (.aload_n 0, 1) := by decide +kernel
theorem dX3_turn_24 : decode cX3_turn 24 = .ok (.invokevirtual 116, 3) := by decide +kernel
theorem dX3_turn_27 : decode cX3_turn 27 = .ok (.aload_n 0, 1) := by decide +kernel
theorem dX3_turn_28 : decode cX3_turn 28 = .ok (.iload_n 1, 1) := by decide +kernel
theorem dX3_turn_29 : decode cX3_turn 29 = .ok (.invokevirtual 96, 3) := by decide +kernel
theorem dX3_turn_32 : decode cX3_turn 32 = .ok (.aload_n 0, 1) := by decide +kernel
theorem dX3_turn_33 : decode cX3_turn 33 = .ok (.getfield 51, 3) := by decide +kernel
theorem dX3_turn_36 : decode cX3_turn 36 = .ok (.ireturn, 1) := by decide +kernel
theorem dX3_power_0 : decode cX3_power 0 = .ok (.iload_n 1, 1) := by decide +kernel
theorem dX3_power_1 : decode cX3_power 1 = .ok (.invokestatic 47, 3) := by decide +kernel
theorem dX3_power_4 : decode cX3_power 4 = .ok (.ifCond .eq 11, 3) := by decide +kernel
theorem dX3_power_7 : decode cX3_power 7 = .ok (.aload_n 0, 1) := by decide +kernel
theorem dX3_power_8 : decode cX3_power 8 = .ok (.iload_n 2, 1) := by decide +kernel
theorem dX3_power_9 : decode cX3_power 9 = .ok (.invokevirtual 104, 3) := by decide +kernel
theorem dX3_power_12 : decode cX3_power 12 = .ok (.ifCond .ne 6, 3) := by decide +kernel
theorem dX3_power_15 : decode cX3_power 15 = .ok (.bipush (-101), 2) := by decide +kernel
theorem dX3_power_17 : decode cX3_power 17 = .ok (.ireturn, 1) := by decide +kernel
theorem dX3_power_18 : decode cX3_power 18 = .ok (.iload_n 3, 1) := by decide +kernel
theorem dX3_power_19 : decode cX3_power 19 = .ok (.i2l, 1) := by decide +kernel
theorem dX3_power_20 : decode cX3_power 20 = .ok (.ldc2_w 119, 3) := by decide +kernel
theorem dX3_power_23 : decode cX3_power 23 = .ok (.ldc2_w 121, 3) := by decide +kernel
theorem dX3_power_26 : decode cX3_power 26 = .ok (.invokestatic 43, 3) := by decide +kernel
theorem dX3_power_29 : decode cX3_power 29 = .ok (.ifCond .ne 6, 3) := by decide +kernel
theorem dX3_power_32 : decode cX3_power 32 = .ok (.bipush (-102), 2) := by decide +kernel
theorem dX3_power_34 : decode cX3_power 34 = .ok (.ireturn, 1) := by decide +kernel
theorem dX3_power_35 : decode cX3_power 35 = .ok (.aload_n 0, 1) := by decide +kernel
theorem dX3_power_36 : decode cX3_power 36 = .ok (.invokevirtual 123, 3) := by decide +kernel
theorem dX3_power_39 : decode cX3_power 39 = .ok (.iconst 0, 1) := by decide +kernel
theorem dX3_power_40 : decode cX3_power 40 = .ok (.istore 4, 2) := by decide +kernel
theorem dX3_power_42 : decode cX3_power 42 = .ok (.iload 4, 2) := by decide +kernel
theorem dX3_power_44 : decode cX3_power 44 = .ok (.iload_n 3, 1) := by decide +kernel
theorem dX3_power_45 : decode cX3_power 45 = .ok (.ifCond .ge 8, 3) := by decide +kernel
theorem dX3_power_48 : decode cX3_power 48 = .ok (.iload_n 3, 1) := by decide +kernel
theorem dX3_power_49 : decode cX3_power 49 = .ok (.ineg, 1) := by decide +kernel
theorem dX3_power_50 : decode cX3_power 50 = .ok (.goto 4, 3) := by decide +kernel
theorem dX3_power_53 : decode cX3_power 53 = .ok (.iload_n 3, 1) := by decide +kernel
theorem dX3_power_54 : decode cX3_power 54 = .ok (.if_icmp .ge 42, 3) := by decide +kernel
theorem dX3_power_57 : decode cX3_power 57 = .ok (.aload_n 0, 1) := by decide +kernel
theorem dX3_power_58 : decode cX3_power 58 = .ok (.invokevirtual 110, 3) := by decide +kernel
theorem dX3_power_61 : decode cX3_power 61 = .ok (.aload_n 0, 1) := by decide +kernel
theorem dX3_power_62 : decode cX3_power 62 = .ok (.iload_n 2, 1) := by decide +kernel
theorem dX3_power_63 : decode cX3_power 63 = .ok (.invokevirtual 107, 3) := by decide +kernel
theorem dX3_power_66 : decode cX3_power 66 = .ok (.iload_n 3, 1) := by decide +kernel
theorem dX3_power_67 : decode cX3_power 67 = .ok (.ifCond .ge 7, 3) := by decide +kernel
theorem dX3_power_70 : decode cX3_power 70 = .ok (.aload_n 0, 1) := by decide +kernel
theorem dX3_power_71 : decode cX3_power 71 = .ok (.invokevirtual 116, 3) := by decide +kernel
theorem dX3_power_74 : decode cX3_power 74 = .ok (.aload_n 0, 1) := by decide +kernel
theorem dX3_power_75 : decode cX3_power 75 = .ok (.invokevirtual 113, 3) := by decide +kernel
theorem dX3_power_78 : decode cX3_power 78 = .ok (.aload_n 0, 1) := by decide +kernel
theorem dX3_power_79 : decode cX3_power 79 = .ok (.getfield 51, 3) := by decide +kernel
theorem dX3_power_82 : decode cX3_power 82 = .ok (.bipush 24, 2) := by decide +kernel
theorem dX3_power_84 : decode cX3_power 84 = .ok (.if_icmp .le 6, 3) := by decide +kernel
theorem dX3_power_87 : decode cX3_power 87 = .ok (.bipush (-104), 2) := by decide +kernel
theorem dX3_power_89 : decode cX3_power 89 = .ok (.ireturn, 1) := by decide +kernel
theorem dX3_power_90 : decode cX3_power 90 = .ok (.iinc 4 1, 3) := by decide +kernel
theorem dX3_power_93 : decode cX3_power 93 = .ok (.goto (-51), 3) := by decide +kernel
theorem dX3_power_96 : decode cX3_power 96 = .ok (.aload_n 0, 1) := by decide +kernel
theorem dX3_power_97 : decode cX3_power 97 = .ok (.iload_n 1, 1) := by decide +kernel
theorem dX3_power_98 : decode cX3_power 98 = .ok (.invokevirtual 96, 3) := by decide +kernel
theorem dX3_power_101 : decode cX3_power 101 = .ok (.aload_n 0, 1) := by decide +kernel
theorem dX3_power_102 : decode cX3_power 102 = .ok (.getfield 51, 3) := by decide +kernel
theorem dX3_power_105 : decode cX3_power 105 = .ok (.ireturn, 1) := by decide +kernel
theorem dX3_drop_0 : decode cX3_drop 0 = .ok (.aload_n 0, 1) := by decide +kernel
theorem dX3_drop_1 : decode cX3_drop 1 = .ok (.iload_n 1, 1) := by decide +kernel
theorem dX3_drop_2 : decode cX3_drop 2 = .ok (.invokevirtual 104, 3) := by decide +kernel
theorem dX3_drop_5 : decode cX3_drop 5 = .ok (.ifCond .ne 6, 3) := by decide +kernel
theorem dX3_drop_8 : decode cX3_drop 8 = .ok (.bipush (-101), 2) := by decide +kernel
theorem dX3_drop_10 : decode cX3_drop 10 = .ok (.ireturn, 1) := by decide +kernel
theorem dX3_drop_11 : decode cX3_drop 11 = .ok (.aload_n 0, 1) := by decide +kernel
theorem dX3_drop_12 : decode cX3_drop 12 = .ok (.getfield 7, 3) := by decide +kernel
theorem dX3_drop_15 : decode cX3_drop 15 = .ok (.iload_n 1, 1) := by decide +kernel
theorem dX3_drop_16 : decode cX3_drop 16 = .ok (.iaload, 1) := by decide +kernel
theorem dX3_drop_17 : decode cX3_drop 17 = .ok (.istore_n 2, 1) := by decide +kernel
theorem dX3_drop_18 : decode cX3_drop 18 = .ok (.aload_n 0, 1) := by decide +kernel
theorem dX3_drop_19 : decode cX3_drop 19 = .ok (.getfield 7, 3) := by decide +kernel
theorem dX3_drop_22 : decode cX3_drop 22 = .ok (.iload_n 1, 1) := by decide +kernel
theorem dX3_drop_23 : decode cX3_drop 23 = .ok (.iconst 0, 1) := by decide +kernel
theorem dX3_drop_24 : decode cX3_drop 24 = .ok (.iastore, 1) := by decide +kernel
theorem dX3_drop_25 : decode cX3_drop 25 = .ok (.iload_n 2, 1) := by decide +kernel
theorem dX3_drop_26 : decode cX3_drop 26 = .ok (.ireturn, 1) := by decide +kernel
theorem dX3_leaves_0 : decode cX3_leaves 0 = .ok (.aload_n 0, 1) := by decide +kernel
theorem dX3_leaves_1 : decode cX3_leaves 1 = .ok (.iload_n 1, 1) := by decide +kernel
theorem dX3_leaves_2 : decode cX3_leaves 2 = .ok (.invokevirtual 104, 3) := by decide +kernel
theorem dX3_leaves_5 : decode cX3_leaves 5 = .ok (.ifCond .eq 12, 3) := by decide +kernel
theorem dX3_leaves_8 : decode cX3_leaves 8 = .ok (.aload_n 0, 1) := by decide +kernel
theorem dX3_leaves_9 : decode cX3_leaves 9 = .ok (.getfield 7, 3) := by decide +kernel
theorem dX3_leaves_12 : decode cX3_leaves 12 = .ok (.iload_n 1, 1) := by decide +kernel
theorem dX3_leaves_13 : decode cX3_leaves 13 = .ok (.iaload, 1) := by decide +kernel
theorem dX3_leaves_14 : decode cX3_leaves 14 = .ok (.goto 5, 3) := by decide +kernel
theorem dX3_leaves_17 : decode cX3_leaves 17 = .ok (.bipush (-101), 2) := by decide +kernel
theorem dX3_leaves_19 : decode cX3_leaves 19 = .ok (.ireturn, 1) := by decide +kernel
theorem dX3_sortOf_0 : decode cX3_sortOf 0 = .ok (.aload_n 0, 1) := by decide +kernel
theorem dX3_sortOf_1 : decode cX3_sortOf 1 = .ok (.iload_n 1, 1) := by decide +kernel
theorem dX3_sortOf_2 : decode cX3_sortOf 2 = .ok (.invokevirtual 107, 3) := by decide +kernel
theorem dX3_sortOf_5 : decode cX3_sortOf 5 = .ok (.iconst 0, 1) := by decide +kernel
theorem dX3_sortOf_6 : decode cX3_sortOf 6 = .ok (.istore_n 2, 1) := by decide +kernel
theorem dX3_sortOf_7 : decode cX3_sortOf 7 = .ok (.iconst 0, 1) := by decide +kernel
theorem dX3_sortOf_8 : decode cX3_sortOf 8 = .ok (.istore_n 3, 1) := by decide +kernel
theorem dX3_sortOf_9 : decode cX3_sortOf 9 = .ok (.iload_n 3, 1) := by decide +kernel
theorem dX3_sortOf_10 : decode cX3_sortOf 10 = .ok (.aload_n 0, 1) := by decide +kernel
theorem dX3_sortOf_11 : decode cX3_sortOf 11 = .ok (.getfield 51, 3) := by decide +kernel
theorem dX3_sortOf_14 : decode cX3_sortOf 14 = .ok (.if_icmp .ge 46, 3) := by decide +kernel
theorem dX3_sortOf_17 : decode cX3_sortOf 17 = .ok (.iload_n 3, 1) := by decide +kernel
theorem dX3_sortOf_18 : decode cX3_sortOf 18 = .ok (.ifCond .ne 12, 3) := by decide +kernel
theorem dX3_sortOf_21 : decode cX3_sortOf 21 = .ok (.aload_n 0, 1) := by decide +kernel
theorem dX3_sortOf_22 : decode cX3_sortOf 22 = .ok (.getfield 51, 3) := by decide +kernel
theorem dX3_sortOf_25 : decode cX3_sortOf 25 = .ok (.iconst 1, 1) := by decide +kernel
theorem dX3_sortOf_26 : decode cX3_sortOf 26 = .ok (.isub, 1) := by decide +kernel
theorem dX3_sortOf_27 : decode cX3_sortOf 27 = .ok (.goto 6, 3) := by decide +kernel
theorem dX3_sortOf_30 : decode cX3_sortOf 30 = .ok (.iload_n 3, 1) := by decide +kernel
theorem dX3_sortOf_31 : decode cX3_sortOf 31 = .ok (.iconst 1, 1) := by decide +kernel
theorem dX3_sortOf_32 : decode cX3_sortOf 32 = .ok (.isub, 1) := by decide +kernel
theorem dX3_sortOf_33 : decode cX3_sortOf 33 = .ok (.istore 4, 2) := by decide +kernel
theorem dX3_sortOf_35 : decode cX3_sortOf 35 = .ok (.iload_n 2, 1) := by decide +kernel
theorem dX3_sortOf_36 : decode cX3_sortOf 36 = .ok (.aload_n 0, 1) := by decide +kernel
theorem dX3_sortOf_37 : decode cX3_sortOf 37 = .ok (.iload_n 3, 1) := by decide +kernel
theorem dX3_sortOf_38 : decode cX3_sortOf 38 = .ok (.iload 4, 2) := by decide +kernel
theorem dX3_sortOf_40 : decode cX3_sortOf 40 = .ok (.iconst 2, 1) := by decide +kernel
theorem dX3_sortOf_41 : decode cX3_sortOf 41 = .ok (.invokevirtual 71, 3) := by decide +kernel
theorem dX3_sortOf_44 : decode cX3_sortOf 44 = .ok (.ifCond .eq 7, 3) := by decide +kernel
theorem dX3_sortOf_47 : decode cX3_sortOf 47 = .ok (.iconst 1, 1) := by decide +kernel
theorem dX3_sortOf_48 : decode cX3_sortOf 48 = .ok (.goto 4, 3) := by decide +kernel
theorem dX3_sortOf_51 : decode cX3_sortOf 51 = .ok (.iconst 0, 1) := by decide +kernel
theorem dX3_sortOf_52 : decode cX3_sortOf 52 = .ok (.iadd, 1) := by decide +kernel
theorem dX3_sortOf_53 : decode cX3_sortOf 53 = .ok (.istore_n 2, 1) := by decide +kernel
theorem dX3_sortOf_54 : decode cX3_sortOf 54 = .ok (.iinc 3 1, 3) := by decide +kernel
theorem dX3_sortOf_57 : decode cX3_sortOf 57 = .ok (.goto (-48), 3) := by decide +kernel
theorem dX3_sortOf_60 : decode cX3_sortOf 60 = .ok (.aload_n 0, 1) := by decide +kernel
theorem dX3_sortOf_61 : decode cX3_sortOf 61 = .ok (.getfield 51, 3) := by decide +kernel
theorem dX3_sortOf_64 : decode cX3_sortOf 64 = .ok (.iconst 1, 1) := by decide +kernel
theorem dX3_sortOf_65 : decode cX3_sortOf 65 = .ok (.if_icmp .eq 23, 3) := by decide +kernel
theorem dX3_sortOf_68 : decode cX3_sortOf 68 = .ok (.aload_n 0, 1) := by decide +kernel
theorem dX3_sortOf_69 : decode cX3_sortOf 69 = .ok (.iconst 0, 1) := by decide +kernel
theorem dX3_sortOf_70 : decode cX3_sortOf 70 = .ok (.aload_n 0, 1) := by decide +kernel
theorem dX3_sortOf_71 : decode cX3_sortOf 71 = .ok (.getfield 51, 3) := by decide +kernel
theorem dX3_sortOf_74 : decode cX3_sortOf 74 = .ok (.iconst 1, 1) := by decide +kernel
theorem dX3_sortOf_75 : decode cX3_sortOf 75 = .ok (.isub, 1) := by decide +kernel
theorem dX3_sortOf_76 : decode cX3_sortOf 76 = .ok (.iconst 2, 1) := by decide +kernel
theorem dX3_sortOf_77 : decode cX3_sortOf 77 = .ok (.invokevirtual 71, 3) := by decide +kernel
theorem dX3_sortOf_80 : decode cX3_sortOf 80 = .ok (.ifCond .eq 12, 3) := by decide +kernel
theorem dX3_sortOf_83 : decode cX3_sortOf 83 = .ok (.iload_n 2, 1) := by decide +kernel
theorem dX3_sortOf_84 : decode cX3_sortOf 84 = .ok (.iconst 1, 1) := by decide +kernel
theorem dX3_sortOf_85 : decode cX3_sortOf 85 = .ok (.if_icmp .ne 7, 3) := by decide +kernel
theorem dX3_sortOf_88 : decode cX3_sortOf 88 = .ok (.iconst 1, 1) := by decide +kernel
theorem dX3_sortOf_89 : decode cX3_sortOf 89 = .ok (.goto 4, 3) := by decide +kernel
theorem dX3_sortOf_92 : decode cX3_sortOf 92 = .ok (.iconst 0, 1) := by decide +kernel
theorem dX3_sortOf_93 : decode cX3_sortOf 93 = .ok (.istore_n 3, 1) := by decide +kernel
theorem dX3_sortOf_94 : decode cX3_sortOf 94 = .ok (.iload_n 3, 1) := by decide +kernel
theorem dX3_sortOf_95 : decode cX3_sortOf 95 = .ok (.ifCond .eq 7, 3) := by decide +kernel
theorem dX3_sortOf_98 : decode cX3_sortOf 98 = .ok (.iconst 0, 1) := by decide +kernel
theorem dX3_sortOf_99 : decode cX3_sortOf 99 = .ok (.goto 13, 3) := by decide +kernel
theorem dX3_sortOf_102 : decode cX3_sortOf 102 = .ok (.iload_n 2, 1) := by decide +kernel
theorem dX3_sortOf_103 : decode cX3_sortOf 103 = .ok (.iconst 1, 1) := by decide +kernel
theorem dX3_sortOf_104 : decode cX3_sortOf 104 = .ok (.if_icmp .ne 7, 3) := by decide +kernel
theorem dX3_sortOf_107 : decode cX3_sortOf 107 = .ok (.iconst 1, 1) := by decide +kernel
theorem dX3_sortOf_108 : decode cX3_sortOf 108 = .ok (.goto 4, 3) := by decide +kernel
theorem dX3_sortOf_111 : decode cX3_sortOf 111 = .ok (.iconst 2, 1) := by decide +kernel
theorem dX3_sortOf_112 : decode cX3_sortOf 112 = .ok (.ireturn, 1) := by decide +kernel
theorem dX3_sort_0 : decode cX3_sort 0 = .ok (.aload_n 0, 1) := by decide +kernel
theorem dX3_sort_1 : decode cX3_sort 1 = .ok (.iload_n 1, 1) := by decide +kernel
theorem dX3_sort_2 : decode cX3_sort 2 = .ok (.invokevirtual 104, 3) := by decide +kernel
theorem dX3_sort_5 : decode cX3_sort 5 = .ok (.ifCond .eq 11, 3) := by decide +kernel
theorem dX3_sort_8 : decode cX3_sort 8 = .ok (.aload_n 0, 1) := by decide +kernel
theorem dX3_sort_9 : decode cX3_sort 9 = .ok (.iload_n 1, 1) := by decide +kernel
theorem dX3_sort_10 : decode cX3_sort 10 = .ok (.invokevirtual 126, 3) := by decide +kernel
theorem dX3_sort_13 : decode cX3_sort 13 = .ok (.goto 5, 3) := by decide +kernel
theorem dX3_sort_16 : decode cX3_sort 16 = .ok (.bipush (-101), 2) := by decide +kernel
theorem dX3_sort_18 : decode cX3_sort 18 = .ok (.ireturn, 1) := by decide +kernel
theorem dX3_leaf_0 : decode cX3_leaf 0 = .ok (.aload_n 0, 1) := by decide +kernel
theorem dX3_leaf_1 : decode cX3_leaf 1 = .ok (.iload_n 1, 1) := by decide +kernel
theorem dX3_leaf_2 : decode cX3_leaf 2 = .ok (.invokevirtual 104, 3) := by decide +kernel
theorem dX3_leaf_5 : decode cX3_leaf 5 = .ok (.ifCond .eq 21, 3) := by decide +kernel
theorem dX3_leaf_8 : decode cX3_leaf 8 = .ok (.iload_n 2, 1) := by decide +kernel
theorem dX3_leaf_9 : decode cX3_leaf 9 = .ok (.i2l, 1) := by decide +kernel
theorem dX3_leaf_10 : decode cX3_leaf 10 = .ok (.lconst 0, 1) := by decide +kernel
theorem dX3_leaf_11 : decode cX3_leaf 11 = .ok (.aload_n 0, 1) := by decide +kernel
theorem dX3_leaf_12 : decode cX3_leaf 12 = .ok (.getfield 7, 3) := by decide +kernel
theorem dX3_leaf_15 : decode cX3_leaf 15 = .ok (.iload_n 1, 1) := by decide +kernel
theorem dX3_leaf_16 : decode cX3_leaf 16 = .ok (.iaload, 1) := by decide +kernel
theorem dX3_leaf_17 : decode cX3_leaf 17 = .ok (.iconst 1, 1) := by decide +kernel
theorem dX3_leaf_18 : decode cX3_leaf 18 = .ok (.isub, 1) := by decide +kernel
theorem dX3_leaf_19 : decode cX3_leaf 19 = .ok (.i2l, 1) := by decide +kernel
theorem dX3_leaf_20 : decode cX3_leaf 20 = .ok (.invokestatic 43, 3) := by decide +kernel
theorem dX3_leaf_23 : decode cX3_leaf 23 = .ok (.ifCond .ne 6, 3) := by decide +kernel
theorem dX3_leaf_26 : decode cX3_leaf 26 = .ok (.bipush (-101), 2) := by decide +kernel
theorem dX3_leaf_28 : decode cX3_leaf 28 = .ok (.ireturn, 1) := by decide +kernel
theorem dX3_leaf_29 : decode cX3_leaf 29 = .ok (.iload_n 3, 1) := by decide +kernel
theorem dX3_leaf_30 : decode cX3_leaf 30 = .ok (.i2l, 1) := by decide +kernel
theorem dX3_leaf_31 : decode cX3_leaf 31 = .ok (.lconst 0, 1) := by decide +kernel
theorem dX3_leaf_32 : decode cX3_leaf 32 = .ok (.ldc2_w 130, 3) := by decide +kernel
theorem dX3_leaf_35 : decode cX3_leaf 35 = .ok (.invokestatic 43, 3) := by decide +kernel
theorem dX3_leaf_38 : decode cX3_leaf 38 = .ok (.ifCond .eq 21, 3) := by decide +kernel
theorem dX3_leaf_41 : decode cX3_leaf 41 = .ok (.aload_n 0, 1) := by decide +kernel
theorem dX3_leaf_42 : decode cX3_leaf 42 = .ok (.getfield 13, 3) := by decide +kernel
theorem dX3_leaf_45 : decode cX3_leaf 45 = .ok (.bipush 96, 2) := by decide +kernel
theorem dX3_leaf_47 : decode cX3_leaf 47 = .ok (.iload_n 1, 1) := by decide +kernel
theorem dX3_leaf_48 : decode cX3_leaf 48 = .ok (.imul, 1) := by decide +kernel
theorem dX3_leaf_49 : decode cX3_leaf 49 = .ok (.iconst 4, 1) := by decide +kernel
theorem dX3_leaf_50 : decode cX3_leaf 50 = .ok (.iload_n 2, 1) := by decide +kernel
theorem dX3_leaf_51 : decode cX3_leaf 51 = .ok (.imul, 1) := by decide +kernel
theorem dX3_leaf_52 : decode cX3_leaf 52 = .ok (.iadd, 1) := by decide +kernel
theorem dX3_leaf_53 : decode cX3_leaf 53 = .ok (.iload_n 3, 1) := by decide +kernel
theorem dX3_leaf_54 : decode cX3_leaf 54 = .ok (.iadd, 1) := by decide +kernel
theorem dX3_leaf_55 : decode cX3_leaf 55 = .ok (.iaload, 1) := by decide +kernel
theorem dX3_leaf_56 : decode cX3_leaf 56 = .ok (.goto 5, 3) := by decide +kernel
theorem dX3_leaf_59 : decode cX3_leaf 59 = .ok (.bipush (-102), 2) := by decide +kernel
theorem dX3_leaf_61 : decode cX3_leaf 61 = .ok (.ireturn, 1) := by decide +kernel
theorem dX3_same_0 : decode cX3_same 0 = .ok (.aload_n 0, 1) := by decide +kernel
theorem dX3_same_1 : decode cX3_same 1 = .ok (.iload_n 1, 1) := by decide +kernel
theorem dX3_same_2 : decode cX3_same 2 = .ok (.invokevirtual 104, 3) := by decide +kernel
theorem dX3_same_5 : decode cX3_same 5 = .ok (.ifCond .eq 11, 3) := by decide +kernel
theorem dX3_same_8 : decode cX3_same 8 = .ok (.aload_n 0, 1) := by decide +kernel
theorem dX3_same_9 : decode cX3_same 9 = .ok (.iload_n 2, 1) := by decide +kernel
theorem dX3_same_10 : decode cX3_same 10 = .ok (.invokevirtual 104, 3) := by decide +kernel
theorem dX3_same_13 : decode cX3_same 13 = .ok (.ifCond .ne 6, 3) := by decide +kernel
theorem dX3_same_16 : decode cX3_same 16 = .ok (.bipush (-101), 2) := by decide +kernel
theorem dX3_same_18 : decode cX3_same 18 = .ok (.ireturn, 1) := by decide +kernel
theorem dX3_same_19 : decode cX3_same 19 = .ok (.aload_n 0, 1) := by decide +kernel
theorem dX3_same_20 : decode cX3_same 20 = .ok (.getfield 7, 3) := by decide +kernel
theorem dX3_same_23 : decode cX3_same 23 = .ok (.iload_n 1, 1) := by decide +kernel
theorem dX3_same_24 : decode cX3_same 24 = .ok (.iaload, 1) := by decide +kernel
theorem dX3_same_25 : decode cX3_same 25 = .ok (.aload_n 0, 1) := by decide +kernel
theorem dX3_same_26 : decode cX3_same 26 = .ok (.getfield 7, 3) := by decide +kernel
theorem dX3_same_29 : decode cX3_same 29 = .ok (.iload_n 2, 1) := by decide +kernel
theorem dX3_same_30 : decode cX3_same 30 = .ok (.iaload, 1) := by decide +kernel
theorem dX3_same_31 : decode cX3_same 31 = .ok (.if_icmp .ne 7, 3) := by decide +kernel
theorem dX3_same_34 : decode cX3_same 34 = .ok (.iconst 1, 1) := by decide +kernel
theorem dX3_same_35 : decode cX3_same 35 = .ok (.goto 4, 3) := by decide +kernel
theorem dX3_same_38 : decode cX3_same 38 = .ok (.iconst 0, 1) := by decide +kernel
theorem dX3_same_39 : decode cX3_same 39 = .ok (.istore_n 3, 1) := by decide +kernel
theorem dX3_same_40 : decode cX3_same 40 = .ok (.iconst 0, 1) := by decide +kernel
theorem dX3_same_41 : decode cX3_same 41 = .ok (.istore 4, 2) := by decide +kernel
theorem dX3_same_43 : decode cX3_same 43 = .ok (.iload 4, 2) := by decide +kernel
theorem dX3_same_45 : decode cX3_same 45 = .ok (.iconst 4, 1) := by decide +kernel
theorem dX3_same_46 : decode cX3_same 46 = .ok (.aload_n 0, 1) := by decide +kernel
theorem dX3_same_47 : decode cX3_same 47 = .ok (.getfield 7, 3) := by decide +kernel
theorem dX3_same_50 : decode cX3_same 50 = .ok (.iload_n 1, 1) := by decide +kernel
theorem dX3_same_51 : decode cX3_same 51 = .ok (.iaload, 1) := by decide +kernel
theorem dX3_same_52 : decode cX3_same 52 = .ok (.imul, 1) := by decide +kernel
theorem dX3_same_53 : decode cX3_same 53 = .ok (.if_icmp .ge 46, 3) := by decide +kernel
theorem dX3_same_56 : decode cX3_same 56 = .ok (.iload_n 3, 1) := by decide +kernel
theorem dX3_same_57 : decode cX3_same 57 = .ok (.ifCond .eq 42, 3) := by decide +kernel
theorem dX3_same_60 : decode cX3_same 60 = .ok (.aload_n 0, 1) := by decide +kernel
theorem dX3_same_61 : decode cX3_same 61 = .ok (.getfield 13, 3) := by decide +kernel
theorem dX3_same_64 : decode cX3_same 64 = .ok (.bipush 96, 2) := by decide +kernel
theorem dX3_same_66 : decode cX3_same 66 = .ok (.iload_n 1, 1) := by decide +kernel
theorem dX3_same_67 : decode cX3_same 67 = .ok (.imul, 1) := by decide +kernel
theorem dX3_same_68 : decode cX3_same 68 = .ok (.iload 4, 2) := by decide +kernel
theorem dX3_same_70 : decode cX3_same 70 = .ok (.iadd, 1) := by decide +kernel
theorem dX3_same_71 : decode cX3_same 71 = .ok (.iaload, 1) := by decide +kernel
theorem dX3_same_72 : decode cX3_same 72 = .ok (.aload_n 0, 1) := by decide +kernel
theorem dX3_same_73 : decode cX3_same 73 = .ok (.getfield 13, 3) := by decide +kernel
theorem dX3_same_76 : decode cX3_same 76 = .ok (.bipush 96, 2) := by decide +kernel
theorem dX3_same_78 : decode cX3_same 78 = .ok (.iload_n 2, 1) := by decide +kernel
theorem dX3_same_79 : decode cX3_same 79 = .ok (.imul, 1) := by decide +kernel
theorem dX3_same_80 : decode cX3_same 80 = .ok (.iload 4, 2) := by decide +kernel
theorem dX3_same_82 : decode cX3_same 82 = .ok (.iadd, 1) := by decide +kernel
theorem dX3_same_83 : decode cX3_same 83 = .ok (.iaload, 1) := by decide +kernel
theorem dX3_same_84 : decode cX3_same 84 = .ok (.if_icmp .ne 7, 3) := by decide +kernel
theorem dX3_same_87 : decode cX3_same 87 = .ok (.iconst 1, 1) := by decide +kernel
theorem dX3_same_88 : decode cX3_same 88 = .ok (.goto 4, 3) := by decide +kernel
theorem dX3_same_91 : decode cX3_same 91 = .ok (.iconst 0, 1) := by decide +kernel
theorem dX3_same_92 : decode cX3_same 92 = .ok (.istore_n 3, 1) := by decide +kernel
theorem dX3_same_93 : decode cX3_same 93 = .ok (.iinc 4 1, 3) := by decide +kernel
theorem dX3_same_96 : decode cX3_same 96 = .ok (.goto (-53), 3) := by decide +kernel
theorem dX3_same_99 : decode cX3_same 99 = .ok (.iload_n 3, 1) := by decide +kernel
theorem dX3_same_100 : decode cX3_same 100 = .ok (.ifCond .eq 7, 3) := by decide +kernel
theorem dX3_same_103 : decode cX3_same 103 = .ok (.iconst 1, 1) := by decide +kernel
theorem dX3_same_104 : decode cX3_same 104 = .ok (.goto 4, 3) := by decide +kernel
theorem dX3_same_107 : decode cX3_same 107 = .ok (.iconst 0, 1) := by decide +kernel
theorem dX3_same_108 : decode cX3_same 108 = .ok (.ireturn, 1) := by decide +kernel
theorem dX3_commute_0 : decode cX3_commute 0 = .ok (.aload_n 0, 1) := by decide +kernel
theorem dX3_commute_1 : decode cX3_commute 1 = .ok (.iload_n 1, 1) := by decide +kernel
theorem dX3_commute_2 : decode cX3_commute 2 = .ok (.invokevirtual 104, 3) := by decide +kernel
theorem dX3_commute_5 : decode cX3_commute 5 = .ok (.ifCond .eq 11, 3) := by decide +kernel
theorem dX3_commute_8 : decode cX3_commute 8 = .ok (.aload_n 0, 1) := by decide +kernel
theorem dX3_commute_9 : decode cX3_commute 9 = .ok (.iload_n 2, 1) := by decide +kernel
theorem dX3_commute_10 : decode cX3_commute 10 = .ok (.invokevirtual 104, 3) := by decide +kernel
theorem dX3_commute_13 : decode cX3_commute 13 = .ok (.ifCond .ne 6, 3) := by decide +kernel
theorem dX3_commute_16 : decode cX3_commute 16 = .ok (.bipush (-101), 2) := by decide +kernel
theorem dX3_commute_18 : decode cX3_commute 18 = .ok (.ireturn, 1) := by decide +kernel
theorem dX3_commute_19 : decode cX3_commute 19 = .ok (.aload_n 0, 1) := by decide +kernel
theorem dX3_commute_20 : decode cX3_commute 20 = .ok (.iload_n 1, 1) := by decide +kernel
theorem dX3_commute_21 : decode cX3_commute 21 = .ok (.invokevirtual 107, 3) := by decide +kernel
theorem dX3_commute_24 : decode cX3_commute 24 = .ok (.aload_n 0, 1) := by decide +kernel
theorem dX3_commute_25 : decode cX3_commute 25 = .ok (.invokevirtual 110, 3) := by decide +kernel
theorem dX3_commute_28 : decode cX3_commute 28 = .ok (.aload_n 0, 1) := by decide +kernel
theorem dX3_commute_29 : decode cX3_commute 29 = .ok (.iload_n 2, 1) := by decide +kernel
theorem dX3_commute_30 : decode cX3_commute 30 = .ok (.invokevirtual 107, 3) := by decide +kernel
theorem dX3_commute_33 : decode cX3_commute 33 = .ok (.aload_n 0, 1) := by decide +kernel
theorem dX3_commute_34 : decode cX3_commute 34 = .ok (.invokevirtual 113, 3) := by decide +kernel
theorem dX3_commute_37 : decode cX3_commute 37 = .ok (.aload_n 0, 1) := by decide +kernel
theorem dX3_commute_38 : decode cX3_commute 38 = .ok (.getfield 51, 3) := by decide +kernel
theorem dX3_commute_41 : decode cX3_commute 41 = .ok (.istore_n 3, 1) := by decide +kernel
theorem dX3_commute_42 : decode cX3_commute 42 = .ok (.iconst 0, 1) := by decide +kernel
theorem dX3_commute_43 : decode cX3_commute 43 = .ok (.istore 4, 2) := by decide +kernel
theorem dX3_commute_45 : decode cX3_commute 45 = .ok (.iload 4, 2) := by decide +kernel
theorem dX3_commute_47 : decode cX3_commute 47 = .ok (.iconst 4, 1) := by decide +kernel
theorem dX3_commute_48 : decode cX3_commute 48 = .ok (.aload_n 0, 1) := by decide +kernel
theorem dX3_commute_49 : decode cX3_commute 49 = .ok (.getfield 51, 3) := by decide +kernel
theorem dX3_commute_52 : decode cX3_commute 52 = .ok (.imul, 1) := by decide +kernel
theorem dX3_commute_53 : decode cX3_commute 53 = .ok (.if_icmp .ge 23, 3) := by decide +kernel
theorem dX3_commute_56 : decode cX3_commute 56 = .ok (.aload_n 0, 1) := by decide +kernel
theorem dX3_commute_57 : decode cX3_commute 57 = .ok (.getfield 38, 3) := by decide +kernel
theorem dX3_commute_60 : decode cX3_commute 60 = .ok (.iload 4, 2) := by decide +kernel
theorem dX3_commute_62 : decode cX3_commute 62 = .ok (.aload_n 0, 1) := by decide +kernel
theorem dX3_commute_63 : decode cX3_commute 63 = .ok (.getfield 19, 3) := by decide +kernel
theorem dX3_commute_66 : decode cX3_commute 66 = .ok (.iload 4, 2) := by decide +kernel
theorem dX3_commute_68 : decode cX3_commute 68 = .ok (.laload, 1) := by decide +kernel
theorem dX3_commute_69 : decode cX3_commute 69 = .ok (.lastore, 1) := by decide +kernel
theorem dX3_commute_70 : decode cX3_commute 70 = .ok (.iinc 4 1, 3) := by decide +kernel
theorem dX3_commute_73 : decode cX3_commute 73 = .ok (.goto (-28), 3) := by decide +kernel
theorem dX3_commute_76 : decode cX3_commute 76 = .ok (.aload_n 0, 1) := by decide +kernel
theorem dX3_commute_77 : decode cX3_commute 77 = .ok (.iload_n 2, 1) := by decide +kernel
theorem dX3_commute_78 : decode cX3_commute 78 = .ok (.invokevirtual 107, 3) := by decide +kernel
theorem dX3_commute_81 : decode cX3_commute 81 = .ok (.aload_n 0, 1) := by decide +kernel
theorem dX3_commute_82 : decode cX3_commute 82 = .ok (.invokevirtual 110, 3) := by decide +kernel
theorem dX3_commute_85 : decode cX3_commute 85 = .ok (.aload_n 0, 1) := by decide +kernel
theorem dX3_commute_86 : decode cX3_commute 86 = .ok (.iload_n 1, 1) := by decide +kernel
theorem dX3_commute_87 : decode cX3_commute 87 = .ok (.invokevirtual 107, 3) := by decide +kernel
theorem dX3_commute_90 : decode cX3_commute 90 = .ok (.aload_n 0, 1) := by decide +kernel
theorem dX3_commute_91 : decode cX3_commute 91 = .ok (.invokevirtual 113, 3) := by decide +kernel
theorem dX3_commute_94 : decode cX3_commute 94 = .ok (.iload_n 3, 1) := by decide +kernel
theorem dX3_commute_95 : decode cX3_commute 95 = .ok (.bipush 24, 2) := by decide +kernel
theorem dX3_commute_97 : decode cX3_commute 97 = .ok (.if_icmp .gt 12, 3) := by decide +kernel
theorem dX3_commute_100 : decode cX3_commute 100 = .ok (.aload_n 0, 1) := by decide +kernel
theorem dX3_commute_101 : decode cX3_commute 101 = .ok (.getfield 51, 3) := by decide +kernel
theorem dX3_commute_104 : decode cX3_commute 104 = .ok (.bipush 24, 2) := by decide +kernel
theorem dX3_commute_106 : decode cX3_commute 106 = .ok (.if_icmp .le 6, 3) := by decide +kernel
theorem dX3_commute_109 : decode cX3_commute 109 = .ok (.bipush (-104), 2) := by decide +kernel
theorem dX3_commute_111 : decode cX3_commute 111 = .ok (.ireturn, 1) := by decide +kernel
theorem dX3_commute_112 : decode cX3_commute 112 = .ok (.iload_n 3, 1) := by decide +kernel
theorem dX3_commute_113 : decode cX3_commute 113 = .ok (.aload_n 0, 1) := by decide +kernel
theorem dX3_commute_114 : decode cX3_commute 114 = .ok (.getfield 51, 3) := by decide +kernel
theorem dX3_commute_117 : decode cX3_commute 117 = .ok (.if_icmp .ne 7, 3) := by decide +kernel
theorem dX3_commute_120 : decode cX3_commute 120 = .ok (.iconst 1, 1) := by decide +kernel
theorem dX3_commute_121 : decode cX3_commute 121 = .ok (.goto 4, 3) := by decide +kernel
theorem dX3_commute_124 : decode cX3_commute 124 = .ok (.iconst 0, 1) := by decide +kernel
theorem dX3_commute_125 : decode cX3_commute 125 = .ok (.istore 4, 2) := by decide +kernel
theorem dX3_commute_127 : decode cX3_commute 127 = .ok (.iconst 0, 1) := by decide +kernel
theorem dX3_commute_128 : decode cX3_commute 128 = .ok (.istore 5, 2) := by decide +kernel
theorem dX3_commute_130 : decode cX3_commute 130 = .ok (.iload 5, 2) := by decide +kernel
theorem dX3_commute_132 : decode cX3_commute 132 = .ok (.iconst 4, 1) := by decide +kernel
theorem dX3_commute_133 : decode cX3_commute 133 = .ok (.aload_n 0, 1) := by decide +kernel
theorem dX3_commute_134 : decode cX3_commute 134 = .ok (.getfield 51, 3) := by decide +kernel
theorem dX3_commute_137 : decode cX3_commute 137 = .ok (.imul, 1) := by decide +kernel
theorem dX3_commute_138 : decode cX3_commute 138 = .ok (.if_icmp .ge 39, 3) := by decide +kernel
theorem dX3_commute_141 : decode cX3_commute 141 = .ok (.iload 4, 2) := by decide +kernel
theorem dX3_commute_143 : decode cX3_commute 143 = .ok (.ifCond .eq 34, 3) := by decide +kernel
theorem dX3_commute_146 : decode cX3_commute 146 = .ok (.aload_n 0, 1) := by decide +kernel
theorem dX3_commute_147 : decode cX3_commute 147 = .ok (.getfield 38, 3) := by decide +kernel
theorem dX3_commute_150 : decode cX3_commute 150 = .ok (.iload 5, 2) := by decide +kernel
theorem dX3_commute_152 : decode cX3_commute 152 = .ok (.laload, 1) := by decide +kernel
theorem dX3_commute_153 : decode cX3_commute 153 = .ok (.aload_n 0, 1) := by decide +kernel
theorem dX3_commute_154 : decode cX3_commute 154 = .ok (.getfield 19, 3) := by decide +kernel
theorem dX3_commute_157 : decode cX3_commute 157 = .ok (.iload 5, 2) := by decide +kernel
theorem dX3_commute_159 : decode cX3_commute 159 = .ok (.laload, 1) := by decide +kernel
theorem dX3_commute_160 : decode cX3_commute 160 = .ok (.lcmp, 1) := by decide +kernel
theorem dX3_commute_161 : decode cX3_commute 161 = .ok (.ifCond .ne 7, 3) := by decide +kernel
theorem dX3_commute_164 : decode cX3_commute 164 = .ok (.iconst 1, 1) := by decide +kernel
theorem dX3_commute_165 : decode cX3_commute 165 = .ok (.goto 4, 3) := by decide +kernel
theorem dX3_commute_168 : decode cX3_commute 168 = .ok (.iconst 0, 1) := by decide +kernel
theorem dX3_commute_169 : decode cX3_commute 169 = .ok (.istore 4, 2) := by decide +kernel
theorem dX3_commute_171 : decode cX3_commute 171 = .ok (.iinc 5 1, 3) := by decide +kernel
theorem dX3_commute_174 : decode cX3_commute 174 = .ok (.goto (-44), 3) := by decide +kernel
theorem dX3_commute_177 : decode cX3_commute 177 = .ok (.iload 4, 2) := by decide +kernel
theorem dX3_commute_179 : decode cX3_commute 179 = .ok (.ifCond .eq 7, 3) := by decide +kernel
theorem dX3_commute_182 : decode cX3_commute 182 = .ok (.iconst 1, 1) := by decide +kernel
theorem dX3_commute_183 : decode cX3_commute 183 = .ok (.goto 4, 3) := by decide +kernel
theorem dX3_commute_186 : decode cX3_commute 186 = .ok (.iconst 0, 1) := by decide +kernel
theorem dX3_commute_187 : decode cX3_commute 187 = .ok (.ireturn, 1) := by decide +kernel
theorem dX3_order_0 : decode cX3_order 0 = .ok (.aload_n 0, 1) := by decide +kernel
theorem dX3_order_1 : decode cX3_order 1 = .ok (.iload_n 1, 1) := by decide +kernel
theorem dX3_order_2 : decode cX3_order 2 = .ok (.invokevirtual 104, 3) := by decide +kernel
theorem dX3_order_5 : decode cX3_order 5 = .ok (.ifCond .ne 6, 3) := by decide +kernel
theorem dX3_order_8 : decode cX3_order 8 = .ok (.bipush (-101), 2) := by decide +kernel
theorem dX3_order_10 : decode cX3_order 10 = .ok (.ireturn, 1) := by decide +kernel
theorem dX3_order_11 : decode cX3_order 11 = .ok (.aload_n 0, 1) := by decide +kernel
theorem dX3_order_12 : decode cX3_order 12 = .ok (.invokevirtual 123, 3) := by decide +kernel
theorem dX3_order_15 : decode cX3_order 15 = .ok (.iconst 1, 1) := by decide +kernel
theorem dX3_order_16 : decode cX3_order 16 = .ok (.istore_n 2, 1) := by decide +kernel
theorem dX3_order_17 : decode cX3_order 17 = .ok (.iload_n 2, 1) := by decide +kernel
theorem dX3_order_18 : decode cX3_order 18 = .ok (.bipush 40, 2) := by decide +kernel
theorem dX3_order_20 : decode cX3_order 20 = .ok (.if_icmp .gt 42, 3) := by decide +kernel
theorem dX3_order_23 : decode cX3_order 23 = .ok (.aload_n 0, 1) := by decide +kernel
theorem dX3_order_24 : decode cX3_order 24 = .ok (.invokevirtual 110, 3) := by decide +kernel
theorem dX3_order_27 : decode cX3_order 27 = .ok (.aload_n 0, 1) := by decide +kernel
theorem dX3_order_28 : decode cX3_order 28 = .ok (.iload_n 1, 1) := by decide +kernel
theorem dX3_order_29 : decode cX3_order 29 = .ok (.invokevirtual 107, 3) := by decide +kernel
theorem dX3_order_32 : decode cX3_order 32 = .ok (.aload_n 0, 1) := by decide +kernel
theorem dX3_order_33 : decode cX3_order 33 = .ok (.invokevirtual 113, 3) := by decide +kernel
theorem dX3_order_36 : decode cX3_order 36 = .ok (.aload_n 0, 1) := by decide +kernel
theorem dX3_order_37 : decode cX3_order 37 = .ok (.getfield 51, 3) := by decide +kernel
