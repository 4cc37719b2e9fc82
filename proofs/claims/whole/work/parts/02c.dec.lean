theorem dX3_init_0 : decode cX3_init 0 = .ok (.aload_n 0, 1) := by decide +kernel
theorem dX3_init_1 : decode cX3_init 1 = .ok (.invokespecial 1, 3) := by decide +kernel
theorem dX3_init_4 : decode cX3_init 4 = .ok (.aload_n 0, 1) := by decide +kernel
theorem dX3_init_5 : decode cX3_init 5 = .ok (.bipush 12, 2) := by decide +kernel
theorem dX3_init_7 : decode cX3_init 7 = .ok (.newarray .int, 2) := by decide +kernel
theorem dX3_init_9 : decode cX3_init 9 = .ok (.putfield 7, 3) := by decide +kernel
theorem dX3_init_12 : decode cX3_init 12 = .ok (.aload_n 0, 1) := by decide +kernel
theorem dX3_init_13 : decode cX3_init 13 = .ok (.sipush 1152, 3) := by decide +kernel
theorem dX3_init_16 : decode cX3_init 16 = .ok (.newarray .int, 2) := by decide +kernel
theorem dX3_init_18 : decode cX3_init 18 = .ok (.putfield 13, 3) := by decide +kernel
theorem dX3_init_21 : decode cX3_init 21 = .ok (.aload_n 0, 1) := by decide +kernel
theorem dX3_init_22 : decode cX3_init 22 = .ok (.bipush 96, 2) := by decide +kernel
theorem dX3_init_24 : decode cX3_init 24 = .ok (.newarray .int, 2) := by decide +kernel
theorem dX3_init_26 : decode cX3_init 26 = .ok (.putfield 16, 3) := by decide +kernel
theorem dX3_init_29 : decode cX3_init 29 = .ok (.aload_n 0, 1) := by decide +kernel
theorem dX3_init_30 : decode cX3_init 30 = .ok (.sipush 256, 3) := by decide +kernel
theorem dX3_init_33 : decode cX3_init 33 = .ok (.newarray .long, 2) := by decide +kernel
theorem dX3_init_35 : decode cX3_init 35 = .ok (.putfield 19, 3) := by decide +kernel
theorem dX3_init_38 : decode cX3_init 38 = .ok (.aload_n 0, 1) := by decide +kernel
theorem dX3_init_39 : decode cX3_init 39 = .ok (.sipush 256, 3) := by decide +kernel
theorem dX3_init_42 : decode cX3_init 42 = .ok (.newarray .long, 2) := by decide +kernel
theorem dX3_init_44 : decode cX3_init 44 = .ok (.putfield 23, 3) := by decide +kernel
theorem dX3_init_47 : decode cX3_init 47 = .ok (.aload_n 0, 1) := by decide +kernel
theorem dX3_init_48 : decode cX3_init 48 = .ok (.sipush 170, 3) := by decide +kernel
theorem dX3_init_51 : decode cX3_init 51 = .ok (.newarray .int, 2) := by decide +kernel
theorem dX3_init_53 : decode cX3_init 53 = .ok (.putfield 26, 3) := by decide +kernel
theorem dX3_init_56 : decode cX3_init 56 = .ok (.aload_n 0, 1) := by decide +kernel
theorem dX3_init_57 : decode cX3_init 57 = .ok (.sipush 16320, 3) := by decide +kernel
theorem dX3_init_60 : decode cX3_init 60 = .ok (.newarray .int, 2) := by decide +kernel
theorem dX3_init_62 : decode cX3_init 62 = .ok (.putfield 29, 3) := by decide +kernel
theorem dX3_init_65 : decode cX3_init 65 = .ok (.aload_n 0, 1) := by decide +kernel
theorem dX3_init_66 : decode cX3_init 66 = .ok (.bipush 7, 2) := by decide +kernel
theorem dX3_init_68 : decode cX3_init 68 = .ok (.newarray .int, 2) := by decide +kernel
theorem dX3_init_70 : decode cX3_init 70 = .ok (.putfield 32, 3) := by decide +kernel
theorem dX3_init_73 : decode cX3_init 73 = .ok (.aload_n 0, 1) := by decide +kernel
theorem dX3_init_74 : decode cX3_init 74 = .ok (.sipush 256, 3) := by decide +kernel
theorem dX3_init_77 : decode cX3_init 77 = .ok (.newarray .long, 2) := by decide +kernel
theorem dX3_init_79 : decode cX3_init 79 = .ok (.putfield 35, 3) := by decide +kernel
theorem dX3_init_82 : decode cX3_init 82 = .ok (.aload_n 0, 1) := by decide +kernel
theorem dX3_init_83 : decode cX3_init 83 = .ok (.sipush 256, 3) := by decide +kernel
theorem dX3_init_86 : decode cX3_init 86 = .ok (.newarray .long, 2) := by decide +kernel
theorem dX3_init_88 : decode cX3_init 88 = .ok (.putfield 38, 3) := by decide +kernel
theorem dX3_init_91 : decode cX3_init 91 = .ok (.return_, 1) := by decide +kernel
theorem dX3_in_0 : decode cX3_in 0 = .ok (.lload_n 0, 1) := by decide +kernel
theorem dX3_in_1 : decode cX3_in 1 = .ok (.lload_n 2, 1) := by decide +kernel
theorem dX3_in_2 : decode cX3_in 2 = .ok (.lcmp, 1) := by decide +kernel
theorem dX3_in_3 : decode cX3_in 3 = .ok (.ifCond .lt 14, 3) := by decide +kernel
theorem dX3_in_6 : decode cX3_in 6 = .ok (.lload_n 0, 1) := by decide +kernel
theorem dX3_in_7 : decode cX3_in 7 = .ok (.lload 4, 2) := by decide +kernel
theorem dX3_in_9 : decode cX3_in 9 = .ok (.lcmp, 1) := by decide +kernel
theorem dX3_in_10 : decode cX3_in 10 = .ok (.ifCond .gt 7, 3) := by decide +kernel
theorem dX3_in_13 : decode cX3_in 13 = .ok (.iconst 1, 1) := by decide +kernel
theorem dX3_in_14 : decode cX3_in 14 = .ok (.goto 4, 3) := by decide +kernel
theorem dX3_in_17 : decode cX3_in 17 = .ok (.iconst 0, 1) := by decide +kernel
theorem dX3_in_18 : decode cX3_in 18 = .ok (.ireturn, 1) := by decide +kernel
theorem dX3_isSlot_0 : decode cX3_isSlot 0 = .ok (.iload_n 0, 1) := by decide +kernel
theorem dX3_isSlot_1 : decode cX3_isSlot 1 = .ok (.i2l, 1) := by decide +kernel
theorem dX3_isSlot_2 : decode cX3_isSlot 2 = .ok (.lconst 0, 1) := by decide +kernel
theorem dX3_isSlot_3 : decode cX3_isSlot 3 = .ok (.ldc2_w 41, 3) := by decide +kernel
theorem dX3_isSlot_6 : decode cX3_isSlot 6 = .ok (.invokestatic 43, 3) := by decide +kernel
theorem dX3_isSlot_9 : decode cX3_isSlot 9 = .ok (.ireturn, 1) := by decide +kernel
theorem dX3_isMap_0 : decode cX3_isMap 0 = .ok (.iload_n 1, 1) := by decide +kernel
theorem dX3_isMap_1 : decode cX3_isMap 1 = .ok (.invokestatic 47, 3) := by decide +kernel
theorem dX3_isMap_4 : decode cX3_isMap 4 = .ok (.ifCond .eq 16, 3) := by decide +kernel
theorem dX3_isMap_7 : decode cX3_isMap 7 = .ok (.aload_n 0, 1) := by decide +kernel
theorem dX3_isMap_8 : decode cX3_isMap 8 = .ok (.getfield 7, 3) := by decide +kernel
theorem dX3_isMap_11 : decode cX3_isMap 11 = .ok (.iload_n 1, 1) := by decide +kernel
theorem dX3_isMap_12 : decode cX3_isMap 12 = .ok (.iaload, 1) := by decide +kernel
theorem dX3_isMap_13 : decode cX3_isMap 13 = .ok (.ifCond .le 7, 3) := by decide +kernel
theorem dX3_isMap_16 : decode cX3_isMap 16 = .ok (.iconst 1, 1) := by decide +kernel
theorem dX3_isMap_17 : decode cX3_isMap 17 = .ok (.goto 4, 3) := by decide +kernel
theorem dX3_isMap_20 : decode cX3_isMap 20 = .ok (.iconst 0, 1) := by decide +kernel
theorem dX3_isMap_21 : decode cX3_isMap 21 = .ok (.ireturn, 1) := by decide +kernel
theorem dX3_put_0 : decode cX3_put 0 = .ok (.aload_n 0, 1) := by decide +kernel
theorem dX3_put_1 : decode cX3_put 1 = .ok (.getfield 19, 3) := by decide +kernel
theorem dX3_put_4 : decode cX3_put 4 = .ok (.iconst 4, 1) := by decide +kernel
theorem dX3_put_5 : decode cX3_put 5 = .ok (.aload_n 0, 1) := by decide +kernel
theorem dX3_put_6 : decode cX3_put 6 = .ok (.getfield 51, 3) := by decide +kernel
theorem dX3_put_9 : decode cX3_put 9 = .ok (.imul, 1) := by decide +kernel
theorem dX3_put_10 : decode cX3_put 10 = .ok (.lload_n 1, 1) := by decide +kernel
theorem dX3_put_11 : decode cX3_put 11 = .ok (.lastore, 1) := by decide +kernel
theorem dX3_put_12 : decode cX3_put 12 = .ok (.aload_n 0, 1) := by decide +kernel
theorem dX3_put_13 : decode cX3_put 13 = .ok (.getfield 19, 3) := by decide +kernel
theorem dX3_put_16 : decode cX3_put 16 = .ok (.iconst 4, 1) := by decide +kernel
theorem dX3_put_17 : decode cX3_put 17 = .ok (.aload_n 0, 1) := by decide +kernel
theorem dX3_put_18 : decode cX3_put 18 = .ok (.getfield 51, 3) := by decide +kernel
theorem dX3_put_21 : decode cX3_put 21 = .ok (.imul, 1) := by decide +kernel
theorem dX3_put_22 : decode cX3_put 22 = .ok (.iconst 1, 1) := by decide +kernel
theorem dX3_put_23 : decode cX3_put 23 = .ok (.iadd, 1) := by decide +kernel
theorem dX3_put_24 : decode cX3_put 24 = .ok (.lload_n 3, 1) := by decide +kernel
theorem dX3_put_25 : decode cX3_put 25 = .ok (.lastore, 1) := by decide +kernel
theorem dX3_put_26 : decode cX3_put 26 = .ok (.aload_n 0, 1) := by decide +kernel
theorem dX3_put_27 : decode cX3_put 27 = .ok (.getfield 19, 3) := by decide +kernel
theorem dX3_put_30 : decode cX3_put 30 = .ok (.iconst 4, 1) := by decide +kernel
theorem dX3_put_31 : decode cX3_put 31 = .ok (.aload_n 0, 1) := by decide +kernel
theorem dX3_put_32 : decode cX3_put 32 = .ok (.getfield 51, 3) := by decide +kernel
theorem dX3_put_35 : decode cX3_put 35 = .ok (.imul, 1) := by decide +kernel
theorem dX3_put_36 : decode cX3_put 36 = .ok (.iconst 2, 1) := by decide +kernel
theorem dX3_put_37 : decode cX3_put 37 = .ok (.iadd, 1) := by decide +kernel
theorem dX3_put_38 : decode cX3_put 38 = .ok (.lload 5, 2) := by decide +kernel
theorem dX3_put_40 : decode cX3_put 40 = .ok (.lastore, 1) := by decide +kernel
theorem dX3_put_41 : decode cX3_put 41 = .ok (.aload_n 0, 1) := by decide +kernel
theorem dX3_put_42 : decode cX3_put 42 = .ok (.getfield 19, 3) := by decide +kernel
theorem dX3_put_45 : decode cX3_put 45 = .ok (.iconst 4, 1) := by decide +kernel
theorem dX3_put_46 : decode cX3_put 46 = .ok (.aload_n 0, 1) := by decide +kernel
theorem dX3_put_47 : decode cX3_put 47 = .ok (.getfield 51, 3) := by decide +kernel
theorem dX3_put_50 : decode cX3_put 50 = .ok (.imul, 1) := by decide +kernel
theorem dX3_put_51 : decode cX3_put 51 = .ok (.iconst 3, 1) := by decide +kernel
theorem dX3_put_52 : decode cX3_put 52 = .ok (.iadd, 1) := by decide +kernel
theorem dX3_put_53 : decode cX3_put 53 = .ok (.lload 7, 2) := by decide +kernel
theorem dX3_put_55 : decode cX3_put 55 = .ok (.lastore, 1) := by decide +kernel
theorem dX3_put_56 : decode cX3_put 56 = .ok (.aload_n 0, 1) := by decide +kernel
theorem dX3_put_57 : decode cX3_put 57 = .ok (.dup, 1) := by decide +kernel
theorem dX3_put_58 : decode cX3_put 58 = .ok (.getfield 51, 3) := by decide +kernel
theorem dX3_put_61 : decode cX3_put 61 = .ok (.iconst 1, 1) := by decide +kernel
theorem dX3_put_62 : decode cX3_put 62 = .ok (.iadd, 1) := by decide +kernel
theorem dX3_put_63 : decode cX3_put 63 = .ok (.putfield 51, 3) := by decide +kernel
theorem dX3_put_66 : decode cX3_put 66 = .ok (.return_, 1) := by decide +kernel
theorem dX3_load_0 : decode cX3_load 0 = .ok (.aload_n 0, 1) := by decide +kernel
theorem dX3_load_1 : decode cX3_load 1 = .ok (.iconst 0, 1) := by decide +kernel
theorem dX3_load_2 : decode cX3_load 2 = .ok (.putfield 51, 3) := by decide +kernel
theorem dX3_load_5 : decode cX3_load 5 = .ok (.iconst 0, 1) := by decide +kernel
theorem dX3_load_6 : decode cX3_load 6 = .ok (.istore_n 2, 1) := by decide +kernel
theorem dX3_load_7 : decode cX3_load 7 = .ok (.iload_n 2, 1) := by decide +kernel
theorem dX3_load_8 : decode cX3_load 8 = .ok (.aload_n 0, 1) := by decide +kernel
theorem dX3_load_9 : decode cX3_load 9 = .ok (.getfield 7, 3) := by decide +kernel
theorem dX3_load_12 : decode cX3_load 12 = .ok (.iload_n 1, 1) := by decide +kernel
theorem dX3_load_13 : decode cX3_load 13 = .ok (.iaload, 1) := by decide +kernel
theorem dX3_load_14 : decode cX3_load 14 = .ok (.if_icmp .ge 56, 3) := by decide +kernel
theorem dX3_load_17 : decode cX3_load 17 = .ok (.bipush 96, 2) := by decide +kernel
theorem dX3_load_19 : decode cX3_load 19 = .ok (.iload_n 1, 1) := by decide +kernel
theorem dX3_load_20 : decode cX3_load 20 = .ok (.imul, 1) := by decide +kernel
theorem dX3_load_21 : decode cX3_load 21 = .ok (.iconst 4, 1) := by decide +kernel
theorem dX3_load_22 : decode cX3_load 22 = .ok (.iload_n 2, 1) := by decide +kernel
theorem dX3_load_23 : decode cX3_load 23 = .ok (.imul, 1) := by decide +kernel
theorem dX3_load_24 : decode cX3_load 24 = .ok (.iadd, 1) := by decide +kernel
theorem dX3_load_25 : decode cX3_load 25 = .ok (.istore_n 3, 1) := by decide +kernel
theorem dX3_load_26 : decode cX3_load 26 = .ok (.aload_n 0, 1) := by decide +kernel
theorem dX3_load_27 : decode cX3_load 27 = .ok (.aload_n 0, 1) := by decide +kernel
theorem dX3_load_28 : decode cX3_load 28 = .ok (.getfield 13, 3) := by decide +kernel
theorem dX3_load_31 : decode cX3_load 31 = .ok (.iload_n 3, 1) := by decide +kernel
theorem dX3_load_32 : decode cX3_load 32 = .ok (.iaload, 1) := by decide +kernel
theorem dX3_load_33 : decode cX3_load 33 = .ok (.i2l, 1) := by decide +kernel
theorem dX3_load_34 : decode cX3_load 34 = .ok (.aload_n 0, 1) := by decide +kernel
theorem dX3_load_35 : decode cX3_load 35 = .ok (.getfield 13, 3) := by decide +kernel
theorem dX3_load_38 : decode cX3_load 38 = .ok (.iload_n 3, 1) := by decide +kernel
theorem dX3_load_39 : decode cX3_load 39 = .ok (.iconst 1, 1) := by decide +kernel
theorem dX3_load_40 : decode cX3_load 40 = .ok (.iadd, 1) := by decide +kernel
theorem dX3_load_41 : decode cX3_load 41 = .ok (.iaload, 1) := by decide +kernel
theorem dX3_load_42 : decode cX3_load 42 = .ok (.i2l, 1) := by decide +kernel
theorem dX3_load_43 : decode cX3_load 43 = .ok (.aload_n 0, 1) := by decide +kernel
theorem dX3_load_44 : decode cX3_load 44 = .ok (.getfield 13, 3) := by decide +kernel
theorem dX3_load_47 : decode cX3_load 47 = .ok (.iload_n 3, 1) := by decide +kernel
theorem dX3_load_48 : decode cX3_load 48 = .ok (.iconst 2, 1) := by decide +kernel
theorem dX3_load_49 : decode cX3_load 49 = .ok (.iadd, 1) := by decide +kernel
theorem dX3_load_50 : decode cX3_load 50 = .ok (.iaload, 1) := by decide +kernel
theorem dX3_load_51 : decode cX3_load 51 = .ok (.i2l, 1) := by decide +kernel
theorem dX3_load_52 : decode cX3_load 52 = .ok (.aload_n 0, 1) := by decide +kernel
theorem dX3_load_53 : decode cX3_load 53 = .ok (.getfield 13, 3) := by decide +kernel
theorem dX3_load_56 : decode cX3_load 56 = .ok (.iload_n 3, 1) := by decide +kernel
theorem dX3_load_57 : decode cX3_load 57 = .ok (.iconst 3, 1) := by decide +kernel
theorem dX3_load_58 : decode cX3_load 58 = .ok (.iadd, 1) := by decide +kernel
theorem dX3_load_59 : decode cX3_load 59 = .ok (.iaload, 1) := by decide +kernel
theorem dX3_load_60 : decode cX3_load 60 = .ok (.i2l, 1) := by decide +kernel
theorem dX3_load_61 : decode cX3_load 61 = .ok (.invokevirtual 55, 3) := by decide +kernel
theorem dX3_load_64 : decode cX3_load 64 = .ok (.iinc 2 1, 3) := by decide +kernel
theorem dX3_load_67 : decode cX3_load 67 = .ok (.goto (-60), 3) := by decide +kernel
theorem dX3_load_70 : decode cX3_load 70 = .ok (.return_, 1) := by decide +kernel
theorem dX3_store_0 : decode cX3_store 0 = .ok (.aload_n 0, 1) := by decide +kernel
theorem dX3_store_1 : decode cX3_store 1 = .ok (.getfield 7, 3) := by decide +kernel
theorem dX3_store_4 : decode cX3_store 4 = .ok (.iload_n 1, 1) := by decide +kernel
theorem dX3_store_5 : decode cX3_store 5 = .ok (.aload_n 0, 1) := by decide +kernel
theorem dX3_store_6 : decode cX3_store 6 = .ok (.getfield 51, 3) := by decide +kernel
theorem dX3_store_9 : decode cX3_store 9 = .ok (.iastore, 1) := by decide +kernel
theorem dX3_store_10 : decode cX3_store 10 = .ok (.iconst 0, 1) := by decide +kernel
theorem dX3_store_11 : decode cX3_store 11 = .ok (.istore_n 2, 1) := by decide +kernel
theorem dX3_store_12 : decode cX3_store 12 = .ok (.iload_n 2, 1) := by decide +kernel
theorem dX3_store_13 : decode cX3_store 13 = .ok (.iconst 4, 1) := by decide +kernel
theorem dX3_store_14 : decode cX3_store 14 = .ok (.aload_n 0, 1) := by decide +kernel
theorem dX3_store_15 : decode cX3_store 15 = .ok (.getfield 51, 3) := by decide +kernel
theorem dX3_store_18 : decode cX3_store 18 = .ok (.imul, 1) := by decide +kernel
theorem dX3_store_19 : decode cX3_store 19 = .ok (.if_icmp .ge 27, 3) := by decide +kernel
theorem dX3_store_22 : decode cX3_store 22 = .ok (.aload_n 0, 1) := by decide +kernel
theorem dX3_store_23 : decode cX3_store 23 = .ok (.getfield 13, 3) := by decide +kernel
theorem dX3_store_26 : decode cX3_store 26 = .ok (.bipush 96, 2) := by decide +kernel
theorem dX3_store_28 : decode cX3_store 28 = .ok (.iload_n 1, 1) := by decide +kernel
theorem dX3_store_29 : decode cX3_store 29 = .ok (.imul, 1) := by decide +kernel
theorem dX3_store_30 : decode cX3_store 30 = .ok (.iload_n 2, 1) := by decide +kernel
theorem dX3_store_31 : decode cX3_store 31 = .ok (.iadd, 1) := by decide +kernel
theorem dX3_store_32 : decode cX3_store 32 = .ok (.aload_n 0, 1) := by decide +kernel
theorem dX3_store_33 : decode cX3_store 33 = .ok (.getfield 19, 3) := by decide +kernel
theorem dX3_store_36 : decode cX3_store 36 = .ok (.iload_n 2, 1) := by decide +kernel
theorem dX3_store_37 : decode cX3_store 37 = .ok (.laload, 1) := by decide +kernel
theorem dX3_store_38 : decode cX3_store 38 = .ok (.l2i, 1) := by decide +kernel
theorem dX3_store_39 : decode cX3_store 39 = .ok (.iastore, 1) := by decide +kernel
theorem dX3_store_40 : decode cX3_store 40 = .ok (.iinc 2 1, 3) := by decide +kernel
theorem dX3_store_43 : decode cX3_store 43 = .ok (.goto (-31), 3) := by decide +kernel
theorem dX3_store_46 : decode cX3_store 46 = .ok (.return_, 1) := by decide +kernel
theorem dX3_aside_0 : decode cX3_aside 0 = .ok (.aload_n 0, 1) := by decide +kernel
theorem dX3_aside_1 : decode cX3_aside 1 = .ok (.aload_n 0, 1) := by decide +kernel
theorem dX3_aside_2 : decode cX3_aside 2 = .ok (.getfield 51, 3) := by decide +kernel
theorem dX3_aside_5 : decode cX3_aside 5 = .ok (.putfield 59, 3) := by decide +kernel
theorem dX3_aside_8 : decode cX3_aside 8 = .ok (.iconst 0, 1) := by decide +kernel
theorem dX3_aside_9 : decode cX3_aside 9 = .ok (.istore_n 1, 1) := by decide +kernel
theorem dX3_aside_10 : decode cX3_aside 10 = .ok (.iload_n 1, 1) := by decide +kernel
theorem dX3_aside_11 : decode cX3_aside 11 = .ok (.iconst 4, 1) := by decide +kernel
theorem dX3_aside_12 : decode cX3_aside 12 = .ok (.aload_n 0, 1) := by decide +kernel
theorem dX3_aside_13 : decode cX3_aside 13 = .ok (.getfield 51, 3) := by decide +kernel
theorem dX3_aside_16 : decode cX3_aside 16 = .ok (.imul, 1) := by decide +kernel
theorem dX3_aside_17 : decode cX3_aside 17 = .ok (.if_icmp .ge 21, 3) := by decide +kernel
theorem dX3_aside_20 : decode cX3_aside 20 = .ok (.aload_n 0, 1) := by decide +kernel
theorem dX3_aside_21 : decode cX3_aside 21 = .ok (.getfield 23, 3) := by decide +kernel
theorem dX3_aside_24 : decode cX3_aside 24 = .ok (.iload_n 1, 1) := by decide +kernel
theorem dX3_aside_25 : decode cX3_aside 25 = .ok (.aload_n 0, 1) := by decide +kernel
theorem dX3_aside_26 : decode cX3_aside 26 = .ok (.getfield 19, 3) := by decide +kernel
theorem dX3_aside_29 : decode cX3_aside 29 = .ok (.iload_n 1, 1) := by decide +kernel
theorem dX3_aside_30 : decode cX3_aside 30 = .ok (.laload, 1) := by decide +kernel
theorem dX3_aside_31 : decode cX3_aside 31 = .ok (.lastore, 1) := by decide +kernel
theorem dX3_aside_32 : decode cX3_aside 32 = .ok (.iinc 1 1, 3) := by decide +kernel
theorem dX3_aside_35 : decode cX3_aside 35 = .ok (.goto (-25), 3) := by decide +kernel
theorem dX3_aside_38 : decode cX3_aside 38 = .ok (.return_, 1) := by decide +kernel
theorem dX3_nothing_0 : decode cX3_nothing 0 = .ok (.aload_n 0, 1) := by decide +kernel
theorem dX3_nothing_1 : decode cX3_nothing 1 = .ok (.iconst 0, 1) := by decide +kernel
theorem dX3_nothing_2 : decode cX3_nothing 2 = .ok (.putfield 51, 3) := by decide +kernel
theorem dX3_nothing_5 : decode cX3_nothing 5 = .ok (.aload_n 0, 1) := by decide +kernel
theorem dX3_nothing_6 : decode cX3_nothing 6 = .ok (.lconst 0, 1) := by decide +kernel
theorem dX3_nothing_7 : decode cX3_nothing 7 = .ok (.lconst 0, 1) := by decide +kernel
theorem dX3_nothing_8 : decode cX3_nothing 8 = .ok (.lconst 0, 1) := by decide +kernel
theorem dX3_nothing_9 : decode cX3_nothing 9 = .ok (.lconst 0, 1) := by decide +kernel
theorem dX3_nothing_10 : decode cX3_nothing 10 = .ok (.invokevirtual 55, 3) := by decide +kernel
theorem dX3_nothing_13 : decode cX3_nothing 13 = .ok (.return_, 1) := by decide +kernel
theorem dX3_turnWork_0 : decode cX3_turnWork 0 = .ok (.iconst 0, 1) := by decide +kernel
theorem dX3_turnWork_1 : decode cX3_turnWork 1 = .ok (.istore_n 1, 1) := by decide +kernel
theorem dX3_turnWork_2 : decode cX3_turnWork 2 = .ok (.iload_n 1, 1) := by decide +kernel
theorem dX3_turnWork_3 : decode cX3_turnWork 3 = .ok (.aload_n 0, 1) := by decide +kernel
theorem dX3_turnWork_4 : decode cX3_turnWork 4 = .ok (.getfield 51, 3) := by decide +kernel
theorem dX3_turnWork_7 : decode cX3_turnWork 7 = .ok (.if_icmp .ge 91, 3) := by decide +kernel
theorem dX3_turnWork_10 : decode cX3_turnWork 10 = .ok (.aload_n 0, 1) := by decide +kernel
theorem dX3_turnWork_11 : decode cX3_turnWork 11 = .ok (.getfield 19, 3) := by decide +kernel
theorem dX3_turnWork_14 : decode cX3_turnWork 14 = .ok (.iconst 4, 1) := by decide +kernel
theorem dX3_turnWork_15 : decode cX3_turnWork 15 = .ok (.iload_n 1, 1) := by decide +kernel
theorem dX3_turnWork_16 : decode cX3_turnWork 16 = .ok (.imul, 1) := by decide +kernel
theorem dX3_turnWork_17 : decode cX3_turnWork 17 = .ok (.laload, 1) := by decide +kernel
theorem dX3_turnWork_18 : decode cX3_turnWork 18 = .ok (.lstore_n 2, 1) := by decide +kernel
theorem dX3_turnWork_19 : decode cX3_turnWork 19 = .ok (.aload_n 0, 1) := by decide +kernel
theorem dX3_turnWork_20 : decode cX3_turnWork 20 = .ok (.getfield 19, 3) := by decide +kernel
theorem dX3_turnWork_23 : decode cX3_turnWork 23 = .ok (.iconst 4, 1) := by decide +kernel
theorem dX3_turnWork_24 : decode cX3_turnWork 24 = .ok (.iload_n 1, 1) := by decide +kernel
theorem dX3_turnWork_25 : decode cX3_turnWork 25 = .ok (.imul, 1) := by decide +kernel
theorem dX3_turnWork_26 : decode cX3_turnWork 26 = .ok (.iconst 1, 1) := by decide +kernel
theorem dX3_turnWork_27 : decode cX3_turnWork 27 = .ok (.iadd, 1) := by decide +kernel
theorem dX3_turnWork_28 : decode cX3_turnWork 28 = .ok (.laload, 1) := by decide +kernel
theorem dX3_turnWork_29 : decode cX3_turnWork 29 = .ok (.lstore 4, 2) := by decide +kernel
theorem dX3_turnWork_31 : decode cX3_turnWork 31 = .ok (.aload_n 0, 1) := by decide +kernel
theorem dX3_turnWork_32 : decode cX3_turnWork 32 = .ok (.getfield 19, 3) := by decide +kernel
theorem dX3_turnWork_35 : decode cX3_turnWork 35 = .ok (.iconst 4, 1) := by decide +kernel
theorem dX3_turnWork_36 : decode cX3_turnWork 36 = .ok (.iload_n 1, 1) := by decide +kernel
theorem dX3_turnWork_37 : decode cX3_turnWork 37 = .ok (.imul, 1) := by decide +kernel
theorem dX3_turnWork_38 : decode cX3_turnWork 38 = .ok (.aload_n 0, 1) := by decide +kernel
theorem dX3_turnWork_39 : decode cX3_turnWork 39 = .ok (.getfield 19, 3) := by decide +kernel
theorem dX3_turnWork_42 : decode cX3_turnWork 42 = .ok (.iconst 4, 1) := by decide +kernel
theorem dX3_turnWork_43 : decode cX3_turnWork 43 = .ok (.iload_n 1, 1) := by decide +kernel
theorem dX3_turnWork_44 : decode cX3_turnWork 44 = .ok (.imul, 1) := by decide +kernel
theorem dX3_turnWork_45 : decode cX3_turnWork 45 = .ok (.iconst 2, 1) := by decide +kernel
theorem dX3_turnWork_46 : decode cX3_turnWork 46 = .ok (.iadd, 1) := by decide +kernel
theorem dX3_turnWork_47 : decode cX3_turnWork 47 = .ok (.laload, 1) := by decide +kernel
theorem dX3_turnWork_48 : decode cX3_turnWork 48 = .ok (.lastore, 1) := by decide +kernel
theorem dX3_turnWork_49 : decode cX3_turnWork 49 = .ok (.aload_n 0, 1) := by decide +kernel
theorem dX3_turnWork_50 : decode cX3_turnWork 50 = .ok (.getfield 19, 3) := by decide +kernel
theorem dX3_turnWork_53 : decode cX3_turnWork 53 = .ok (.iconst 4, 1) := by decide +kernel
theorem dX3_turnWork_54 : decode cX3_turnWork 54 = .ok (.iload_n 1, 1) := by decide +kernel
theorem dX3_turnWork_55 : decode cX3_turnWork 55 = .ok (.imul, 1) := by decide +kernel
theorem dX3_turnWork_56 : decode cX3_turnWork 56 = .ok (.iconst 1, 1) := by decide +kernel
theorem dX3_turnWork_57 : decode cX3_turnWork 57 = .ok (.iadd, 1) := by decide +kernel
theorem dX3_turnWork_58 : decode cX3_turnWork 58 = .ok (.aload_n 0, 1) := by decide +kernel
theorem dX3_turnWork_59 : decode cX3_turnWork 59 = .ok (.getfield 19, 3) := by decide +kernel
theorem dX3_turnWork_62 : decode cX3_turnWork 62 = .ok (.iconst 4, 1) := by decide +kernel
theorem dX3_turnWork_63 : decode cX3_turnWork 63 = .ok (.iload_n 1, 1) := by decide +kernel
theorem dX3_turnWork_64 : decode cX3_turnWork 64 = .ok (.imul, 1) := by decide +kernel
theorem dX3_turnWork_65 : decode cX3_turnWork 65 = .ok (.iconst 3, 1) := by decide +kernel
theorem dX3_turnWork_66 : decode cX3_turnWork 66 = .ok (.iadd, 1) := by decide +kernel
theorem dX3_turnWork_67 : decode cX3_turnWork 67 = .ok (.laload, 1) := by decide +kernel
theorem dX3_turnWork_68 : decode cX3_turnWork 68 = .ok (.lastore, 1) := by decide +kernel
theorem dX3_turnWork_69 : decode cX3_turnWork 69 = .ok (.aload_n 0, 1) := by decide +kernel
theorem dX3_turnWork_70 : decode cX3_turnWork 70 = .ok (.getfield 19, 3) := by decide +kernel
theorem dX3_turnWork_73 : decode cX3_turnWork 73 = .ok (.iconst 4, 1) := by decide +kernel
theorem dX3_turnWork_74 : decode cX3_turnWork 74 = .ok (.iload_n 1, 1) := by decide +kernel
theorem dX3_turnWork_75 : decode cX3_turnWork 75 = .ok (.imul, 1) := by decide +kernel
theorem dX3_turnWork_76 : decode cX3_turnWork 76 = .ok (.iconst 2, 1) := by decide +kernel
theorem dX3_turnWork_77 : decode cX3_turnWork 77 = .ok (.iadd, 1) := by decide +kernel
theorem dX3_turnWork_78 : decode cX3_turnWork 78 = .ok (.lload_n 2, 1) := by decide +kernel
theorem dX3_turnWork_79 : decode cX3_turnWork 79 = .ok (.lastore, 1) := by decide +kernel
theorem dX3_turnWork_80 : decode cX3_turnWork 80 = .ok (.aload_n 0, 1) := by decide +kernel
theorem dX3_turnWork_81 : decode cX3_turnWork 81 = .ok (.getfield 19, 3) := by decide +kernel
theorem dX3_turnWork_84 : decode cX3_turnWork 84 = .ok (.iconst 4, 1) := by decide +kernel
theorem dX3_turnWork_85 : decode cX3_turnWork 85 = .ok (.iload_n 1, 1) := by decide +kernel
theorem dX3_turnWork_86 : decode cX3_turnWork 86 = .ok (.imul, 1) := by decide +kernel
theorem dX3_turnWork_87 : decode cX3_turnWork 87 = .ok (.iconst 3, 1) := by decide +kernel
theorem dX3_turnWork_88 : decode cX3_turnWork 88 = .ok (.iadd, 1) := by decide +kernel
theorem dX3_turnWork_89 : decode cX3_turnWork 89 = .ok (.lload 4, 2) := by decide +kernel
theorem dX3_turnWork_91 : decode cX3_turnWork 91 = .ok (.lastore, 1) := by decide +kernel
theorem dX3_turnWork_92 : decode cX3_turnWork 92 = .ok (.iinc 1 1, 3) := by decide +kernel
theorem dX3_turnWork_95 : decode cX3_turnWork 95 = .ok (.goto (-93), 3) := by decide +kernel
theorem dX3_turnWork_98 : decode cX3_turnWork 98 = .ok (.aload_n 0, 1) := by decide +kernel
theorem dX3_turnWork_99 : decode cX3_turnWork 99 = .ok (.invokevirtual 62, 3) := by decide +kernel
theorem dX3_turnWork_102 : decode cX3_turnWork 102 = .ok (.return_, 1) := by decide +kernel
theorem dX3_remove_0 : decode cX3_remove 0 = .ok (.aload_n 0, 1) := by decide +kernel
theorem dX3_remove_1 : decode cX3_remove 1 = .ok (.dup, 1) := by decide +kernel
theorem dX3_remove_2 : decode cX3_remove 2 = .ok (.getfield 51, 3) := by decide +kernel
theorem dX3_remove_5 : decode cX3_remove 5 = .ok (.iconst 1, 1) := by decide +kernel
theorem dX3_remove_6 : decode cX3_remove 6 = .ok (.isub, 1) := by decide +kernel
theorem dX3_remove_7 : decode cX3_remove 7 = .ok (.putfield 51, 3) := by decide +kernel
theorem dX3_remove_10 : decode cX3_remove 10 = .ok (.iconst 0, 1) := by decide +kernel
theorem dX3_remove_11 : decode cX3_remove 11 = .ok (.istore_n 2, 1) := by decide +kernel
theorem dX3_remove_12 : decode cX3_remove 12 = .ok (.iload_n 2, 1) := by decide +kernel
theorem dX3_remove_13 : decode cX3_remove 13 = .ok (.iconst 4, 1) := by decide +kernel
theorem dX3_remove_14 : decode cX3_remove 14 = .ok (.if_icmp .ge 32, 3) := by decide +kernel
theorem dX3_remove_17 : decode cX3_remove 17 = .ok (.aload_n 0, 1) := by decide +kernel
theorem dX3_remove_18 : decode cX3_remove 18 = .ok (.getfield 19, 3) := by decide +kernel
theorem dX3_remove_21 : decode cX3_remove 21 = .ok (.iconst 4, 1) := by decide +kernel
theorem dX3_remove_22 : decode cX3_remove 22 = .ok (.iload_n 1, 1) := by decide +kernel
theorem dX3_remove_23 : decode cX3_remove 23 = .ok (.imul, 1) := by decide +kernel
theorem dX3_remove_24 : decode cX3_remove 24 = .ok (.iload_n 2, 1) := by decide +kernel
theorem dX3_remove_25 : decode cX3_remove 25 = .ok (.iadd, 1) := by decide +kernel
theorem dX3_remove_26 : decode cX3_remove 26 = .ok (.aload_n 0, 1) := by decide +kernel
theorem dX3_remove_27 : decode cX3_remove 27 = .ok (.getfield 19, 3) := by decide +kernel
theorem dX3_remove_30 : decode cX3_remove 30 = .ok (.iconst 4, 1) := by decide +kernel
theorem dX3_remove_31 : decode cX3_remove 31 = .ok (.aload_n 0, 1) := by decide +kernel
theorem dX3_remove_32 : decode cX3_remove 32 = .ok (.getfield 51, 3) := by decide +kernel
theorem dX3_remove_35 : decode cX3_remove 35 = .ok (.imul, 1) := by decide +kernel
theorem dX3_remove_36 : decode cX3_remove 36 = .ok (.iload_n 2, 1) := by decide +kernel
theorem dX3_remove_37 : decode cX3_remove 37 = .ok (.iadd, 1) := by decide +kernel
theorem dX3_remove_38 : decode cX3_remove 38 = .ok (.laload, 1) := by decide +kernel
theorem dX3_remove_39 : decode cX3_remove 39 = .ok (.lastore, 1) := by decide +kernel
theorem dX3_remove_40 : decode cX3_remove 40 = .ok (.iinc 2 1, 3) := by decide +kernel
theorem dX3_remove_43 : decode cX3_remove 43 = .ok (.goto (-31), 3) := by decide +kernel
theorem dX3_remove_46 : decode cX3_remove 46 = .ok (.return_, 1) := by decide +kernel
theorem dX3_reduce_0 : decode cX3_reduce 0 = .ok (.iconst 1, 1) := by decide +kernel
theorem dX3_reduce_1 : decode cX3_reduce 1 = .ok (.istore_n 1, 1) := by decide +kernel
theorem dX3_reduce_2 : decode cX3_reduce 2 = .ok (.iload_n 1, 1) := by decide +kernel
theorem dX3_reduce_3 : decode cX3_reduce 3 = .ok (.ifCond .eq 275, 3) := by decide +kernel
theorem dX3_reduce_6 : decode cX3_reduce 6 = .ok (.iconst 0, 1) := by decide +kernel
theorem dX3_reduce_7 : decode cX3_reduce 7 = .ok (.istore_n 1, 1) := by decide +kernel
theorem dX3_reduce_8 : decode cX3_reduce 8 = .ok (.iconst 0, 1) := by decide +kernel
theorem dX3_reduce_9 : decode cX3_reduce 9 = .ok (.istore_n 2, 1) := by decide +kernel
theorem dX3_reduce_10 : decode cX3_reduce 10 = .ok (.iload_n 2, 1) := by decide +kernel
theorem dX3_reduce_11 : decode cX3_reduce 11 = .ok (.aload_n 0, 1) := by decide +kernel
theorem dX3_reduce_12 : decode cX3_reduce 12 = .ok (.getfield 51, 3) := by decide +kernel
theorem dX3_reduce_15 : decode cX3_reduce 15 = .ok (.if_icmp .ge 260, 3) := by decide +kernel
theorem dX3_reduce_18 : decode cX3_reduce 18 = .ok (.iload_n 1, 1) := by decide +kernel
theorem dX3_reduce_19 : decode cX3_reduce 19 = .ok (.ifCond .ne 256, 3) := by decide +kernel
theorem dX3_reduce_22 : decode cX3_reduce 22 = .ok (.iconst 0, 1) := by decide +kernel
theorem dX3_reduce_23 : decode cX3_reduce 23 = .ok (.istore_n 3, 1) := by decide +kernel
theorem dX3_reduce_24 : decode cX3_reduce 24 = .ok (.iload_n 3, 1) := by decide +kernel
theorem dX3_reduce_25 : decode cX3_reduce 25 = .ok (.aload_n 0, 1) := by decide +kernel
theorem dX3_reduce_26 : decode cX3_reduce 26 = .ok (.getfield 51, 3) := by decide +kernel
theorem dX3_reduce_29 : decode cX3_reduce 29 = .ok (.if_icmp .ge 240, 3) := by decide +kernel
theorem dX3_reduce_32 : decode cX3_reduce 32 = .ok (.iload_n 1, 1) := by decide +kernel
theorem dX3_reduce_33 : decode cX3_reduce 33 = .ok (.ifCond .ne 236, 3) := by decide +kernel
theorem dX3_reduce_36 : decode cX3_reduce 36 = .ok (.aload_n 0, 1) := by decide +kernel
theorem dX3_reduce_37 : decode cX3_reduce 37 = .ok (.getfield 19, 3) := by decide +kernel
theorem dX3_reduce_40 : decode cX3_reduce 40 = .ok (.iconst 4, 1) := by decide +kernel
theorem dX3_reduce_41 : decode cX3_reduce 41 = .ok (.iload_n 2, 1) := by decide +kernel
theorem dX3_reduce_42 : decode cX3_reduce 42 = .ok (.imul, 1) := by decide +kernel
theorem dX3_reduce_43 : decode cX3_reduce 43 = .ok (.laload, 1) := by decide +kernel
theorem dX3_reduce_44 : decode cX3_reduce 44 = .ok (.lconst 0, 1) := by decide +kernel
theorem dX3_reduce_45 : decode cX3_reduce 45 = .ok (.lcmp, 1) := by decide +kernel
theorem dX3_reduce_46 : decode cX3_reduce 46 = .ok (.ifCond .le 217, 3) := by decide +kernel
theorem dX3_reduce_49 : decode cX3_reduce 49 = .ok (.aload_n 0, 1) := by decide +kernel
theorem dX3_reduce_50 : decode cX3_reduce 50 = .ok (.getfield 19, 3) := by decide +kernel
theorem dX3_reduce_53 : decode cX3_reduce 53 = .ok (.iconst 4, 1) := by decide +kernel
theorem dX3_reduce_54 : decode cX3_reduce 54 = .ok (.iload_n 2, 1) := by decide +kernel
theorem dX3_reduce_55 : decode cX3_reduce 55 = .ok (.imul, 1) := by decide +kernel
theorem dX3_reduce_56 : decode cX3_reduce 56 = .ok (.iconst 2, 1) := by decide +kernel
theorem dX3_reduce_57 : decode cX3_reduce 57 = .ok (.iadd, 1) := by decide +kernel
theorem dX3_reduce_58 : decode cX3_reduce 58 = .ok (.laload, 1) := by decide +kernel
theorem dX3_reduce_59 : decode cX3_reduce 59 = .ok (.lconst 0, 1) := by decide +kernel
theorem dX3_reduce_60 : decode cX3_reduce 60 = .ok (.lcmp, 1) := by decide +kernel
theorem dX3_reduce_61 : decode cX3_reduce 61 = .ok (.ifCond .le 202, 3) := by decide +kernel
theorem dX3_reduce_64 : decode cX3_reduce 64 = .ok (.aload_n 0, 1) := by decide +kernel
theorem dX3_reduce_65 : decode cX3_reduce 65 = .ok (.getfield 19, 3) := by decide +kernel
theorem dX3_reduce_68 : decode cX3_reduce 68 = .ok (.iconst 4, 1) := by decide +kernel
theorem dX3_reduce_69 : decode cX3_reduce 69 = .ok (.iload_n 2, 1) := by decide +kernel
theorem dX3_reduce_70 : decode cX3_reduce 70 = .ok (.imul, 1) := by decide +kernel
theorem dX3_reduce_71 : decode cX3_reduce 71 = .ok (.laload, 1) := by decide +kernel
theorem dX3_reduce_72 : decode cX3_reduce 72 = .ok (.aload_n 0, 1) := by decide +kernel
theorem dX3_reduce_73 : decode cX3_reduce 73 = .ok (.getfield 19, 3) := by decide +kernel
theorem dX3_reduce_76 : decode cX3_reduce 76 = .ok (.iconst 4, 1) := by decide +kernel
theorem dX3_reduce_77 : decode cX3_reduce 77 = .ok (.iload_n 3, 1) := by decide +kernel
theorem dX3_reduce_78 : decode cX3_reduce 78 = .ok (.imul, 1) := by decide +kernel
theorem dX3_reduce_79 : decode cX3_reduce 79 = .ok (.laload, 1) := by decide +kernel
theorem dX3_reduce_80 : decode cX3_reduce 80 = .ok (.lcmp, 1) := by decide +kernel
theorem dX3_reduce_81 : decode cX3_reduce 81 = .ok (.ifCond .ne 182, 3) := by decide +kernel
theorem dX3_reduce_84 : decode cX3_reduce 84 = .ok (.aload_n 0, 1) := by decide +kernel
theorem dX3_reduce_85 : decode cX3_reduce 85 = .ok (.getfield 19, 3) := by decide +kernel
theorem dX3_reduce_88 : decode cX3_reduce 88 = .ok (.iconst 4, 1) := by decide +kernel
theorem dX3_reduce_89 : decode cX3_reduce 89 = .ok (.iload_n 2, 1) := by decide +kernel
theorem dX3_reduce_90 : decode cX3_reduce 90 = .ok (.imul, 1) := by decide +kernel
theorem dX3_reduce_91 : decode cX3_reduce 91 = .ok (.iconst 2, 1) := by decide +kernel
theorem dX3_reduce_92 : decode cX3_reduce 92 = .ok (.iadd, 1) := by decide +kernel
theorem dX3_reduce_93 : decode cX3_reduce 93 = .ok (.laload, 1) := by decide +kernel
theorem dX3_reduce_94 : decode cX3_reduce 94 = .ok (.aload_n 0, 1) := by decide +kernel
theorem dX3_reduce_95 : decode cX3_reduce 95 = .ok (.getfield 19, 3) := by decide +kernel
theorem dX3_reduce_98 : decode cX3_reduce 98 = .ok (.iconst 4, 1) := by decide +kernel
theorem dX3_reduce_99 : decode cX3_reduce 99 = .ok (.iload_n 3, 1) := by decide +kernel
theorem dX3_reduce_100 : decode cX3_reduce 100 = .ok (.imul, 1) := by decide +kernel
theorem dX3_reduce_101 : decode cX3_reduce 101 = .ok (.iconst 2, 1) := by decide +kernel
theorem dX3_reduce_102 : decode cX3_reduce 102 = .ok (.iadd, 1) := by decide +kernel
theorem dX3_reduce_103 : decode cX3_reduce 103 = .ok (.laload, 1) := by decide +kernel
theorem dX3_reduce_104 : decode cX3_reduce 104 = .ok (.lcmp, 1) := by decide +kernel
theorem dX3_reduce_105 : decode cX3_reduce 105 = .ok (.ifCond .ne 158, 3) := by decide +kernel
theorem dX3_reduce_108 : decode cX3_reduce 108 = .ok (.aload_n 0, 1) := by decide +kernel
theorem dX3_reduce_109 : decode cX3_reduce 109 = .ok (.getfield 19, 3) := by decide +kernel
theorem dX3_reduce_112 : decode cX3_reduce 112 = .ok (.iconst 4, 1) := by decide +kernel
theorem dX3_reduce_113 : decode cX3_reduce 113 = .ok (.iload_n 2, 1) := by decide +kernel
theorem dX3_reduce_114 : decode cX3_reduce 114 = .ok (.imul, 1) := by decide +kernel
theorem dX3_reduce_115 : decode cX3_reduce 115 = .ok (.iconst 1, 1) := by decide +kernel
theorem dX3_reduce_116 : decode cX3_reduce 116 = .ok (.iadd, 1) := by decide +kernel
theorem dX3_reduce_117 : decode cX3_reduce 117 = .ok (.laload, 1) := by decide +kernel
theorem dX3_reduce_118 : decode cX3_reduce 118 = .ok (.ldc2_w 65, 3) := by decide +kernel
theorem dX3_reduce_121 : decode cX3_reduce 121 = .ok (.lrem, 1) := by decide +kernel
theorem dX3_reduce_122 : decode cX3_reduce 122 = .ok (.lconst 0, 1) := by decide +kernel
theorem dX3_reduce_123 : decode cX3_reduce 123 = .ok (.lcmp, 1) := by decide +kernel
theorem dX3_reduce_124 : decode cX3_reduce 124 = .ok (.ifCond .ne 139, 3) := by decide +kernel
theorem dX3_reduce_127 : decode cX3_reduce 127 = .ok (.aload_n 0, 1) := by decide +kernel
theorem dX3_reduce_128 : decode cX3_reduce 128 = .ok (.getfield 19, 3) := by decide +kernel
theorem dX3_reduce_131 : decode cX3_reduce 131 = .ok (.iconst 4, 1) := by decide +kernel
theorem dX3_reduce_132 : decode cX3_reduce 132 = .ok (.iload_n 3, 1) := by decide +kernel
theorem dX3_reduce_133 : decode cX3_reduce 133 = .ok (.imul, 1) := by decide +kernel
theorem dX3_reduce_134 : decode cX3_reduce 134 = .ok (.iconst 1, 1) := by decide +kernel
theorem dX3_reduce_135 : decode cX3_reduce 135 = .ok (.iadd, 1) := by decide +kernel
theorem dX3_reduce_136 : decode cX3_reduce 136 = .ok (.laload, 1) := by decide +kernel
theorem dX3_reduce_137 : decode cX3_reduce 137 = .ok (.aload_n 0, 1) := by decide +kernel
theorem dX3_reduce_138 : decode cX3_reduce 138 = .ok (.getfield 19, 3) := by decide +kernel
theorem dX3_reduce_141 : decode cX3_reduce 141 = .ok (.iconst 4, 1) := by decide +kernel
theorem dX3_reduce_142 : decode cX3_reduce 142 = .ok (.iload_n 2, 1) := by decide +kernel
theorem dX3_reduce_143 : decode cX3_reduce 143 = .ok (.imul, 1) := by decide +kernel
theorem dX3_reduce_144 : decode cX3_reduce 144 = .ok (.iconst 1, 1) := by decide +kernel
theorem dX3_reduce_145 : decode cX3_reduce 145 = .ok (.iadd, 1) := by decide +kernel
theorem dX3_reduce_146 : decode cX3_reduce 146 = .ok (.laload, 1) := by decide +kernel
theorem dX3_reduce_147 : decode cX3_reduce 147 = .ok (.lconst 1, 1) := by decide +kernel
theorem dX3_reduce_148 : decode cX3_reduce 148 = .ok (.ladd, 1) := by decide +kernel
theorem dX3_reduce_149 : decode cX3_reduce 149 = .ok (.lcmp, 1) := by decide +kernel
theorem dX3_reduce_150 : decode cX3_reduce 150 = .ok (.ifCond .ne 113, 3) := by decide +kernel
theorem dX3_reduce_153 : decode cX3_reduce 153 = .ok (.aload_n 0, 1) := by decide +kernel
theorem dX3_reduce_154 : decode cX3_reduce 154 = .ok (.getfield 19, 3) := by decide +kernel
theorem dX3_reduce_157 : decode cX3_reduce 157 = .ok (.iconst 4, 1) := by decide +kernel
theorem dX3_reduce_158 : decode cX3_reduce 158 = .ok (.iload_n 2, 1) := by decide +kernel
theorem dX3_reduce_159 : decode cX3_reduce 159 = .ok (.imul, 1) := by decide +kernel
theorem dX3_reduce_160 : decode cX3_reduce 160 = .ok (.iconst 3, 1) := by decide +kernel
theorem dX3_reduce_161 : decode cX3_reduce 161 = .ok (.iadd, 1) := by decide +kernel
theorem dX3_reduce_162 : decode cX3_reduce 162 = .ok (.laload, 1) := by decide +kernel
theorem dX3_reduce_163 : decode cX3_reduce 163 = .ok (.ldc2_w 65, 3) := by decide +kernel
theorem dX3_reduce_166 : decode cX3_reduce 166 = .ok (.lrem, 1) := by decide +kernel
theorem dX3_reduce_167 : decode cX3_reduce 167 = .ok (.lconst 0, 1) := by decide +kernel
theorem dX3_reduce_168 : decode cX3_reduce 168 = .ok (.lcmp, 1) := by decide +kernel
theorem dX3_reduce_169 : decode cX3_reduce 169 = .ok (.ifCond .ne 94, 3) := by decide +kernel
theorem dX3_reduce_172 : decode cX3_reduce 172 = .ok (.aload_n 0, 1) := by decide +kernel
theorem dX3_reduce_173 : decode cX3_reduce 173 = .ok (.getfield 19, 3) := by decide +kernel
theorem dX3_reduce_176 : decode cX3_reduce 176 = .ok (.iconst 4, 1) := by decide +kernel
theorem dX3_reduce_177 : decode cX3_reduce 177 = .ok (.iload_n 3, 1) := by decide +kernel
theorem dX3_reduce_178 : decode cX3_reduce 178 = .ok (.imul, 1) := by decide +kernel
theorem dX3_reduce_179 : decode cX3_reduce 179 = .ok (.iconst 3, 1) := by decide +kernel
theorem dX3_reduce_180 : decode cX3_reduce 180 = .ok (.iadd, 1) := by decide +kernel
theorem dX3_reduce_181 : decode cX3_reduce 181 = .ok (.laload, 1) := by decide +kernel
theorem dX3_reduce_182 : decode cX3_reduce 182 = .ok (.aload_n 0, 1) := by decide +kernel
theorem dX3_reduce_183 : decode cX3_reduce 183 = .ok (.getfield 19, 3) := by decide +kernel
theorem dX3_reduce_186 : decode cX3_reduce 186 = .ok (.iconst 4, 1) := by decide +kernel
theorem dX3_reduce_187 : decode cX3_reduce 187 = .ok (.iload_n 2, 1) := by decide +kernel
theorem dX3_reduce_188 : decode cX3_reduce 188 = .ok (.imul, 1) := by decide +kernel
theorem dX3_reduce_189 : decode cX3_reduce 189 = .ok (.iconst 3, 1) := by decide +kernel
theorem dX3_reduce_190 : decode cX3_reduce 190 = .ok (.iadd, 1) := by decide +kernel
theorem dX3_reduce_191 : decode cX3_reduce 191 = .ok (.laload, 1) := by decide +kernel
theorem dX3_reduce_192 : decode cX3_reduce 192 = .ok (.lconst 1, 1) := by decide +kernel
theorem dX3_reduce_193 : decode cX3_reduce 193 = .ok (.ladd, 1) := by decide +kernel
theorem dX3_reduce_194 : decode cX3_reduce 194 = .ok (.lcmp, 1) := by decide +kernel
theorem dX3_reduce_195 : decode cX3_reduce 195 = .ok (.ifCond .ne 68, 3) := by decide +kernel
theorem dX3_reduce_198 : decode cX3_reduce 198 = .ok (.aload_n 0, 1) := by decide +kernel
theorem dX3_reduce_199 : decode cX3_reduce 199 = .ok (.getfield 19, 3) := by decide +kernel
theorem dX3_reduce_202 : decode cX3_reduce 202 = .ok (.iconst 4, 1) := by decide +kernel
theorem dX3_reduce_203 : decode cX3_reduce 203 = .ok (.iload_n 2, 1) := by decide +kernel
theorem dX3_reduce_204 : decode cX3_reduce 204 = .ok (.imul, 1) := by decide +kernel
theorem dX3_reduce_205 : decode cX3_reduce 205 = .ok (.dup2, 1) := by decide +kernel
theorem dX3_reduce_206 : decode cX3_reduce 206 = .ok (.laload, 1) := by decide +kernel
theorem dX3_reduce_207 : decode cX3_reduce 207 = .ok (.lconst 1, 1) := by decide +kernel
theorem dX3_reduce_208 : decode cX3_reduce 208 = .ok (.lsub, 1) := by decide +kernel
theorem dX3_reduce_209 : decode cX3_reduce 209 = .ok (.lastore, 1) := by decide +kernel
theorem dX3_reduce_210 : decode cX3_reduce 210 = .ok (.aload_n 0, 1) := by decide +kernel
theorem dX3_reduce_211 : decode cX3_reduce 211 = .ok (.getfield 19, 3) := by decide +kernel
theorem dX3_reduce_214 : decode cX3_reduce 214 = .ok (.iconst 4, 1) := by decide +kernel
theorem dX3_reduce_215 : decode cX3_reduce 215 = .ok (.iload_n 2, 1) := by decide +kernel
theorem dX3_reduce_216 : decode cX3_reduce 216 = .ok (.imul, 1) := by decide +kernel
theorem dX3_reduce_217 : decode cX3_reduce 217 = .ok (.iconst 1, 1) := by decide +kernel
theorem dX3_reduce_218 : decode cX3_reduce 218 = .ok (.iadd, 1) := by decide +kernel
theorem dX3_reduce_219 : decode cX3_reduce 219 = .ok (.dup2, 1) := by decide +kernel
theorem dX3_reduce_220 : decode cX3_reduce 220 = .ok (.laload, 1) := by decide +kernel
theorem dX3_reduce_221 : decode cX3_reduce 221 = .ok (.ldc2_w 65, 3) := by decide +kernel
theorem dX3_reduce_224 : decode cX3_reduce 224 = .ok (.ldiv, 1) := by decide +kernel
theorem dX3_reduce_225 : decode cX3_reduce 225 = .ok (.lastore, 1) := by decide +kernel
theorem dX3_reduce_226 : decode cX3_reduce 226 = .ok (.aload_n 0, 1) := by decide +kernel
theorem dX3_reduce_227 : decode cX3_reduce 227 = .ok (.getfield 19, 3) := by decide +kernel
theorem dX3_reduce_230 : decode cX3_reduce 230 = .ok (.iconst 4, 1) := by decide +kernel
theorem dX3_reduce_231 : decode cX3_reduce 231 = .ok (.iload_n 2, 1) := by decide +kernel
theorem dX3_reduce_232 : decode cX3_reduce 232 = .ok (.imul, 1) := by decide +kernel
theorem dX3_reduce_233 : decode cX3_reduce 233 = .ok (.iconst 2, 1) := by decide +kernel
theorem dX3_reduce_234 : decode cX3_reduce 234 = .ok (.iadd, 1) := by decide +kernel
theorem dX3_reduce_235 : decode cX3_reduce 235 = .ok (.dup2, 1) := by decide +kernel
theorem dX3_reduce_236 : decode cX3_reduce 236 = .ok (.laload, 1) := by decide +kernel
theorem dX3_reduce_237 : decode cX3_reduce 237 = .ok (.lconst 1, 1) := by decide +kernel
theorem dX3_reduce_238 : decode cX3_reduce 238 = .ok (.lsub, 1) := by decide +kernel
theorem dX3_reduce_239 : decode cX3_reduce 239 = .ok (.lastore, 1) := by decide +kernel
theorem dX3_reduce_240 : decode cX3_reduce 240 = .ok (.aload_n 0, 1) := by decide +kernel
theorem dX3_reduce_241 : decode cX3_reduce 241 = .ok (.getfield 19, 3) := by decide +kernel
theorem dX3_reduce_244 : decode cX3_reduce 244 = .ok (.iconst 4, 1) := by decide +kernel
theorem dX3_reduce_245 : decode cX3_reduce 245 = .ok (.iload_n 2, 1) := by decide +kernel
theorem dX3_reduce_246 : decode cX3_reduce 246 = .ok (.imul, 1) := by decide +kernel
theorem dX3_reduce_247 : decode cX3_reduce 247 = .ok (.iconst 3, 1) := by decide +kernel
theorem dX3_reduce_248 : decode cX3_reduce 248 = .ok (.iadd, 1) := by decide +kernel
theorem dX3_reduce_249 : decode cX3_reduce 249 = .ok (.dup2, 1) := by decide +kernel
theorem dX3_reduce_250 : decode cX3_reduce 250 = .ok (.laload, 1) := by decide +kernel
theorem dX3_reduce_251 : decode cX3_reduce 251 = .ok (.ldc2_w 65, 3) := by decide +kernel
theorem dX3_reduce_254 : decode cX3_reduce 254 = .ok (.ldiv, 1) := by decide +kernel
theorem dX3_reduce_255 : decode cX3_reduce 255 = .ok (.lastore, 1) := by decide +kernel
theorem dX3_reduce_256 : decode cX3_reduce 256 = .ok (.aload_n 0, 1) := by decide +kernel
theorem dX3_reduce_257 : decode cX3_reduce 257 = .ok (.iload_n 3, 1) := by decide +kernel
theorem dX3_reduce_258 : decode cX3_reduce 258 = .ok (.invokevirtual 67, 3) := by decide +kernel
theorem dX3_reduce_261 : decode cX3_reduce 261 = .ok (.iconst 1, 1) := by decide +kernel
theorem dX3_reduce_262 : decode cX3_reduce 262 = .ok (.istore_n 1, 1) := by decide +kernel
theorem dX3_reduce_263 : decode cX3_reduce 263 = .ok (.iinc 3 1, 3) := by decide +kernel
theorem dX3_reduce_266 : decode cX3_reduce 266 = .ok (.goto (-242), 3) := by decide +kernel
theorem dX3_reduce_269 : decode cX3_reduce 269 = .ok (.iinc 2 1, 3) := by decide +kernel
theorem dX3_reduce_272 : decode cX3_reduce 272 = .ok (.goto (-262), 3) := by decide +kernel
theorem dX3_reduce_275 : decode cX3_reduce 275 = .ok (.goto (-273), 3) := by decide +kernel
theorem dX3_reduce_278 : decode cX3_reduce 278 = .ok (.aload_n 0, 1) := by decide +kernel
theorem dX3_reduce_279 : decode cX3_reduce 279 = .ok (.invokevirtual 62, 3) := by decide +kernel
theorem dX3_reduce_282 : decode cX3_reduce 282 = .ok (.return_, 1) := by decide +kernel
theorem dX3_isLeft_0 : decode cX3_isLeft 0 = .ok (.aload_n 0, 1) := by decide +kernel
theorem dX3_isLeft_1 : decode cX3_isLeft 1 = .ok (.getfield 19, 3) := by decide +kernel
theorem dX3_isLeft_4 : decode cX3_isLeft 4 = .ok (.iconst 4, 1) := by decide +kernel
theorem dX3_isLeft_5 : decode cX3_isLeft 5 = .ok (.iload_n 1, 1) := by decide +kernel
theorem dX3_isLeft_6 : decode cX3_isLeft 6 = .ok (.imul, 1) := by decide +kernel
theorem dX3_isLeft_7 : decode cX3_isLeft 7 = .ok (.iload_n 3, 1) := by decide +kernel
theorem dX3_isLeft_8 : decode cX3_isLeft 8 = .ok (.iadd, 1) := by decide +kernel
theorem dX3_isLeft_9 : decode cX3_isLeft 9 = .ok (.laload, 1) := by decide +kernel
theorem dX3_isLeft_10 : decode cX3_isLeft 10 = .ok (.lstore 4, 2) := by decide +kernel
theorem dX3_isLeft_12 : decode cX3_isLeft 12 = .ok (.aload_n 0, 1) := by decide +kernel
theorem dX3_isLeft_13 : decode cX3_isLeft 13 = .ok (.getfield 19, 3) := by decide +kernel
theorem dX3_isLeft_16 : decode cX3_isLeft 16 = .ok (.iconst 4, 1) := by decide +kernel
theorem dX3_isLeft_17 : decode cX3_isLeft 17 = .ok (.iload_n 2, 1) := by decide +kernel
theorem dX3_isLeft_18 : decode cX3_isLeft 18 = .ok (.imul, 1) := by decide +kernel
theorem dX3_isLeft_19 : decode cX3_isLeft 19 = .ok (.iload_n 3, 1) := by decide +kernel
theorem dX3_isLeft_20 : decode cX3_isLeft 20 = .ok (.iadd, 1) := by decide +kernel
theorem dX3_isLeft_21 : decode cX3_isLeft 21 = .ok (.laload, 1) := by decide +kernel
theorem dX3_isLeft_22 : decode cX3_isLeft 22 = .ok (.lstore 6, 2) := by decide +kernel
theorem dX3_isLeft_24 : decode cX3_isLeft 24 = .ok (.lload 4, 2) := by decide +kernel
theorem dX3_isLeft_26 : decode cX3_isLeft 26 = .ok (.lload 6, 2) := by decide +kernel
theorem dX3_isLeft_28 : decode cX3_isLeft 28 = .ok (.lcmp, 1) := by decide +kernel
theorem dX3_isLeft_29 : decode cX3_isLeft 29 = .ok (.ifCond .le 8, 3) := by decide +kernel
theorem dX3_isLeft_32 : decode cX3_isLeft 32 = .ok (.lload 4, 2) := by decide +kernel
theorem dX3_isLeft_34 : decode cX3_isLeft 34 = .ok (.goto 5, 3) := by decide +kernel
theorem dX3_isLeft_37 : decode cX3_isLeft 37 = .ok (.lload 6, 2) := by decide +kernel
theorem dX3_isLeft_39 : decode cX3_isLeft 39 = .ok (.lstore 8, 2) := by decide +kernel
theorem dX3_isLeft_41 : decode cX3_isLeft 41 = .ok (.aload_n 0, 1) := by decide +kernel
theorem dX3_isLeft_42 : decode cX3_isLeft 42 = .ok (.getfield 19, 3) := by decide +kernel
theorem dX3_isLeft_45 : decode cX3_isLeft 45 = .ok (.iconst 4, 1) := by decide +kernel
theorem dX3_isLeft_46 : decode cX3_isLeft 46 = .ok (.iload_n 1, 1) := by decide +kernel
theorem dX3_isLeft_47 : decode cX3_isLeft 47 = .ok (.imul, 1) := by decide +kernel
theorem dX3_isLeft_48 : decode cX3_isLeft 48 = .ok (.iload_n 3, 1) := by decide +kernel
theorem dX3_isLeft_49 : decode cX3_isLeft 49 = .ok (.iadd, 1) := by decide +kernel
theorem dX3_isLeft_50 : decode cX3_isLeft 50 = .ok (.iconst 1, 1) := by decide +kernel
theorem dX3_isLeft_51 : decode cX3_isLeft 51 = .ok (.iadd, 1) := by decide +kernel
theorem dX3_isLeft_52 : decode cX3_isLeft 52 = .ok (.laload, 1) := by decide +kernel
theorem dX3_isLeft_53 : decode cX3_isLeft 53 = .ok (.lload 8, 2) := by decide +kernel
theorem dX3_isLeft_55 : decode cX3_isLeft 55 = .ok (.lload 4, 2) := by decide +kernel
theorem dX3_isLeft_57 : decode cX3_isLeft 57 = .ok (.lsub, 1) := by decide +kernel
theorem dX3_isLeft_58 : decode cX3_isLeft 58 = .ok (.l2i, 1) := by decide +kernel
theorem dX3_isLeft_59 : decode cX3_isLeft 59 = .ok (.lshl, 1) := by decide +kernel
theorem dX3_isLeft_60 : decode cX3_isLeft 60 = .ok (.aload_n 0, 1) := by decide +kernel
theorem dX3_isLeft_61 : decode cX3_isLeft 61 = .ok (.getfield 19, 3) := by decide +kernel
theorem dX3_isLeft_64 : decode cX3_isLeft 64 = .ok (.iconst 4, 1) := by decide +kernel
theorem dX3_isLeft_65 : decode cX3_isLeft 65 = .ok (.iload_n 2, 1) := by decide +kernel
theorem dX3_isLeft_66 : decode cX3_isLeft 66 = .ok (.imul, 1) := by decide +kernel
theorem dX3_isLeft_67 : decode cX3_isLeft 67 = .ok (.iload_n 3, 1) := by decide +kernel
theorem dX3_isLeft_68 : decode cX3_isLeft 68 = .ok (.iadd, 1) := by decide +kernel
theorem dX3_isLeft_69 : decode cX3_isLeft 69 = .ok (.iconst 1, 1) := by decide +kernel
theorem dX3_isLeft_70 : decode cX3_isLeft 70 = .ok (.iadd, 1) := by decide +kernel
theorem dX3_isLeft_71 : decode cX3_isLeft 71 = .ok (.laload, 1) := by decide +kernel
theorem dX3_isLeft_72 : decode cX3_isLeft 72 = .ok (.lload 8, 2) := by decide +kernel
theorem dX3_isLeft_74 : decode cX3_isLeft 74 = .ok (.lload 6, 2) := by decide +kernel
theorem dX3_isLeft_76 : decode cX3_isLeft 76 = .ok (.lsub, 1) := by decide +kernel
theorem dX3_isLeft_77 : decode cX3_isLeft 77 = .ok (.l2i, 1) := by decide +kernel
theorem dX3_isLeft_78 : decode cX3_isLeft 78 = .ok (.lshl, 1) := by decide +kernel
theorem dX3_isLeft_79 : decode cX3_isLeft 79 = .ok (.lcmp, 1) := by decide +kernel
theorem dX3_isLeft_80 : decode cX3_isLeft 80 = .ok (.ifCond .ge 7, 3) := by decide +kernel
theorem dX3_isLeft_83 : decode cX3_isLeft 83 = .ok (.iconst 1, 1) := by decide +kernel
theorem dX3_isLeft_84 : decode cX3_isLeft 84 = .ok (.goto 4, 3) := by decide +kernel
theorem dX3_isLeft_87 : decode cX3_isLeft 87 = .ok (.iconst 0, 1) := by decide +kernel
theorem dX3_isLeft_88 : decode cX3_isLeft 88 = .ok (.ireturn, 1) := by decide +kernel
theorem dX3_swap_0 : decode cX3_swap 0 = .ok (.iconst 0, 1) := by decide +kernel
theorem dX3_swap_1 : decode cX3_swap 1 = .ok (.istore_n 3, 1) := by decide +kernel
theorem dX3_swap_2 : decode cX3_swap 2 = .ok (.iload_n 3, 1) := by decide +kernel
theorem dX3_swap_3 : decode cX3_swap 3 = .ok (.iconst 4, 1) := by decide +kernel
theorem dX3_swap_4 : decode cX3_swap 4 = .ok (.if_icmp .ge 53, 3) := by decide +kernel
theorem dX3_swap_7 : decode cX3_swap 7 = .ok (.aload_n 0, 1) := by decide +kernel
theorem dX3_swap_8 : decode cX3_swap 8 = .ok (.getfield 19, 3) := by decide +kernel
theorem dX3_swap_11 : decode cX3_swap 11 = .ok (.iconst 4, 1) := by decide +kernel
theorem dX3_swap_12 : decode cX3_swap 12 = .ok (.iload_n 1, 1) := by decide +kernel
theorem dX3_swap_13 : decode cX3_swap 13 = .ok (.imul, 1) := by decide +kernel
theorem dX3_swap_14 : decode cX3_swap 14 = .ok (.iload_n 3, 1) := by decide +kernel
theorem dX3_swap_15 : decode cX3_swap 15 = .ok (.iadd, 1) := by decide +kernel
theorem dX3_swap_16 : decode cX3_swap 16 = .ok (.laload, 1) := by decide +kernel
theorem dX3_swap_17 : decode cX3_swap 17 = .ok (.lstore 4, 2) := by decide +kernel
theorem dX3_swap_19 : decode cX3_swap 19 = .ok (.aload_n 0, 1) := by decide +kernel
theorem dX3_swap_20 : decode cX3_swap 20 = .ok (.getfield 19, 3) := by decide +kernel
theorem dX3_swap_23 : decode cX3_swap 23 = .ok (.iconst 4, 1) := by decide +kernel
theorem dX3_swap_24 : decode cX3_swap 24 = .ok (.iload_n 1, 1) := by decide +kernel
theorem dX3_swap_25 : decode cX3_swap 25 = .ok (.imul, 1) := by decide +kernel
theorem dX3_swap_26 : decode cX3_swap 26 = .ok (.iload_n 3, 1) := by decide +kernel
theorem dX3_swap_27 : decode cX3_swap 27 = .ok (.iadd, 1) := by decide +kernel
theorem dX3_swap_28 : decode cX3_swap 28 = .ok (.aload_n 0, 1) := by decide +kernel
theorem dX3_swap_29 : decode cX3_swap 29 = .ok (.getfield 19, 3) := by decide +kernel
theorem dX3_swap_32 : decode cX3_swap 32 = .ok (.iconst 4, 1) := by decide +kernel
theorem dX3_swap_33 : decode cX3_swap 33 = .ok (.iload_n 2, 1) := by decide +kernel
theorem dX3_swap_34 : decode cX3_swap 34 = .ok (.imul, 1) := by decide +kernel
theorem dX3_swap_35 : decode cX3_swap 35 = .ok (.iload_n 3, 1) := by decide +kernel
theorem dX3_swap_36 : decode cX3_swap 36 = .ok (.iadd, 1) := by decide +kernel
theorem dX3_swap_37 : decode cX3_swap 37 = .ok (.laload, 1) := by decide +kernel
theorem dX3_swap_38 : decode cX3_swap 38 = .ok (.lastore, 1) := by decide +kernel
theorem dX3_swap_39 : decode cX3_swap 39 = .ok (.aload_n 0, 1) := by decide +kernel
theorem dX3_swap_40 : decode cX3_swap 40 = .ok (.getfield 19, 3) := by decide +kernel
theorem dX3_swap_43 : decode cX3_swap 43 = .ok (.iconst 4, 1) := by decide +kernel
theorem dX3_swap_44 : decode cX3_swap 44 = .ok (.iload_n 2, 1) := by decide +kernel
theorem dX3_swap_45 : decode cX3_swap 45 = .ok (.imul, 1) := by decide +kernel
theorem dX3_swap_46 : decode cX3_swap 46 = .ok (.iload_n 3, 1) := by decide +kernel
theorem dX3_swap_47 : decode cX3_swap 47 = .ok (.iadd, 1) := by decide +kernel
theorem dX3_swap_48 : decode cX3_swap 48 = .ok (.lload 4, 2) := by decide +kernel
theorem dX3_swap_50 : decode cX3_swap 50 = .ok (.lastore, 1) := by decide +kernel
theorem dX3_swap_51 : decode cX3_swap 51 = .ok (.iinc 3 1, 3) := by decide +kernel
theorem dX3_swap_54 : decode cX3_swap 54 = .ok (.goto (-52), 3) := by decide +kernel
theorem dX3_swap_57 : decode cX3_swap 57 = .ok (.return_, 1) := by decide +kernel
theorem dX3_arrange_0 : decode cX3_arrange 0 = .ok (.iconst 1, 1) := by decide +kernel
theorem dX3_arrange_1 : decode cX3_arrange 1 = .ok (.istore_n 1, 1) := by decide +kernel
theorem dX3_arrange_2 : decode cX3_arrange 2 = .ok (.iload_n 1, 1) := by decide +kernel
theorem dX3_arrange_3 : decode cX3_arrange 3 = .ok (.aload_n 0, 1) := by decide +kernel
theorem dX3_arrange_4 : decode cX3_arrange 4 = .ok (.getfield 51, 3) := by decide +kernel
theorem dX3_arrange_7 : decode cX3_arrange 7 = .ok (.if_icmp .ge 41, 3) := by decide +kernel
theorem dX3_arrange_10 : decode cX3_arrange 10 = .ok (.iload_n 1, 1) := by decide +kernel
theorem dX3_arrange_11 : decode cX3_arrange 11 = .ok (.istore_n 2, 1) := by decide +kernel
theorem dX3_arrange_12 : decode cX3_arrange 12 = .ok (.iload_n 2, 1) := by decide +kernel
theorem dX3_arrange_13 : decode cX3_arrange 13 = .ok (.ifCond .le 29, 3) := by decide +kernel
theorem dX3_arrange_16 : decode cX3_arrange 16 = .ok (.aload_n 0, 1) := by decide +kernel
theorem dX3_arrange_17 : decode cX3_arrange 17 = .ok (.iload_n 2, 1) := by decide +kernel
theorem dX3_arrange_18 : decode cX3_arrange 18 = .ok (.iload_n 2, 1) := by decide +kernel
theorem dX3_arrange_19 : decode cX3_arrange 19 = .ok (.iconst 1, 1) := by decide +kernel
theorem dX3_arrange_20 : decode cX3_arrange 20 = .ok (.isub, 1) := by decide +kernel
theorem dX3_arrange_21 : decode cX3_arrange 21 = .ok (.iconst 0, 1) := by decide +kernel
theorem dX3_arrange_22 : decode cX3_arrange 22 = .ok (.invokevirtual 71, 3) := by decide +kernel
theorem dX3_arrange_25 : decode cX3_arrange 25 = .ok (.ifCond .eq 17, 3) := by decide +kernel
theorem dX3_arrange_28 : decode cX3_arrange 28 = .ok (.aload_n 0, 1) := by decide +kernel
theorem dX3_arrange_29 : decode cX3_arrange 29 = .ok (.iload_n 2, 1) := by decide +kernel
theorem dX3_arrange_30 : decode cX3_arrange 30 = .ok (.iload_n 2, 1) := by decide +kernel
theorem dX3_arrange_31 : decode cX3_arrange 31 = .ok (.iconst 1, 1) := by decide +kernel
theorem dX3_arrange_32 : decode cX3_arrange 32 = .ok (.isub, 1) := by decide +kernel
theorem dX3_arrange_33 : decode cX3_arrange 33 = .ok (.invokevirtual 75, 3) := by decide +kernel
theorem dX3_arrange_36 : decode cX3_arrange 36 = .ok (.iinc 2 (-1), 3) := by decide +kernel
theorem dX3_arrange_39 : decode cX3_arrange 39 = .ok (.goto (-27), 3) := by decide +kernel
theorem dX3_arrange_42 : decode cX3_arrange 42 = .ok (.iinc 1 1, 3) := by decide +kernel
theorem dX3_arrange_45 : decode cX3_arrange 45 = .ok (.goto (-43), 3) := by decide +kernel
theorem dX3_arrange_48 : decode cX3_arrange 48 = .ok (.return_, 1) := by decide +kernel
theorem dX3_follow_0 : decode cX3_follow 0 = .ok (.iconst 0, 1) := by decide +kernel
theorem dX3_follow_1 : decode cX3_follow 1 = .ok (.istore_n 1, 1) := by decide +kernel
theorem dX3_follow_2 : decode cX3_follow 2 = .ok (.iconst 0, 1) := by decide +kernel
theorem dX3_follow_3 : decode cX3_follow 3 = .ok (.istore_n 2, 1) := by decide +kernel
theorem dX3_follow_4 : decode cX3_follow 4 = .ok (.iload_n 2, 1) := by decide +kernel
theorem dX3_follow_5 : decode cX3_follow 5 = .ok (.aload_n 0, 1) := by decide +kernel
theorem dX3_follow_6 : decode cX3_follow 6 = .ok (.getfield 59, 3) := by decide +kernel
theorem dX3_follow_9 : decode cX3_follow 9 = .ok (.if_icmp .ge 326, 3) := by decide +kernel
theorem dX3_follow_12 : decode cX3_follow 12 = .ok (.iconst 0, 1) := by decide +kernel
theorem dX3_follow_13 : decode cX3_follow 13 = .ok (.istore_n 3, 1) := by decide +kernel
theorem dX3_follow_14 : decode cX3_follow 14 = .ok (.iload_n 3, 1) := by decide +kernel
theorem dX3_follow_15 : decode cX3_follow 15 = .ok (.aload_n 0, 1) := by decide +kernel
theorem dX3_follow_16 : decode cX3_follow 16 = .ok (.getfield 51, 3) := by decide +kernel
theorem dX3_follow_19 : decode cX3_follow 19 = .ok (.if_icmp .ge 310, 3) := by decide +kernel
theorem dX3_follow_22 : decode cX3_follow 22 = .ok (.aload_n 0, 1) := by decide +kernel
theorem dX3_follow_23 : decode cX3_follow 23 = .ok (.getfield 23, 3) := by decide +kernel
theorem dX3_follow_26 : decode cX3_follow 26 = .ok (.iconst 4, 1) := by decide +kernel
theorem dX3_follow_27 : decode cX3_follow 27 = .ok (.iload_n 2, 1) := by decide +kernel
theorem dX3_follow_28 : decode cX3_follow 28 = .ok (.imul, 1) := by decide +kernel
theorem dX3_follow_29 : decode cX3_follow 29 = .ok (.iconst 2, 1) := by decide +kernel
theorem dX3_follow_30 : decode cX3_follow 30 = .ok (.iadd, 1) := by decide +kernel
theorem dX3_follow_31 : decode cX3_follow 31 = .ok (.laload, 1) := by decide +kernel
theorem dX3_follow_32 : decode cX3_follow 32 = .ok (.lstore 4, 2) := by decide +kernel
theorem dX3_follow_34 : decode cX3_follow 34 = .ok (.aload_n 0, 1) := by decide +kernel
theorem dX3_follow_35 : decode cX3_follow 35 = .ok (.getfield 23, 3) := by decide +kernel
theorem dX3_follow_38 : decode cX3_follow 38 = .ok (.iconst 4, 1) := by decide +kernel
theorem dX3_follow_39 : decode cX3_follow 39 = .ok (.iload_n 2, 1) := by decide +kernel
theorem dX3_follow_40 : decode cX3_follow 40 = .ok (.imul, 1) := by decide +kernel
theorem dX3_follow_41 : decode cX3_follow 41 = .ok (.iconst 3, 1) := by decide +kernel
theorem dX3_follow_42 : decode cX3_follow 42 = .ok (.iadd, 1) := by decide +kernel
theorem dX3_follow_43 : decode cX3_follow 43 = .ok (.laload, 1) := by decide +kernel
theorem dX3_follow_44 : decode cX3_follow 44 = .ok (.lstore 6, 2) := by decide +kernel
theorem dX3_follow_46 : decode cX3_follow 46 = .ok (.aload_n 0, 1) := by decide +kernel
theorem dX3_follow_47 : decode cX3_follow 47 = .ok (.getfield 19, 3) := by decide +kernel
theorem dX3_follow_50 : decode cX3_follow 50 = .ok (.iconst 4, 1) := by decide +kernel
theorem dX3_follow_51 : decode cX3_follow 51 = .ok (.iload_n 3, 1) := by decide +kernel
theorem dX3_follow_52 : decode cX3_follow 52 = .ok (.imul, 1) := by decide +kernel
theorem dX3_follow_53 : decode cX3_follow 53 = .ok (.laload, 1) := by decide +kernel
theorem dX3_follow_54 : decode cX3_follow 54 = .ok (.lstore 8, 2) := by decide +kernel
theorem dX3_follow_56 : decode cX3_follow 56 = .ok (.aload_n 0, 1) := by decide +kernel
theorem dX3_follow_57 : decode cX3_follow 57 = .ok (.getfield 19, 3) := by decide +kernel
theorem dX3_follow_60 : decode cX3_follow 60 = .ok (.iconst 4, 1) := by decide +kernel
theorem dX3_follow_61 : decode cX3_follow 61 = .ok (.iload_n 3, 1) := by decide +kernel
theorem dX3_follow_62 : decode cX3_follow 62 = .ok (.imul, 1) := by decide +kernel
theorem dX3_follow_63 : decode cX3_follow 63 = .ok (.iconst 1, 1) := by decide +kernel
theorem dX3_follow_64 : decode cX3_follow 64 = .ok (.iadd, 1) := by decide +kernel
theorem dX3_follow_65 : decode cX3_follow 65 = .ok (.laload, 1) := by decide +kernel
theorem dX3_follow_66 : decode cX3_follow 66 = .ok (.lstore 10, 2) := by decide +kernel
theorem dX3_follow_68 : decode cX3_follow 68 = .ok (.lload 4, 2) := by decide +kernel
theorem dX3_follow_70 : decode cX3_follow 70 = .ok (.lload 8, 2) := by decide +kernel
theorem dX3_follow_72 : decode cX3_follow 72 = .ok (.lcmp, 1) := by decide +kernel
theorem dX3_follow_73 : decode cX3_follow 73 = .ok (.ifCond .lt 124, 3) := by decide +kernel
theorem dX3_follow_76 : decode cX3_follow 76 = .ok (.lload 6, 2) := by decide +kernel
theorem dX3_follow_78 : decode cX3_follow 78 = .ok (.lload 4, 2) := by decide +kernel
theorem dX3_follow_80 : decode cX3_follow 80 = .ok (.lload 8, 2) := by decide +kernel
theorem dX3_follow_82 : decode cX3_follow 82 = .ok (.lsub, 1) := by decide +kernel
theorem dX3_follow_83 : decode cX3_follow 83 = .ok (.l2i, 1) := by decide +kernel
theorem dX3_follow_84 : decode cX3_follow 84 = .ok (.lshr, 1) := by decide +kernel
theorem dX3_follow_85 : decode cX3_follow 85 = .ok (.lload 10, 2) := by decide +kernel
theorem dX3_follow_87 : decode cX3_follow 87 = .ok (.lcmp, 1) := by decide +kernel
theorem dX3_follow_88 : decode cX3_follow 88 = .ok (.ifCond .ne 109, 3) := by decide +kernel
theorem dX3_follow_91 : decode cX3_follow 91 = .ok (.lload 4, 2) := by decide +kernel
theorem dX3_follow_93 : decode cX3_follow 93 = .ok (.lload 8, 2) := by decide +kernel
theorem dX3_follow_95 : decode cX3_follow 95 = .ok (.lsub, 1) := by decide +kernel
theorem dX3_follow_96 : decode cX3_follow 96 = .ok (.lstore 12, 2) := by decide +kernel
theorem dX3_follow_98 : decode cX3_follow 98 = .ok (.aload_n 0, 1) := by decide +kernel
theorem dX3_follow_99 : decode cX3_follow 99 = .ok (.getfield 35, 3) := by decide +kernel
theorem dX3_follow_102 : decode cX3_follow 102 = .ok (.iconst 4, 1) := by decide +kernel
theorem dX3_follow_103 : decode cX3_follow 103 = .ok (.iload_n 1, 1) := by decide +kernel
theorem dX3_follow_104 : decode cX3_follow 104 = .ok (.imul, 1) := by decide +kernel
theorem dX3_follow_105 : decode cX3_follow 105 = .ok (.aload_n 0, 1) := by decide +kernel
theorem dX3_follow_106 : decode cX3_follow 106 = .ok (.getfield 23, 3) := by decide +kernel
theorem dX3_follow_109 : decode cX3_follow 109 = .ok (.iconst 4, 1) := by decide +kernel
theorem dX3_follow_110 : decode cX3_follow 110 = .ok (.iload_n 2, 1) := by decide +kernel
theorem dX3_follow_111 : decode cX3_follow 111 = .ok (.imul, 1) := by decide +kernel
theorem dX3_follow_112 : decode cX3_follow 112 = .ok (.laload, 1) := by decide +kernel
theorem dX3_follow_113 : decode cX3_follow 113 = .ok (.lastore, 1) := by decide +kernel
theorem dX3_follow_114 : decode cX3_follow 114 = .ok (.aload_n 0, 1) := by decide +kernel
theorem dX3_follow_115 : decode cX3_follow 115 = .ok (.getfield 35, 3) := by decide +kernel
theorem dX3_follow_118 : decode cX3_follow 118 = .ok (.iconst 4, 1) := by decide +kernel
theorem dX3_follow_119 : decode cX3_follow 119 = .ok (.iload_n 1, 1) := by decide +kernel
theorem dX3_follow_120 : decode cX3_follow 120 = .ok (.imul, 1) := by decide +kernel
theorem dX3_follow_121 : decode cX3_follow 121 = .ok (.iconst 1, 1) := by decide +kernel
theorem dX3_follow_122 : decode cX3_follow 122 = .ok (.iadd, 1) := by decide +kernel
theorem dX3_follow_123 : decode cX3_follow 123 = .ok (.aload_n 0, 1) := by decide +kernel
theorem dX3_follow_124 : decode cX3_follow 124 = .ok (.getfield 23, 3) := by decide +kernel
theorem dX3_follow_127 : decode cX3_follow 127 = .ok (.iconst 4, 1) := by decide +kernel
theorem dX3_follow_128 : decode cX3_follow 128 = .ok (.iload_n 2, 1) := by decide +kernel
theorem dX3_follow_129 : decode cX3_follow 129 = .ok (.imul, 1) := by decide +kernel
theorem dX3_follow_130 : decode cX3_follow 130 = .ok (.iconst 1, 1) := by decide +kernel
theorem dX3_follow_131 : decode cX3_follow 131 = .ok (.iadd, 1) := by decide +kernel
theorem dX3_follow_132 : decode cX3_follow 132 = .ok (.laload, 1) := by decide +kernel
theorem dX3_follow_133 : decode cX3_follow 133 = .ok (.lastore, 1) := by decide +kernel
theorem dX3_follow_134 : decode cX3_follow 134 = .ok (.aload_n 0, 1) := by decide +kernel
theorem dX3_follow_135 : decode cX3_follow 135 = .ok (.getfield 35, 3) := by decide +kernel
theorem dX3_follow_138 : decode cX3_follow 138 = .ok (.iconst 4, 1) := by decide +kernel
theorem dX3_follow_139 : decode cX3_follow 139 = .ok (.iload_n 1, 1) := by decide +kernel
theorem dX3_follow_140 : decode cX3_follow 140 = .ok (.imul, 1) := by decide +kernel
theorem dX3_follow_141 : decode cX3_follow 141 = .ok (.iconst 2, 1) := by decide +kernel
theorem dX3_follow_142 : decode cX3_follow 142 = .ok (.iadd, 1) := by decide +kernel
theorem dX3_follow_143 : decode cX3_follow 143 = .ok (.aload_n 0, 1) := by decide +kernel
theorem dX3_follow_144 : decode cX3_follow 144 = .ok (.getfield 19, 3) := by decide +kernel
theorem dX3_follow_147 : decode cX3_follow 147 = .ok (.iconst 4, 1) := by decide +kernel
theorem dX3_follow_148 : decode cX3_follow 148 = .ok (.iload_n 3, 1) := by decide +kernel
theorem dX3_follow_149 : decode cX3_follow 149 = .ok (.imul, 1) := by decide +kernel
theorem dX3_follow_150 : decode cX3_follow 150 = .ok (.iconst 2, 1) := by decide +kernel
theorem dX3_follow_151 : decode cX3_follow 151 = .ok (.iadd, 1) := by decide +kernel
theorem dX3_follow_152 : decode cX3_follow 152 = .ok (.laload, 1) := by decide +kernel
theorem dX3_follow_153 : decode cX3_follow 153 = .ok (.lload 12, 2) := by decide +kernel
theorem dX3_follow_155 : decode cX3_follow 155 = .ok (.ladd, 1) := by decide +kernel
theorem dX3_follow_156 : decode cX3_follow 156 = .ok (.lastore, 1) := by decide +kernel
theorem dX3_follow_157 : decode cX3_follow 157 = .ok (.aload_n 0, 1) := by decide +kernel
theorem dX3_follow_158 : decode cX3_follow 158 = .ok (.getfield 35, 3) := by decide +kernel
theorem dX3_follow_161 : decode cX3_follow 161 = .ok (.iconst 4, 1) := by decide +kernel
theorem dX3_follow_162 : decode cX3_follow 162 = .ok (.iload_n 1, 1) := by decide +kernel
theorem dX3_follow_163 : decode cX3_follow 163 = .ok (.imul, 1) := by decide +kernel
theorem dX3_follow_164 : decode cX3_follow 164 = .ok (.iconst 3, 1) := by decide +kernel
theorem dX3_follow_165 : decode cX3_follow 165 = .ok (.iadd, 1) := by decide +kernel
theorem dX3_follow_166 : decode cX3_follow 166 = .ok (.aload_n 0, 1) := by decide +kernel
theorem dX3_follow_167 : decode cX3_follow 167 = .ok (.getfield 19, 3) := by decide +kernel
theorem dX3_follow_170 : decode cX3_follow 170 = .ok (.iconst 4, 1) := by decide +kernel
theorem dX3_follow_171 : decode cX3_follow 171 = .ok (.iload_n 3, 1) := by decide +kernel
theorem dX3_follow_172 : decode cX3_follow 172 = .ok (.imul, 1) := by decide +kernel
theorem dX3_follow_173 : decode cX3_follow 173 = .ok (.iconst 3, 1) := by decide +kernel
theorem dX3_follow_174 : decode cX3_follow 174 = .ok (.iadd, 1) := by decide +kernel
theorem dX3_follow_175 : decode cX3_follow 175 = .ok (.laload, 1) := by decide +kernel
theorem dX3_follow_176 : decode cX3_follow 176 = .ok (.lload 12, 2) := by decide +kernel
theorem dX3_follow_178 : decode cX3_follow 178 = .ok (.l2i, 1) := by decide +kernel
theorem dX3_follow_179 : decode cX3_follow 179 = .ok (.lshl, 1) := by decide +kernel
theorem dX3_follow_180 : decode cX3_follow 180 = .ok (.lload 6, 2) := by decide +kernel
theorem dX3_follow_182 : decode cX3_follow 182 = .ok (.lload 10, 2) := by decide +kernel
theorem dX3_follow_184 : decode cX3_follow 184 = .ok (.lload 12, 2) := by decide +kernel
theorem dX3_follow_186 : decode cX3_follow 186 = .ok (.l2i, 1) := by decide +kernel
theorem dX3_follow_187 : decode cX3_follow 187 = .ok (.lshl, 1) := by decide +kernel
theorem dX3_follow_188 : decode cX3_follow 188 = .ok (.lsub, 1) := by decide +kernel
theorem dX3_follow_189 : decode cX3_follow 189 = .ok (.lor, 1) := by decide +kernel
theorem dX3_follow_190 : decode cX3_follow 190 = .ok (.lastore, 1) := by decide +kernel
theorem dX3_follow_191 : decode cX3_follow 191 = .ok (.iinc 1 1, 3) := by decide +kernel
theorem dX3_follow_194 : decode cX3_follow 194 = .ok (.goto 129, 3) := by decide +kernel
theorem dX3_follow_197 : decode cX3_follow 197 = .ok (.lload 8, 2) := by decide +kernel
theorem dX3_follow_199 : decode cX3_follow 199 = .ok (.lload 4, 2) := by decide +kernel
theorem dX3_follow_201 : decode cX3_follow 201 = .ok (.lcmp, 1) := by decide +kernel
theorem dX3_follow_202 : decode cX3_follow 202 = .ok (.ifCond .le 121, 3) := by decide +kernel
theorem dX3_follow_205 : decode cX3_follow 205 = .ok (.lload 10, 2) := by decide +kernel
theorem dX3_follow_207 : decode cX3_follow 207 = .ok (.lload 8, 2) := by decide +kernel
theorem dX3_follow_209 : decode cX3_follow 209 = .ok (.lload 4, 2) := by decide +kernel
theorem dX3_follow_211 : decode cX3_follow 211 = .ok (.lsub, 1) := by decide +kernel
theorem dX3_follow_212 : decode cX3_follow 212 = .ok (.l2i, 1) := by decide +kernel
theorem dX3_follow_213 : decode cX3_follow 213 = .ok (.lshr, 1) := by decide +kernel
theorem dX3_follow_214 : decode cX3_follow 214 = .ok (.lload 6, 2) := by decide +kernel
theorem dX3_follow_216 : decode cX3_follow 216 = .ok (.lcmp, 1) := by decide +kernel
theorem dX3_follow_217 : decode cX3_follow 217 = .ok (.ifCond .ne 106, 3) := by decide +kernel
theorem dX3_follow_220 : decode cX3_follow 220 = .ok (.lload 8, 2) := by decide +kernel
theorem dX3_follow_222 : decode cX3_follow 222 = .ok (.lload 4, 2) := by decide +kernel
theorem dX3_follow_224 : decode cX3_follow 224 = .ok (.lsub, 1) := by decide +kernel
theorem dX3_follow_225 : decode cX3_follow 225 = .ok (.lstore 12, 2) := by decide +kernel
theorem dX3_follow_227 : decode cX3_follow 227 = .ok (.aload_n 0, 1) := by decide +kernel
theorem dX3_follow_228 : decode cX3_follow 228 = .ok (.getfield 35, 3) := by decide +kernel
theorem dX3_follow_231 : decode cX3_follow 231 = .ok (.iconst 4, 1) := by decide +kernel
theorem dX3_follow_232 : decode cX3_follow 232 = .ok (.iload_n 1, 1) := by decide +kernel
theorem dX3_follow_233 : decode cX3_follow 233 = .ok (.imul, 1) := by decide +kernel
theorem dX3_follow_234 : decode cX3_follow 234 = .ok (.aload_n 0, 1) := by decide +kernel
theorem dX3_follow_235 : decode cX3_follow 235 = .ok (.getfield 23, 3) := by decide +kernel
theorem dX3_follow_238 : decode cX3_follow 238 = .ok (.iconst 4, 1) := by decide +kernel
theorem dX3_follow_239 : decode cX3_follow 239 = .ok (.iload_n 2, 1) := by decide +kernel
theorem dX3_follow_240 : decode cX3_follow 240 = .ok (.imul, 1) := by decide +kernel
theorem dX3_follow_241 : decode cX3_follow 241 = .ok (.laload, 1) := by decide +kernel
theorem dX3_follow_242 : decode cX3_follow 242 = .ok (.lload 12, 2) := by decide +kernel
theorem dX3_follow_244 : decode cX3_follow 244 = .ok (.ladd, 1) := by decide +kernel
theorem dX3_follow_245 : decode cX3_follow 245 = .ok (.lastore, 1) := by decide +kernel
theorem dX3_follow_246 : decode cX3_follow 246 = .ok (.aload_n 0, 1) := by decide +kernel
theorem dX3_follow_247 : decode cX3_follow 247 = .ok (.getfield 35, 3) := by decide +kernel
theorem dX3_follow_250 : decode cX3_follow 250 = .ok (.iconst 4, 1) := by decide +kernel
theorem dX3_follow_251 : decode cX3_follow 251 = .ok (.iload_n 1, 1) := by decide +kernel
theorem dX3_follow_252 : decode cX3_follow 252 = .ok (.imul, 1) := by decide +kernel
theorem dX3_follow_253 : decode cX3_follow 253 = .ok (.iconst 1, 1) := by decide +kernel
theorem dX3_follow_254 : decode cX3_follow 254 = .ok (.iadd, 1) := by decide +kernel
theorem dX3_follow_255 : decode cX3_follow 255 = .ok (.aload_n 0, 1) := by decide +kernel
theorem dX3_follow_256 : decode cX3_follow 256 = .ok (.getfield 23, 3) := by decide +kernel
theorem dX3_follow_259 : decode cX3_follow 259 = .ok (.iconst 4, 1) := by decide +kernel
theorem dX3_follow_260 : decode cX3_follow 260 = .ok (.iload_n 2, 1) := by decide +kernel
theorem dX3_follow_261 : decode cX3_follow 261 = .ok (.imul, 1) := by decide +kernel
theorem dX3_follow_262 : decode cX3_follow 262 = .ok (.iconst 1, 1) := by decide +kernel
theorem dX3_follow_263 : decode cX3_follow 263 = .ok (.iadd, 1) := by decide +kernel
theorem dX3_follow_264 : decode cX3_follow 264 = .ok (.laload, 1) := by decide +kernel
theorem dX3_follow_265 : decode cX3_follow 265 = .ok (.lload 12, 2) := by decide +kernel
theorem dX3_follow_267 : decode cX3_follow 267 = .ok (.l2i, 1) := by decide +kernel
theorem dX3_follow_268 : decode cX3_follow 268 = .ok (.lshl, 1) := by decide +kernel
theorem dX3_follow_269 : decode cX3_follow 269 = .ok (.lload 10, 2) := by decide +kernel
theorem dX3_follow_271 : decode cX3_follow 271 = .ok (.lload 6, 2) := by decide +kernel
theorem dX3_follow_273 : decode cX3_follow 273 = .ok (.lload 12, 2) := by decide +kernel
theorem dX3_follow_275 : decode cX3_follow 275 = .ok (.l2i, 1) := by decide +kernel
theorem dX3_follow_276 : decode cX3_follow 276 = .ok (.lshl, 1) := by decide +kernel
theorem dX3_follow_277 : decode cX3_follow 277 = .ok (.lsub, 1) := by decide +kernel
theorem dX3_follow_278 : decode cX3_follow 278 = .ok (.lor, 1) := by decide +kernel
theorem dX3_follow_279 : decode cX3_follow 279 = .ok (.lastore, 1) := by decide +kernel
theorem dX3_follow_280 : decode cX3_follow 280 = .ok (.aload_n 0, 1) := by decide +kernel
theorem dX3_follow_281 : decode cX3_follow 281 = .ok (.getfield 35, 3) := by decide +kernel
theorem dX3_follow_284 : decode cX3_follow 284 = .ok (.iconst 4, 1) := by decide +kernel
theorem dX3_follow_285 : decode cX3_follow 285 = .ok (.iload_n 1, 1) := by decide +kernel
theorem dX3_follow_286 : decode cX3_follow 286 = .ok (.imul, 1) := by decide +kernel
theorem dX3_follow_287 : decode cX3_follow 287 = .ok (.iconst 2, 1) := by decide +kernel
theorem dX3_follow_288 : decode cX3_follow 288 = .ok (.iadd, 1) := by decide +kernel
theorem dX3_follow_289 : decode cX3_follow 289 = .ok (.aload_n 0, 1) := by decide +kernel
theorem dX3_follow_290 : decode cX3_follow 290 = .ok (.getfield 19, 3) := by decide +kernel
theorem dX3_follow_293 : decode cX3_follow 293 = .ok (.iconst 4, 1) := by decide +kernel
theorem dX3_follow_294 : decode cX3_follow 294 = .ok (.iload_n 3, 1) := by decide +kernel
theorem dX3_follow_295 : decode cX3_follow 295 = .ok (.imul, 1) := by decide +kernel
