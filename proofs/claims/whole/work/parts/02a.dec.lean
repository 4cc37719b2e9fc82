theorem dX0_init_0 : decode cX0_init 0 = .ok (.aload_n 0, 1) := by decide +kernel
theorem dX0_init_1 : decode cX0_init 1 = .ok (.invokespecial 3, 3) := by decide +kernel
theorem dX0_init_4 : decode cX0_init 4 = .ok (.aload_n 0, 1) := by decide +kernel
theorem dX0_init_5 : decode cX0_init 5 = .ok (.new 9, 3) := by decide +kernel
theorem dX0_init_8 : decode cX0_init 8 = .ok (.dup, 1) := by decide +kernel
theorem dX0_init_9 : decode cX0_init 9 = .ok (.invokespecial 11, 3) := by decide +kernel
theorem dX0_init_12 : decode cX0_init 12 = .ok (.putfield 12, 3) := by decide +kernel
theorem dX0_init_15 : decode cX0_init 15 = .ok (.aload_n 0, 1) := by decide +kernel
theorem dX0_init_16 : decode cX0_init 16 = .ok (.iconst 5, 1) := by decide +kernel
theorem dX0_init_17 : decode cX0_init 17 = .ok (.newarray .int, 2) := by decide +kernel
theorem dX0_init_19 : decode cX0_init 19 = .ok (.putfield 18, 3) := by decide +kernel
theorem dX0_init_22 : decode cX0_init 22 = .ok (.return_, 1) := by decide +kernel
theorem dX0_addNew_0 : decode cX0_addNew 0 = .ok (.aload_n 0, 1) := by decide +kernel
theorem dX0_addNew_1 : decode cX0_addNew 1 = .ok (.aload_n 1, 1) := by decide +kernel
theorem dX0_addNew_2 : decode cX0_addNew 2 = .ok (.invokevirtual 22, 3) := by decide +kernel
theorem dX0_addNew_5 : decode cX0_addNew 5 = .ok (.ifCond .ge 31, 3) := by decide +kernel
theorem dX0_addNew_8 : decode cX0_addNew 8 = .ok (.new 26, 3) := by decide +kernel
theorem dX0_addNew_11 : decode cX0_addNew 11 = .ok (.dup, 1) := by decide +kernel
theorem dX0_addNew_12 : decode cX0_addNew 12 = .ok (.aload_n 1, 1) := by decide +kernel
theorem dX0_addNew_13 : decode cX0_addNew 13 = .ok (.getfield 28, 3) := by decide +kernel
theorem dX0_addNew_16 : decode cX0_addNew 16 = .ok (.invokespecial 32, 3) := by decide +kernel
theorem dX0_addNew_19 : decode cX0_addNew 19 = .ok (.astore_n 2, 1) := by decide +kernel
theorem dX0_addNew_20 : decode cX0_addNew 20 = .ok (.aload_n 1, 1) := by decide +kernel
theorem dX0_addNew_21 : decode cX0_addNew 21 = .ok (.aload_n 2, 1) := by decide +kernel
theorem dX0_addNew_22 : decode cX0_addNew 22 = .ok (.invokestatic 35, 3) := by decide +kernel
theorem dX0_addNew_25 : decode cX0_addNew 25 = .ok (.aload_n 0, 1) := by decide +kernel
theorem dX0_addNew_26 : decode cX0_addNew 26 = .ok (.getfield 12, 3) := by decide +kernel
theorem dX0_addNew_29 : decode cX0_addNew 29 = .ok (.aload_n 2, 1) := by decide +kernel
theorem dX0_addNew_30 : decode cX0_addNew 30 = .ok (.invokeinterface 39 2, 5) := by decide +kernel
theorem dX0_addNew_35 : decode cX0_addNew 35 = .ok (.pop, 1) := by decide +kernel
theorem dX0_addNew_36 : decode cX0_addNew 36 = .ok (.return_, 1) := by decide +kernel
theorem dX0_placeOf_0 : decode cX0_placeOf 0 = .ok (.iconst 0, 1) := by decide +kernel
theorem dX0_placeOf_1 : decode cX0_placeOf 1 = .ok (.istore_n 2, 1) := by decide +kernel
theorem dX0_placeOf_2 : decode cX0_placeOf 2 = .ok (.iload_n 2, 1) := by decide +kernel
theorem dX0_placeOf_3 : decode cX0_placeOf 3 = .ok (.aload_n 0, 1) := by decide +kernel
theorem dX0_placeOf_4 : decode cX0_placeOf 4 = .ok (.getfield 12, 3) := by decide +kernel
theorem dX0_placeOf_7 : decode cX0_placeOf 7 = .ok (.invokeinterface 45 1, 5) := by decide +kernel
theorem dX0_placeOf_12 : decode cX0_placeOf 12 = .ok (.if_icmp .ge 31, 3) := by decide +kernel
theorem dX0_placeOf_15 : decode cX0_placeOf 15 = .ok (.aload_n 0, 1) := by decide +kernel
theorem dX0_placeOf_16 : decode cX0_placeOf 16 = .ok (.getfield 12, 3) := by decide +kernel
theorem dX0_placeOf_19 : decode cX0_placeOf 19 = .ok (.iload_n 2, 1) := by decide +kernel
theorem dX0_placeOf_20 : decode cX0_placeOf 20 = .ok (.invokeinterface 48 2, 5) := by decide +kernel
theorem dX0_placeOf_25 : decode cX0_placeOf 25 = .ok (.checkcast 26, 3) := by decide +kernel
theorem dX0_placeOf_28 : decode cX0_placeOf 28 = .ok (.aload_n 1, 1) := by decide +kernel
theorem dX0_placeOf_29 : decode cX0_placeOf 29 = .ok (.invokestatic 52, 3) := by decide +kernel
theorem dX0_placeOf_32 : decode cX0_placeOf 32 = .ok (.ifCond .eq 5, 3) := by decide +kernel
theorem dX0_placeOf_35 : decode cX0_placeOf 35 = .ok (.iload_n 2, 1) := by decide +kernel
theorem dX0_placeOf_36 : decode cX0_placeOf 36 = .ok (.ireturn, 1) := by decide +kernel
theorem dX0_placeOf_37 : decode cX0_placeOf 37 = .ok (.iinc 2 1, 3) := by decide +kernel
theorem dX0_placeOf_40 : decode cX0_placeOf 40 = .ok (.goto (-38), 3) := by decide +kernel
theorem dX0_placeOf_43 : decode cX0_placeOf 43 = .ok (.iconst (-1), 1) := by decide +kernel
theorem dX0_placeOf_44 : decode cX0_placeOf 44 = .ok (.ireturn, 1) := by decide +kernel
theorem dX1_init_0 : decode cX1_init 0 = .ok (.aload_n 0, 1) := by decide +kernel
theorem dX1_init_1 : decode cX1_init 1 = .ok (.invokespecial 3, 3) := by decide +kernel
theorem dX1_init_4 : decode cX1_init 4 = .ok (.iconst 0, 1) := by decide +kernel
theorem dX1_init_5 : decode cX1_init 5 = .ok (.iload_n 1, 1) := by decide +kernel
theorem dX1_init_6 : decode cX1_init 6 = .ok (.invokestatic 9, 3) := by decide +kernel
theorem dX1_init_9 : decode cX1_init 9 = .ok (.istore_n 2, 1) := by decide +kernel
theorem dX1_init_10 : decode cX1_init 10 = .ok (.aload_n 0, 1) := by decide +kernel
theorem dX1_init_11 : decode cX1_init 11 = .ok (.iload_n 2, 1) := by decide +kernel
theorem dX1_init_12 : decode cX1_init 12 = .ok (.newarray .int, 2) := by decide +kernel
theorem dX1_init_14 : decode cX1_init 14 = .ok (.putfield 15, 3) := by decide +kernel
theorem dX1_init_17 : decode cX1_init 17 = .ok (.aload_n 0, 1) := by decide +kernel
theorem dX1_init_18 : decode cX1_init 18 = .ok (.iload_n 2, 1) := by decide +kernel
theorem dX1_init_19 : decode cX1_init 19 = .ok (.newarray .long, 2) := by decide +kernel
theorem dX1_init_21 : decode cX1_init 21 = .ok (.putfield 21, 3) := by decide +kernel
theorem dX1_init_24 : decode cX1_init 24 = .ok (.aload_n 0, 1) := by decide +kernel
theorem dX1_init_25 : decode cX1_init 25 = .ok (.iload_n 2, 1) := by decide +kernel
theorem dX1_init_26 : decode cX1_init 26 = .ok (.newarray .int, 2) := by decide +kernel
theorem dX1_init_28 : decode cX1_init 28 = .ok (.putfield 25, 3) := by decide +kernel
theorem dX1_init_31 : decode cX1_init 31 = .ok (.aload_n 0, 1) := by decide +kernel
theorem dX1_init_32 : decode cX1_init 32 = .ok (.iload_n 2, 1) := by decide +kernel
theorem dX1_init_33 : decode cX1_init 33 = .ok (.newarray .long, 2) := by decide +kernel
theorem dX1_init_35 : decode cX1_init 35 = .ok (.putfield 28, 3) := by decide +kernel
theorem dX1_init_38 : decode cX1_init 38 = .ok (.return_, 1) := by decide +kernel
theorem dX1_becomeNothing_0 : decode cX1_becomeNothing 0 = .ok (.aload_n 0, 1) := by decide +kernel
theorem dX1_becomeNothing_1 : decode cX1_becomeNothing 1 = .ok (.iconst 0, 1) := by decide +kernel
theorem dX1_becomeNothing_2 : decode cX1_becomeNothing 2 = .ok (.putfield 31, 3) := by decide +kernel
theorem dX1_becomeNothing_5 : decode cX1_becomeNothing 5 = .ok (.aload_n 0, 1) := by decide +kernel
theorem dX1_becomeNothing_6 : decode cX1_becomeNothing 6 = .ok (.iconst 0, 1) := by decide +kernel
theorem dX1_becomeNothing_7 : decode cX1_becomeNothing 7 = .ok (.lconst 0, 1) := by decide +kernel
theorem dX1_becomeNothing_8 : decode cX1_becomeNothing 8 = .ok (.iconst 0, 1) := by decide +kernel
theorem dX1_becomeNothing_9 : decode cX1_becomeNothing 9 = .ok (.lconst 0, 1) := by decide +kernel
theorem dX1_becomeNothing_10 : decode cX1_becomeNothing 10 = .ok (.invokevirtual 35, 3) := by decide +kernel
theorem dX1_becomeNothing_13 : decode cX1_becomeNothing 13 = .ok (.return_, 1) := by decide +kernel
theorem dX1_add_0 : decode cX1_add 0 = .ok (.aload_n 0, 1) := by decide +kernel
theorem dX1_add_1 : decode cX1_add 1 = .ok (.getfield 31, 3) := by decide +kernel
theorem dX1_add_4 : decode cX1_add 4 = .ok (.aload_n 0, 1) := by decide +kernel
theorem dX1_add_5 : decode cX1_add 5 = .ok (.getfield 15, 3) := by decide +kernel
theorem dX1_add_8 : decode cX1_add 8 = .ok (.arraylength, 1) := by decide +kernel
theorem dX1_add_9 : decode cX1_add 9 = .ok (.if_icmp .lt 4, 3) := by decide +kernel
theorem dX1_add_12 : decode cX1_add 12 = .ok (.return_, 1) := by decide +kernel
theorem dX1_add_13 : decode cX1_add 13 = .ok (.aload_n 0, 1) := by decide +kernel
theorem dX1_add_14 : decode cX1_add 14 = .ok (.getfield 15, 3) := by decide +kernel
theorem dX1_add_17 : decode cX1_add 17 = .ok (.aload_n 0, 1) := by decide +kernel
theorem dX1_add_18 : decode cX1_add 18 = .ok (.getfield 31, 3) := by decide +kernel
theorem dX1_add_21 : decode cX1_add 21 = .ok (.iload_n 1, 1) := by decide +kernel
theorem dX1_add_22 : decode cX1_add 22 = .ok (.iastore, 1) := by decide +kernel
theorem dX1_add_23 : decode cX1_add 23 = .ok (.aload_n 0, 1) := by decide +kernel
theorem dX1_add_24 : decode cX1_add 24 = .ok (.getfield 21, 3) := by decide +kernel
theorem dX1_add_27 : decode cX1_add 27 = .ok (.aload_n 0, 1) := by decide +kernel
theorem dX1_add_28 : decode cX1_add 28 = .ok (.getfield 31, 3) := by decide +kernel
theorem dX1_add_31 : decode cX1_add 31 = .ok (.lload_n 2, 1) := by decide +kernel
theorem dX1_add_32 : decode cX1_add 32 = .ok (.lastore, 1) := by decide +kernel
theorem dX1_add_33 : decode cX1_add 33 = .ok (.aload_n 0, 1) := by decide +kernel
theorem dX1_add_34 : decode cX1_add 34 = .ok (.getfield 25, 3) := by decide +kernel
theorem dX1_add_37 : decode cX1_add 37 = .ok (.aload_n 0, 1) := by decide +kernel
theorem dX1_add_38 : decode cX1_add 38 = .ok (.getfield 31, 3) := by decide +kernel
theorem dX1_add_41 : decode cX1_add 41 = .ok (.iload 4, 2) := by decide +kernel
theorem dX1_add_43 : decode cX1_add 43 = .ok (.iastore, 1) := by decide +kernel
theorem dX1_add_44 : decode cX1_add 44 = .ok (.aload_n 0, 1) := by decide +kernel
theorem dX1_add_45 : decode cX1_add 45 = .ok (.getfield 28, 3) := by decide +kernel
theorem dX1_add_48 : decode cX1_add 48 = .ok (.aload_n 0, 1) := by decide +kernel
theorem dX1_add_49 : decode cX1_add 49 = .ok (.getfield 31, 3) := by decide +kernel
theorem dX1_add_52 : decode cX1_add 52 = .ok (.lload 5, 2) := by decide +kernel
theorem dX1_add_54 : decode cX1_add 54 = .ok (.lastore, 1) := by decide +kernel
theorem dX1_add_55 : decode cX1_add 55 = .ok (.aload_n 0, 1) := by decide +kernel
theorem dX1_add_56 : decode cX1_add 56 = .ok (.dup, 1) := by decide +kernel
theorem dX1_add_57 : decode cX1_add 57 = .ok (.getfield 31, 3) := by decide +kernel
theorem dX1_add_60 : decode cX1_add 60 = .ok (.iconst 1, 1) := by decide +kernel
theorem dX1_add_61 : decode cX1_add 61 = .ok (.iadd, 1) := by decide +kernel
theorem dX1_add_62 : decode cX1_add 62 = .ok (.putfield 31, 3) := by decide +kernel
theorem dX1_add_65 : decode cX1_add 65 = .ok (.return_, 1) := by decide +kernel
theorem dX1_push_0 : decode cX1_push 0 = .ok (.aload_n 0, 1) := by decide +kernel
theorem dX1_push_1 : decode cX1_push 1 = .ok (.iload_n 1, 1) := by decide +kernel
theorem dX1_push_2 : decode cX1_push 2 = .ok (.lload_n 2, 1) := by decide +kernel
theorem dX1_push_3 : decode cX1_push 3 = .ok (.iload 4, 2) := by decide +kernel
theorem dX1_push_5 : decode cX1_push 5 = .ok (.lload 5, 2) := by decide +kernel
theorem dX1_push_7 : decode cX1_push 7 = .ok (.invokevirtual 35, 3) := by decide +kernel
theorem dX1_push_10 : decode cX1_push 10 = .ok (.aload_n 0, 1) := by decide +kernel
theorem dX1_push_11 : decode cX1_push 11 = .ok (.getfield 31, 3) := by decide +kernel
theorem dX1_push_14 : decode cX1_push 14 = .ok (.iconst 1, 1) := by decide +kernel
theorem dX1_push_15 : decode cX1_push 15 = .ok (.if_icmp .le 87, 3) := by decide +kernel
theorem dX1_push_18 : decode cX1_push 18 = .ok (.aload_n 0, 1) := by decide +kernel
theorem dX1_push_19 : decode cX1_push 19 = .ok (.invokevirtual 39, 3) := by decide +kernel
theorem dX1_push_22 : decode cX1_push 22 = .ok (.ifCond .eq 80, 3) := by decide +kernel
theorem dX1_push_25 : decode cX1_push 25 = .ok (.aload_n 0, 1) := by decide +kernel
theorem dX1_push_26 : decode cX1_push 26 = .ok (.dup, 1) := by decide +kernel
theorem dX1_push_27 : decode cX1_push 27 = .ok (.getfield 31, 3) := by decide +kernel
theorem dX1_push_30 : decode cX1_push 30 = .ok (.iconst 1, 1) := by decide +kernel
theorem dX1_push_31 : decode cX1_push 31 = .ok (.isub, 1) := by decide +kernel
theorem dX1_push_32 : decode cX1_push 32 = .ok (.putfield 31, 3) := by decide +kernel
theorem dX1_push_35 : decode cX1_push 35 = .ok (.aload_n 0, 1) := by decide +kernel
theorem dX1_push_36 : decode cX1_push 36 = .ok (.getfield 15, 3) := by decide +kernel
theorem dX1_push_39 : decode cX1_push 39 = .ok (.aload_n 0, 1) := by decide +kernel
theorem dX1_push_40 : decode cX1_push 40 = .ok (.getfield 31, 3) := by decide +kernel
theorem dX1_push_43 : decode cX1_push 43 = .ok (.iconst 1, 1) := by decide +kernel
theorem dX1_push_44 : decode cX1_push 44 = .ok (.isub, 1) := by decide +kernel
theorem dX1_push_45 : decode cX1_push 45 = .ok (.dup2, 1) := by decide +kernel
theorem dX1_push_46 : decode cX1_push 46 = .ok (.iaload, 1) := by decide +kernel
theorem dX1_push_47 : decode cX1_push 47 = .ok (.iconst 1, 1) := by decide +kernel
theorem dX1_push_48 : decode cX1_push 48 = .ok (.isub, 1) := by decide +kernel
theorem dX1_push_49 : decode cX1_push 49 = .ok (.iastore, 1) := by decide +kernel
theorem dX1_push_50 : decode cX1_push 50 = .ok (.aload_n 0, 1) := by decide +kernel
theorem dX1_push_51 : decode cX1_push 51 = .ok (.getfield 21, 3) := by decide +kernel
theorem dX1_push_54 : decode cX1_push 54 = .ok (.aload_n 0, 1) := by decide +kernel
theorem dX1_push_55 : decode cX1_push 55 = .ok (.getfield 31, 3) := by decide +kernel
theorem dX1_push_58 : decode cX1_push 58 = .ok (.iconst 1, 1) := by decide +kernel
theorem dX1_push_59 : decode cX1_push 59 = .ok (.isub, 1) := by decide +kernel
theorem dX1_push_60 : decode cX1_push 60 = .ok (.dup2, 1) := by decide +kernel
theorem dX1_push_61 : decode cX1_push 61 = .ok (.laload, 1) := by decide +kernel
theorem dX1_push_62 : decode cX1_push 62 = .ok (.ldc2_w 43, 3) := by decide +kernel
theorem dX1_push_65 : decode cX1_push 65 = .ok (.ldiv, 1) := by decide +kernel
theorem dX1_push_66 : decode cX1_push 66 = .ok (.lastore, 1) := by decide +kernel
theorem dX1_push_67 : decode cX1_push 67 = .ok (.aload_n 0, 1) := by decide +kernel
theorem dX1_push_68 : decode cX1_push 68 = .ok (.getfield 25, 3) := by decide +kernel
theorem dX1_push_71 : decode cX1_push 71 = .ok (.aload_n 0, 1) := by decide +kernel
theorem dX1_push_72 : decode cX1_push 72 = .ok (.getfield 31, 3) := by decide +kernel
theorem dX1_push_75 : decode cX1_push 75 = .ok (.iconst 1, 1) := by decide +kernel
theorem dX1_push_76 : decode cX1_push 76 = .ok (.isub, 1) := by decide +kernel
theorem dX1_push_77 : decode cX1_push 77 = .ok (.dup2, 1) := by decide +kernel
theorem dX1_push_78 : decode cX1_push 78 = .ok (.iaload, 1) := by decide +kernel
theorem dX1_push_79 : decode cX1_push 79 = .ok (.iconst 1, 1) := by decide +kernel
theorem dX1_push_80 : decode cX1_push 80 = .ok (.isub, 1) := by decide +kernel
theorem dX1_push_81 : decode cX1_push 81 = .ok (.iastore, 1) := by decide +kernel
theorem dX1_push_82 : decode cX1_push 82 = .ok (.aload_n 0, 1) := by decide +kernel
theorem dX1_push_83 : decode cX1_push 83 = .ok (.getfield 28, 3) := by decide +kernel
theorem dX1_push_86 : decode cX1_push 86 = .ok (.aload_n 0, 1) := by decide +kernel
theorem dX1_push_87 : decode cX1_push 87 = .ok (.getfield 31, 3) := by decide +kernel
theorem dX1_push_90 : decode cX1_push 90 = .ok (.iconst 1, 1) := by decide +kernel
theorem dX1_push_91 : decode cX1_push 91 = .ok (.isub, 1) := by decide +kernel
theorem dX1_push_92 : decode cX1_push 92 = .ok (.dup2, 1) := by decide +kernel
theorem dX1_push_93 : decode cX1_push 93 = .ok (.laload, 1) := by decide +kernel
theorem dX1_push_94 : decode cX1_push 94 = .ok (.ldc2_w 43, 3) := by decide +kernel
theorem dX1_push_97 : decode cX1_push 97 = .ok (.ldiv, 1) := by decide +kernel
theorem dX1_push_98 : decode cX1_push 98 = .ok (.lastore, 1) := by decide +kernel
theorem dX1_push_99 : decode cX1_push 99 = .ok (.goto (-89), 3) := by decide +kernel
theorem dX1_push_102 : decode cX1_push 102 = .ok (.return_, 1) := by decide +kernel
theorem dX1_areLastHalves_0 : decode cX1_areLastHalves 0 = .ok (.aload_n 0, 1) := by decide +kernel
theorem dX1_areLastHalves_1 : decode cX1_areLastHalves 1 = .ok (.getfield 31, 3) := by decide +kernel
theorem dX1_areLastHalves_4 : decode cX1_areLastHalves 4 = .ok (.iconst 1, 1) := by decide +kernel
theorem dX1_areLastHalves_5 : decode cX1_areLastHalves 5 = .ok (.isub, 1) := by decide +kernel
theorem dX1_areLastHalves_6 : decode cX1_areLastHalves 6 = .ok (.istore_n 1, 1) := by decide +kernel
theorem dX1_areLastHalves_7 : decode cX1_areLastHalves 7 = .ok (.aload_n 0, 1) := by decide +kernel
theorem dX1_areLastHalves_8 : decode cX1_areLastHalves 8 = .ok (.getfield 31, 3) := by decide +kernel
theorem dX1_areLastHalves_11 : decode cX1_areLastHalves 11 = .ok (.iconst 2, 1) := by decide +kernel
theorem dX1_areLastHalves_12 : decode cX1_areLastHalves 12 = .ok (.isub, 1) := by decide +kernel
theorem dX1_areLastHalves_13 : decode cX1_areLastHalves 13 = .ok (.istore_n 2, 1) := by decide +kernel
theorem dX1_areLastHalves_14 : decode cX1_areLastHalves 14 = .ok (.aload_n 0, 1) := by decide +kernel
theorem dX1_areLastHalves_15 : decode cX1_areLastHalves 15 = .ok (.getfield 15, 3) := by decide +kernel
theorem dX1_areLastHalves_18 : decode cX1_areLastHalves 18 = .ok (.iload_n 2, 1) := by decide +kernel
theorem dX1_areLastHalves_19 : decode cX1_areLastHalves 19 = .ok (.iaload, 1) := by decide +kernel
theorem dX1_areLastHalves_20 : decode cX1_areLastHalves 20 = .ok (.aload_n 0, 1) := by decide +kernel
theorem dX1_areLastHalves_21 : decode cX1_areLastHalves 21 = .ok (.getfield 15, 3) := by decide +kernel
theorem dX1_areLastHalves_24 : decode cX1_areLastHalves 24 = .ok (.iload_n 1, 1) := by decide +kernel
theorem dX1_areLastHalves_25 : decode cX1_areLastHalves 25 = .ok (.iaload, 1) := by decide +kernel
theorem dX1_areLastHalves_26 : decode cX1_areLastHalves 26 = .ok (.if_icmp .ne 88, 3) := by decide +kernel
theorem dX1_areLastHalves_29 : decode cX1_areLastHalves 29 = .ok (.aload_n 0, 1) := by decide +kernel
theorem dX1_areLastHalves_30 : decode cX1_areLastHalves 30 = .ok (.getfield 25, 3) := by decide +kernel
theorem dX1_areLastHalves_33 : decode cX1_areLastHalves 33 = .ok (.iload_n 2, 1) := by decide +kernel
theorem dX1_areLastHalves_34 : decode cX1_areLastHalves 34 = .ok (.iaload, 1) := by decide +kernel
theorem dX1_areLastHalves_35 : decode cX1_areLastHalves 35 = .ok (.aload_n 0, 1) := by decide +kernel
theorem dX1_areLastHalves_36 : decode cX1_areLastHalves 36 = .ok (.getfield 25, 3) := by decide +kernel
theorem dX1_areLastHalves_39 : decode cX1_areLastHalves 39 = .ok (.iload_n 1, 1) := by decide +kernel
theorem dX1_areLastHalves_40 : decode cX1_areLastHalves 40 = .ok (.iaload, 1) := by decide +kernel
theorem dX1_areLastHalves_41 : decode cX1_areLastHalves 41 = .ok (.if_icmp .ne 73, 3) := by decide +kernel
theorem dX1_areLastHalves_44 : decode cX1_areLastHalves 44 = .ok (.aload_n 0, 1) := by decide +kernel
theorem dX1_areLastHalves_45 : decode cX1_areLastHalves 45 = .ok (.getfield 21, 3) := by decide +kernel
theorem dX1_areLastHalves_48 : decode cX1_areLastHalves 48 = .ok (.iload_n 2, 1) := by decide +kernel
theorem dX1_areLastHalves_49 : decode cX1_areLastHalves 49 = .ok (.laload, 1) := by decide +kernel
theorem dX1_areLastHalves_50 : decode cX1_areLastHalves 50 = .ok (.ldc2_w 43, 3) := by decide +kernel
theorem dX1_areLastHalves_53 : decode cX1_areLastHalves 53 = .ok (.lrem, 1) := by decide +kernel
theorem dX1_areLastHalves_54 : decode cX1_areLastHalves 54 = .ok (.lconst 0, 1) := by decide +kernel
theorem dX1_areLastHalves_55 : decode cX1_areLastHalves 55 = .ok (.lcmp, 1) := by decide +kernel
theorem dX1_areLastHalves_56 : decode cX1_areLastHalves 56 = .ok (.ifCond .ne 58, 3) := by decide +kernel
theorem dX1_areLastHalves_59 : decode cX1_areLastHalves 59 = .ok (.aload_n 0, 1) := by decide +kernel
theorem dX1_areLastHalves_60 : decode cX1_areLastHalves 60 = .ok (.getfield 21, 3) := by decide +kernel
theorem dX1_areLastHalves_63 : decode cX1_areLastHalves 63 = .ok (.iload_n 2, 1) := by decide +kernel
theorem dX1_areLastHalves_64 : decode cX1_areLastHalves 64 = .ok (.laload, 1) := by decide +kernel
theorem dX1_areLastHalves_65 : decode cX1_areLastHalves 65 = .ok (.lconst 1, 1) := by decide +kernel
theorem dX1_areLastHalves_66 : decode cX1_areLastHalves 66 = .ok (.ladd, 1) := by decide +kernel
theorem dX1_areLastHalves_67 : decode cX1_areLastHalves 67 = .ok (.aload_n 0, 1) := by decide +kernel
theorem dX1_areLastHalves_68 : decode cX1_areLastHalves 68 = .ok (.getfield 21, 3) := by decide +kernel
theorem dX1_areLastHalves_71 : decode cX1_areLastHalves 71 = .ok (.iload_n 1, 1) := by decide +kernel
theorem dX1_areLastHalves_72 : decode cX1_areLastHalves 72 = .ok (.laload, 1) := by decide +kernel
theorem dX1_areLastHalves_73 : decode cX1_areLastHalves 73 = .ok (.lcmp, 1) := by decide +kernel
theorem dX1_areLastHalves_74 : decode cX1_areLastHalves 74 = .ok (.ifCond .ne 40, 3) := by decide +kernel
theorem dX1_areLastHalves_77 : decode cX1_areLastHalves 77 = .ok (.aload_n 0, 1) := by decide +kernel
theorem dX1_areLastHalves_78 : decode cX1_areLastHalves 78 = .ok (.getfield 28, 3) := by decide +kernel
theorem dX1_areLastHalves_81 : decode cX1_areLastHalves 81 = .ok (.iload_n 2, 1) := by decide +kernel
theorem dX1_areLastHalves_82 : decode cX1_areLastHalves 82 = .ok (.laload, 1) := by decide +kernel
theorem dX1_areLastHalves_83 : decode cX1_areLastHalves 83 = .ok (.ldc2_w 43, 3) := by decide +kernel
theorem dX1_areLastHalves_86 : decode cX1_areLastHalves 86 = .ok (.lrem, 1) := by decide +kernel
theorem dX1_areLastHalves_87 : decode cX1_areLastHalves 87 = .ok (.lconst 0, 1) := by decide +kernel
theorem dX1_areLastHalves_88 : decode cX1_areLastHalves 88 = .ok (.lcmp, 1) := by decide +kernel
theorem dX1_areLastHalves_89 : decode cX1_areLastHalves 89 = .ok (.ifCond .ne 25, 3) := by decide +kernel
theorem dX1_areLastHalves_92 : decode cX1_areLastHalves 92 = .ok (.aload_n 0, 1) := by decide +kernel
theorem dX1_areLastHalves_93 : decode cX1_areLastHalves 93 = .ok (.getfield 28, 3) := by decide +kernel
theorem dX1_areLastHalves_96 : decode cX1_areLastHalves 96 = .ok (.iload_n 2, 1) := by decide +kernel
theorem dX1_areLastHalves_97 : decode cX1_areLastHalves 97 = .ok (.laload, 1) := by decide +kernel
theorem dX1_areLastHalves_98 : decode cX1_areLastHalves 98 = .ok (.lconst 1, 1) := by decide +kernel
theorem dX1_areLastHalves_99 : decode cX1_areLastHalves 99 = .ok (.ladd, 1) := by decide +kernel
theorem dX1_areLastHalves_100 : decode cX1_areLastHalves 100 = .ok (.aload_n 0, 1) := by decide +kernel
theorem dX1_areLastHalves_101 : decode cX1_areLastHalves 101 = .ok (.getfield 28, 3) := by decide +kernel
theorem dX1_areLastHalves_104 : decode cX1_areLastHalves 104 = .ok (.iload_n 1, 1) := by decide +kernel
theorem dX1_areLastHalves_105 : decode cX1_areLastHalves 105 = .ok (.laload, 1) := by decide +kernel
theorem dX1_areLastHalves_106 : decode cX1_areLastHalves 106 = .ok (.lcmp, 1) := by decide +kernel
theorem dX1_areLastHalves_107 : decode cX1_areLastHalves 107 = .ok (.ifCond .ne 7, 3) := by decide +kernel
theorem dX1_areLastHalves_110 : decode cX1_areLastHalves 110 = .ok (.iconst 1, 1) := by decide +kernel
theorem dX1_areLastHalves_111 : decode cX1_areLastHalves 111 = .ok (.goto 4, 3) := by decide +kernel
theorem dX1_areLastHalves_114 : decode cX1_areLastHalves 114 = .ok (.iconst 0, 1) := by decide +kernel
theorem dX1_areLastHalves_115 : decode cX1_areLastHalves 115 = .ok (.ireturn, 1) := by decide +kernel
theorem dX1_sinkLast_0 : decode cX1_sinkLast 0 = .ok (.aload_n 0, 1) := by decide +kernel
theorem dX1_sinkLast_1 : decode cX1_sinkLast 1 = .ok (.getfield 31, 3) := by decide +kernel
theorem dX1_sinkLast_4 : decode cX1_sinkLast 4 = .ok (.iconst 1, 1) := by decide +kernel
theorem dX1_sinkLast_5 : decode cX1_sinkLast 5 = .ok (.isub, 1) := by decide +kernel
theorem dX1_sinkLast_6 : decode cX1_sinkLast 6 = .ok (.istore_n 1, 1) := by decide +kernel
theorem dX1_sinkLast_7 : decode cX1_sinkLast 7 = .ok (.iload_n 1, 1) := by decide +kernel
theorem dX1_sinkLast_8 : decode cX1_sinkLast 8 = .ok (.ifCond .le 57, 3) := by decide +kernel
theorem dX1_sinkLast_11 : decode cX1_sinkLast 11 = .ok (.aload_n 0, 1) := by decide +kernel
theorem dX1_sinkLast_12 : decode cX1_sinkLast 12 = .ok (.iload_n 1, 1) := by decide +kernel
theorem dX1_sinkLast_13 : decode cX1_sinkLast 13 = .ok (.invokevirtual 45, 3) := by decide +kernel
theorem dX1_sinkLast_16 : decode cX1_sinkLast 16 = .ok (.aload_n 0, 1) := by decide +kernel
theorem dX1_sinkLast_17 : decode cX1_sinkLast 17 = .ok (.iload_n 1, 1) := by decide +kernel
theorem dX1_sinkLast_18 : decode cX1_sinkLast 18 = .ok (.iconst 1, 1) := by decide +kernel
theorem dX1_sinkLast_19 : decode cX1_sinkLast 19 = .ok (.isub, 1) := by decide +kernel
theorem dX1_sinkLast_20 : decode cX1_sinkLast 20 = .ok (.invokevirtual 45, 3) := by decide +kernel
theorem dX1_sinkLast_23 : decode cX1_sinkLast 23 = .ok (.lcmp, 1) := by decide +kernel
theorem dX1_sinkLast_24 : decode cX1_sinkLast 24 = .ok (.ifCond .ge 41, 3) := by decide +kernel
theorem dX1_sinkLast_27 : decode cX1_sinkLast 27 = .ok (.aload_n 0, 1) := by decide +kernel
theorem dX1_sinkLast_28 : decode cX1_sinkLast 28 = .ok (.getfield 15, 3) := by decide +kernel
theorem dX1_sinkLast_31 : decode cX1_sinkLast 31 = .ok (.iload_n 1, 1) := by decide +kernel
theorem dX1_sinkLast_32 : decode cX1_sinkLast 32 = .ok (.invokestatic 49, 3) := by decide +kernel
theorem dX1_sinkLast_35 : decode cX1_sinkLast 35 = .ok (.aload_n 0, 1) := by decide +kernel
theorem dX1_sinkLast_36 : decode cX1_sinkLast 36 = .ok (.getfield 21, 3) := by decide +kernel
theorem dX1_sinkLast_39 : decode cX1_sinkLast 39 = .ok (.iload_n 1, 1) := by decide +kernel
theorem dX1_sinkLast_40 : decode cX1_sinkLast 40 = .ok (.invokestatic 53, 3) := by decide +kernel
theorem dX1_sinkLast_43 : decode cX1_sinkLast 43 = .ok (.aload_n 0, 1) := by decide +kernel
theorem dX1_sinkLast_44 : decode cX1_sinkLast 44 = .ok (.getfield 25, 3) := by decide +kernel
theorem dX1_sinkLast_47 : decode cX1_sinkLast 47 = .ok (.iload_n 1, 1) := by decide +kernel
theorem dX1_sinkLast_48 : decode cX1_sinkLast 48 = .ok (.invokestatic 49, 3) := by decide +kernel
theorem dX1_sinkLast_51 : decode cX1_sinkLast 51 = .ok (.aload_n 0, 1) := by decide +kernel
theorem dX1_sinkLast_52 : decode cX1_sinkLast 52 = .ok (.getfield 28, 3) := by decide +kernel
theorem dX1_sinkLast_55 : decode cX1_sinkLast 55 = .ok (.iload_n 1, 1) := by decide +kernel
theorem dX1_sinkLast_56 : decode cX1_sinkLast 56 = .ok (.invokestatic 53, 3) := by decide +kernel
theorem dX1_sinkLast_59 : decode cX1_sinkLast 59 = .ok (.iinc 1 (-1), 3) := by decide +kernel
theorem dX1_sinkLast_62 : decode cX1_sinkLast 62 = .ok (.goto (-55), 3) := by decide +kernel
theorem dX1_sinkLast_65 : decode cX1_sinkLast 65 = .ok (.return_, 1) := by decide +kernel
theorem dX1_exchange_0 : decode cX1_exchange 0 = .ok (.aload_n 0, 1) := by decide +kernel
theorem dX1_exchange_1 : decode cX1_exchange 1 = .ok (.iload_n 1, 1) := by decide +kernel
theorem dX1_exchange_2 : decode cX1_exchange 2 = .ok (.iaload, 1) := by decide +kernel
theorem dX1_exchange_3 : decode cX1_exchange 3 = .ok (.istore_n 2, 1) := by decide +kernel
theorem dX1_exchange_4 : decode cX1_exchange 4 = .ok (.aload_n 0, 1) := by decide +kernel
theorem dX1_exchange_5 : decode cX1_exchange 5 = .ok (.iload_n 1, 1) := by decide +kernel
theorem dX1_exchange_6 : decode cX1_exchange 6 = .ok (.aload_n 0, 1) := by decide +kernel
theorem dX1_exchange_7 : decode cX1_exchange 7 = .ok (.iload_n 1, 1) := by decide +kernel
theorem dX1_exchange_8 : decode cX1_exchange 8 = .ok (.iconst 1, 1) := by decide +kernel
theorem dX1_exchange_9 : decode cX1_exchange 9 = .ok (.isub, 1) := by decide +kernel
theorem dX1_exchange_10 : decode cX1_exchange 10 = .ok (.iaload, 1) := by decide +kernel
theorem dX1_exchange_11 : decode cX1_exchange 11 = .ok (.iastore, 1) := by decide +kernel
theorem dX1_exchange_12 : decode cX1_exchange 12 = .ok (.aload_n 0, 1) := by decide +kernel
theorem dX1_exchange_13 : decode cX1_exchange 13 = .ok (.iload_n 1, 1) := by decide +kernel
theorem dX1_exchange_14 : decode cX1_exchange 14 = .ok (.iconst 1, 1) := by decide +kernel
theorem dX1_exchange_15 : decode cX1_exchange 15 = .ok (.isub, 1) := by decide +kernel
theorem dX1_exchange_16 : decode cX1_exchange 16 = .ok (.iload_n 2, 1) := by decide +kernel
theorem dX1_exchange_17 : decode cX1_exchange 17 = .ok (.iastore, 1) := by decide +kernel
theorem dX1_exchange_18 : decode cX1_exchange 18 = .ok (.return_, 1) := by decide +kernel
theorem dX1_exchange__0 : decode cX1_exchange_ 0 = .ok (.aload_n 0, 1) := by decide +kernel
theorem dX1_exchange__1 : decode cX1_exchange_ 1 = .ok (.iload_n 1, 1) := by decide +kernel
theorem dX1_exchange__2 : decode cX1_exchange_ 2 = .ok (.laload, 1) := by decide +kernel
theorem dX1_exchange__3 : decode cX1_exchange_ 3 = .ok (.lstore_n 2, 1) := by decide +kernel
theorem dX1_exchange__4 : decode cX1_exchange_ 4 = .ok (.aload_n 0, 1) := by decide +kernel
theorem dX1_exchange__5 : decode cX1_exchange_ 5 = .ok (.iload_n 1, 1) := by decide +kernel
theorem dX1_exchange__6 : decode cX1_exchange_ 6 = .ok (.aload_n 0, 1) := by decide +kernel
theorem dX1_exchange__7 : decode cX1_exchange_ 7 = .ok (.iload_n 1, 1) := by decide +kernel
theorem dX1_exchange__8 : decode cX1_exchange_ 8 = .ok (.iconst 1, 1) := by decide +kernel
theorem dX1_exchange__9 : decode cX1_exchange_ 9 = .ok (.isub, 1) := by decide +kernel
theorem dX1_exchange__10 : decode cX1_exchange_ 10 = .ok (.laload, 1) := by decide +kernel
theorem dX1_exchange__11 : decode cX1_exchange_ 11 = .ok (.lastore, 1) := by decide +kernel
theorem dX1_exchange__12 : decode cX1_exchange_ 12 = .ok (.aload_n 0, 1) := by decide +kernel
theorem dX1_exchange__13 : decode cX1_exchange_ 13 = .ok (.iload_n 1, 1) := by decide +kernel
theorem dX1_exchange__14 : decode cX1_exchange_ 14 = .ok (.iconst 1, 1) := by decide +kernel
theorem dX1_exchange__15 : decode cX1_exchange_ 15 = .ok (.isub, 1) := by decide +kernel
theorem dX1_exchange__16 : decode cX1_exchange_ 16 = .ok (.lload_n 2, 1) := by decide +kernel
theorem dX1_exchange__17 : decode cX1_exchange_ 17 = .ok (.lastore, 1) := by decide +kernel
theorem dX1_exchange__18 : decode cX1_exchange_ 18 = .ok (.return_, 1) := by decide +kernel
theorem dX1_told_0 : decode cX1_told 0 = .ok (.iload_n 2, 1) := by decide +kernel
theorem dX1_told_1 : decode cX1_told 1 = .ok (.tableswitch 50 0 2 #[27, 35, 42], 27) := by decide +kernel
theorem dX1_told_28 : decode cX1_told 28 = .ok (.aload_n 0, 1) := by decide +kernel
theorem dX1_told_29 : decode cX1_told 29 = .ok (.getfield 15, 3) := by decide +kernel
theorem dX1_told_32 : decode cX1_told 32 = .ok (.iload_n 1, 1) := by decide +kernel
theorem dX1_told_33 : decode cX1_told 33 = .ok (.iaload, 1) := by decide +kernel
theorem dX1_told_34 : decode cX1_told 34 = .ok (.i2l, 1) := by decide +kernel
theorem dX1_told_35 : decode cX1_told 35 = .ok (.lreturn, 1) := by decide +kernel
theorem dX1_told_36 : decode cX1_told 36 = .ok (.aload_n 0, 1) := by decide +kernel
theorem dX1_told_37 : decode cX1_told 37 = .ok (.getfield 21, 3) := by decide +kernel
theorem dX1_told_40 : decode cX1_told 40 = .ok (.iload_n 1, 1) := by decide +kernel
theorem dX1_told_41 : decode cX1_told 41 = .ok (.laload, 1) := by decide +kernel
theorem dX1_told_42 : decode cX1_told 42 = .ok (.lreturn, 1) := by decide +kernel
theorem dX1_told_43 : decode cX1_told 43 = .ok (.aload_n 0, 1) := by decide +kernel
theorem dX1_told_44 : decode cX1_told 44 = .ok (.getfield 25, 3) := by decide +kernel
theorem dX1_told_47 : decode cX1_told 47 = .ok (.iload_n 1, 1) := by decide +kernel
theorem dX1_told_48 : decode cX1_told 48 = .ok (.iaload, 1) := by decide +kernel
theorem dX1_told_49 : decode cX1_told 49 = .ok (.i2l, 1) := by decide +kernel
theorem dX1_told_50 : decode cX1_told 50 = .ok (.lreturn, 1) := by decide +kernel
theorem dX1_told_51 : decode cX1_told 51 = .ok (.aload_n 0, 1) := by decide +kernel
theorem dX1_told_52 : decode cX1_told 52 = .ok (.getfield 28, 3) := by decide +kernel
theorem dX1_told_55 : decode cX1_told 55 = .ok (.iload_n 1, 1) := by decide +kernel
theorem dX1_told_56 : decode cX1_told 56 = .ok (.laload, 1) := by decide +kernel
theorem dX1_told_57 : decode cX1_told 57 = .ok (.lreturn, 1) := by decide +kernel
theorem dX1_steepness_0 : decode cX1_steepness 0 = .ok (.aload_n 0, 1) := by decide +kernel
theorem dX1_steepness_1 : decode cX1_steepness 1 = .ok (.getfield 15, 3) := by decide +kernel
theorem dX1_steepness_4 : decode cX1_steepness 4 = .ok (.iload_n 1, 1) := by decide +kernel
theorem dX1_steepness_5 : decode cX1_steepness 5 = .ok (.iaload, 1) := by decide +kernel
theorem dX1_steepness_6 : decode cX1_steepness 6 = .ok (.aload_n 0, 1) := by decide +kernel
theorem dX1_steepness_7 : decode cX1_steepness 7 = .ok (.getfield 25, 3) := by decide +kernel
theorem dX1_steepness_10 : decode cX1_steepness 10 = .ok (.iload_n 1, 1) := by decide +kernel
theorem dX1_steepness_11 : decode cX1_steepness 11 = .ok (.iaload, 1) := by decide +kernel
theorem dX1_steepness_12 : decode cX1_steepness 12 = .ok (.isub, 1) := by decide +kernel
theorem dX1_steepness_13 : decode cX1_steepness 13 = .ok (.ireturn, 1) := by decide +kernel
theorem dX1_firstStart_0 : decode cX1_firstStart 0 = .ok (.aload_n 0, 1) := by decide +kernel
theorem dX1_firstStart_1 : decode cX1_firstStart 1 = .ok (.getfield 15, 3) := by decide +kernel
theorem dX1_firstStart_4 : decode cX1_firstStart 4 = .ok (.iload_n 1, 1) := by decide +kernel
theorem dX1_firstStart_5 : decode cX1_firstStart 5 = .ok (.iaload, 1) := by decide +kernel
theorem dX1_firstStart_6 : decode cX1_firstStart 6 = .ok (.aload_n 0, 1) := by decide +kernel
theorem dX1_firstStart_7 : decode cX1_firstStart 7 = .ok (.getfield 21, 3) := by decide +kernel
theorem dX1_firstStart_10 : decode cX1_firstStart 10 = .ok (.iload_n 1, 1) := by decide +kernel
theorem dX1_firstStart_11 : decode cX1_firstStart 11 = .ok (.laload, 1) := by decide +kernel
theorem dX1_firstStart_12 : decode cX1_firstStart 12 = .ok (.invokestatic 56, 3) := by decide +kernel
theorem dX1_firstStart_15 : decode cX1_firstStart 15 = .ok (.lreturn, 1) := by decide +kernel
theorem dX1_secondStart_0 : decode cX1_secondStart 0 = .ok (.aload_n 0, 1) := by decide +kernel
theorem dX1_secondStart_1 : decode cX1_secondStart 1 = .ok (.getfield 25, 3) := by decide +kernel
theorem dX1_secondStart_4 : decode cX1_secondStart 4 = .ok (.iload_n 1, 1) := by decide +kernel
theorem dX1_secondStart_5 : decode cX1_secondStart 5 = .ok (.iaload, 1) := by decide +kernel
theorem dX1_secondStart_6 : decode cX1_secondStart 6 = .ok (.aload_n 0, 1) := by decide +kernel
theorem dX1_secondStart_7 : decode cX1_secondStart 7 = .ok (.getfield 28, 3) := by decide +kernel
theorem dX1_secondStart_10 : decode cX1_secondStart 10 = .ok (.iload_n 1, 1) := by decide +kernel
theorem dX1_secondStart_11 : decode cX1_secondStart 11 = .ok (.laload, 1) := by decide +kernel
theorem dX1_secondStart_12 : decode cX1_secondStart 12 = .ok (.invokestatic 56, 3) := by decide +kernel
theorem dX1_secondStart_15 : decode cX1_secondStart 15 = .ok (.lreturn, 1) := by decide +kernel
theorem dX1_secondEnd_0 : decode cX1_secondEnd 0 = .ok (.aload_n 0, 1) := by decide +kernel
theorem dX1_secondEnd_1 : decode cX1_secondEnd 1 = .ok (.getfield 25, 3) := by decide +kernel
theorem dX1_secondEnd_4 : decode cX1_secondEnd 4 = .ok (.iload_n 1, 1) := by decide +kernel
theorem dX1_secondEnd_5 : decode cX1_secondEnd 5 = .ok (.iaload, 1) := by decide +kernel
theorem dX1_secondEnd_6 : decode cX1_secondEnd 6 = .ok (.aload_n 0, 1) := by decide +kernel
theorem dX1_secondEnd_7 : decode cX1_secondEnd 7 = .ok (.getfield 28, 3) := by decide +kernel
theorem dX1_secondEnd_10 : decode cX1_secondEnd 10 = .ok (.iload_n 1, 1) := by decide +kernel
theorem dX1_secondEnd_11 : decode cX1_secondEnd 11 = .ok (.laload, 1) := by decide +kernel
theorem dX1_secondEnd_12 : decode cX1_secondEnd 12 = .ok (.lconst 1, 1) := by decide +kernel
theorem dX1_secondEnd_13 : decode cX1_secondEnd 13 = .ok (.ladd, 1) := by decide +kernel
theorem dX1_secondEnd_14 : decode cX1_secondEnd 14 = .ok (.invokestatic 56, 3) := by decide +kernel
theorem dX1_secondEnd_17 : decode cX1_secondEnd 17 = .ok (.lreturn, 1) := by decide +kernel
theorem dX1_holderOf_0 : decode cX1_holderOf 0 = .ok (.iconst 0, 1) := by decide +kernel
theorem dX1_holderOf_1 : decode cX1_holderOf 1 = .ok (.istore_n 3, 1) := by decide +kernel
theorem dX1_holderOf_2 : decode cX1_holderOf 2 = .ok (.bipush 32, 2) := by decide +kernel
theorem dX1_holderOf_4 : decode cX1_holderOf 4 = .ok (.istore 4, 2) := by decide +kernel
theorem dX1_holderOf_6 : decode cX1_holderOf 6 = .ok (.iload 4, 2) := by decide +kernel
theorem dX1_holderOf_8 : decode cX1_holderOf 8 = .ok (.ifCond .le 41, 3) := by decide +kernel
theorem dX1_holderOf_11 : decode cX1_holderOf 11 = .ok (.iload_n 3, 1) := by decide +kernel
theorem dX1_holderOf_12 : decode cX1_holderOf 12 = .ok (.iload 4, 2) := by decide +kernel
theorem dX1_holderOf_14 : decode cX1_holderOf 14 = .ok (.iadd, 1) := by decide +kernel
theorem dX1_holderOf_15 : decode cX1_holderOf 15 = .ok (.aload_n 0, 1) := by decide +kernel
theorem dX1_holderOf_16 : decode cX1_holderOf 16 = .ok (.getfield 31, 3) := by decide +kernel
theorem dX1_holderOf_19 : decode cX1_holderOf 19 = .ok (.if_icmp .ge 21, 3) := by decide +kernel
theorem dX1_holderOf_22 : decode cX1_holderOf 22 = .ok (.aload_n 0, 1) := by decide +kernel
theorem dX1_holderOf_23 : decode cX1_holderOf 23 = .ok (.iload_n 3, 1) := by decide +kernel
theorem dX1_holderOf_24 : decode cX1_holderOf 24 = .ok (.iload 4, 2) := by decide +kernel
theorem dX1_holderOf_26 : decode cX1_holderOf 26 = .ok (.iadd, 1) := by decide +kernel
theorem dX1_holderOf_27 : decode cX1_holderOf 27 = .ok (.invokevirtual 45, 3) := by decide +kernel
theorem dX1_holderOf_30 : decode cX1_holderOf 30 = .ok (.lload_n 1, 1) := by decide +kernel
theorem dX1_holderOf_31 : decode cX1_holderOf 31 = .ok (.lcmp, 1) := by decide +kernel
theorem dX1_holderOf_32 : decode cX1_holderOf 32 = .ok (.ifCond .gt 8, 3) := by decide +kernel
theorem dX1_holderOf_35 : decode cX1_holderOf 35 = .ok (.iload_n 3, 1) := by decide +kernel
theorem dX1_holderOf_36 : decode cX1_holderOf 36 = .ok (.iload 4, 2) := by decide +kernel
theorem dX1_holderOf_38 : decode cX1_holderOf 38 = .ok (.iadd, 1) := by decide +kernel
theorem dX1_holderOf_39 : decode cX1_holderOf 39 = .ok (.istore_n 3, 1) := by decide +kernel
theorem dX1_holderOf_40 : decode cX1_holderOf 40 = .ok (.iload 4, 2) := by decide +kernel
theorem dX1_holderOf_42 : decode cX1_holderOf 42 = .ok (.iconst 2, 1) := by decide +kernel
theorem dX1_holderOf_43 : decode cX1_holderOf 43 = .ok (.idiv, 1) := by decide +kernel
theorem dX1_holderOf_44 : decode cX1_holderOf 44 = .ok (.istore 4, 2) := by decide +kernel
theorem dX1_holderOf_46 : decode cX1_holderOf 46 = .ok (.goto (-40), 3) := by decide +kernel
theorem dX1_holderOf_49 : decode cX1_holderOf 49 = .ok (.iload_n 3, 1) := by decide +kernel
theorem dX1_holderOf_50 : decode cX1_holderOf 50 = .ok (.ireturn, 1) := by decide +kernel
theorem dX2_init_0 : decode cX2_init 0 = .ok (.aload_n 0, 1) := by decide +kernel
theorem dX2_init_1 : decode cX2_init 1 = .ok (.invokespecial 3, 3) := by decide +kernel
theorem dX2_init_4 : decode cX2_init 4 = .ok (.aload_n 0, 1) := by decide +kernel
theorem dX2_init_5 : decode cX2_init 5 = .ok (.bipush 12, 2) := by decide +kernel
theorem dX2_init_7 : decode cX2_init 7 = .ok (.anewarray 9, 3) := by decide +kernel
theorem dX2_init_10 : decode cX2_init 10 = .ok (.putfield 11, 3) := by decide +kernel
theorem dX2_init_13 : decode cX2_init 13 = .ok (.iconst 0, 1) := by decide +kernel
theorem dX2_init_14 : decode cX2_init 14 = .ok (.istore_n 1, 1) := by decide +kernel
theorem dX2_init_15 : decode cX2_init 15 = .ok (.iload_n 1, 1) := by decide +kernel
theorem dX2_init_16 : decode cX2_init 16 = .ok (.bipush 12, 2) := by decide +kernel
theorem dX2_init_18 : decode cX2_init 18 = .ok (.if_icmp .ge 24, 3) := by decide +kernel
theorem dX2_init_21 : decode cX2_init 21 = .ok (.aload_n 0, 1) := by decide +kernel
theorem dX2_init_22 : decode cX2_init 22 = .ok (.getfield 11, 3) := by decide +kernel
theorem dX2_init_25 : decode cX2_init 25 = .ok (.iload_n 1, 1) := by decide +kernel
theorem dX2_init_26 : decode cX2_init 26 = .ok (.new 9, 3) := by decide +kernel
theorem dX2_init_29 : decode cX2_init 29 = .ok (.dup, 1) := by decide +kernel
theorem dX2_init_30 : decode cX2_init 30 = .ok (.bipush 24, 2) := by decide +kernel
theorem dX2_init_32 : decode cX2_init 32 = .ok (.invokespecial 15, 3) := by decide +kernel
theorem dX2_init_35 : decode cX2_init 35 = .ok (.aastore, 1) := by decide +kernel
theorem dX2_init_36 : decode cX2_init 36 = .ok (.iinc 1 1, 3) := by decide +kernel
theorem dX2_init_39 : decode cX2_init 39 = .ok (.goto (-24), 3) := by decide +kernel
theorem dX2_init_42 : decode cX2_init 42 = .ok (.aload_n 0, 1) := by decide +kernel
theorem dX2_init_43 : decode cX2_init 43 = .ok (.new 9, 3) := by decide +kernel
theorem dX2_init_46 : decode cX2_init 46 = .ok (.dup, 1) := by decide +kernel
theorem dX2_init_47 : decode cX2_init 47 = .ok (.bipush 24, 2) := by decide +kernel
theorem dX2_init_49 : decode cX2_init 49 = .ok (.invokespecial 15, 3) := by decide +kernel
theorem dX2_init_52 : decode cX2_init 52 = .ok (.putfield 18, 3) := by decide +kernel
theorem dX2_init_55 : decode cX2_init 55 = .ok (.aload_n 0, 1) := by decide +kernel
theorem dX2_init_56 : decode cX2_init 56 = .ok (.new 9, 3) := by decide +kernel
theorem dX2_init_59 : decode cX2_init 59 = .ok (.dup, 1) := by decide +kernel
theorem dX2_init_60 : decode cX2_init 60 = .ok (.bipush 48, 2) := by decide +kernel
theorem dX2_init_62 : decode cX2_init 62 = .ok (.invokespecial 15, 3) := by decide +kernel
theorem dX2_init_65 : decode cX2_init 65 = .ok (.putfield 22, 3) := by decide +kernel
theorem dX2_init_68 : decode cX2_init 68 = .ok (.aload_n 0, 1) := by decide +kernel
theorem dX2_init_69 : decode cX2_init 69 = .ok (.new 9, 3) := by decide +kernel
theorem dX2_init_72 : decode cX2_init 72 = .ok (.dup, 1) := by decide +kernel
theorem dX2_init_73 : decode cX2_init 73 = .ok (.bipush 48, 2) := by decide +kernel
theorem dX2_init_75 : decode cX2_init 75 = .ok (.invokespecial 15, 3) := by decide +kernel
theorem dX2_init_78 : decode cX2_init 78 = .ok (.putfield 25, 3) := by decide +kernel
theorem dX2_init_81 : decode cX2_init 81 = .ok (.aload_n 0, 1) := by decide +kernel
theorem dX2_init_82 : decode cX2_init 82 = .ok (.new 9, 3) := by decide +kernel
theorem dX2_init_85 : decode cX2_init 85 = .ok (.dup, 1) := by decide +kernel
theorem dX2_init_86 : decode cX2_init 86 = .ok (.bipush 48, 2) := by decide +kernel
theorem dX2_init_88 : decode cX2_init 88 = .ok (.invokespecial 15, 3) := by decide +kernel
theorem dX2_init_91 : decode cX2_init 91 = .ok (.putfield 28, 3) := by decide +kernel
theorem dX2_init_94 : decode cX2_init 94 = .ok (.return_, 1) := by decide +kernel
theorem dX2_pair_0 : decode cX2_pair 0 = .ok (.iload_n 1, 1) := by decide +kernel
theorem dX2_pair_1 : decode cX2_pair 1 = .ok (.iload_n 2, 1) := by decide +kernel
theorem dX2_pair_2 : decode cX2_pair 2 = .ok (.invokestatic 31, 3) := by decide +kernel
theorem dX2_pair_5 : decode cX2_pair 5 = .ok (.ifCond .eq 12, 3) := by decide +kernel
theorem dX2_pair_8 : decode cX2_pair 8 = .ok (.iload_n 3, 1) := by decide +kernel
theorem dX2_pair_9 : decode cX2_pair 9 = .ok (.iload 4, 2) := by decide +kernel
theorem dX2_pair_11 : decode cX2_pair 11 = .ok (.invokestatic 31, 3) := by decide +kernel
theorem dX2_pair_14 : decode cX2_pair 14 = .ok (.ifCond .ne 6, 3) := by decide +kernel
theorem dX2_pair_17 : decode cX2_pair 17 = .ok (.bipush (-102), 2) := by decide +kernel
theorem dX2_pair_19 : decode cX2_pair 19 = .ok (.ireturn, 1) := by decide +kernel
theorem dX2_pair_20 : decode cX2_pair 20 = .ok (.aload_n 0, 1) := by decide +kernel
theorem dX2_pair_21 : decode cX2_pair 21 = .ok (.getfield 18, 3) := by decide +kernel
theorem dX2_pair_24 : decode cX2_pair 24 = .ok (.getfield 35, 3) := by decide +kernel
theorem dX2_pair_27 : decode cX2_pair 27 = .ok (.bipush 24, 2) := by decide +kernel
theorem dX2_pair_29 : decode cX2_pair 29 = .ok (.if_icmp .lt 6, 3) := by decide +kernel
theorem dX2_pair_32 : decode cX2_pair 32 = .ok (.bipush (-104), 2) := by decide +kernel
theorem dX2_pair_34 : decode cX2_pair 34 = .ok (.ireturn, 1) := by decide +kernel
theorem dX2_pair_35 : decode cX2_pair 35 = .ok (.aload_n 0, 1) := by decide +kernel
theorem dX2_pair_36 : decode cX2_pair 36 = .ok (.getfield 18, 3) := by decide +kernel
theorem dX2_pair_39 : decode cX2_pair 39 = .ok (.iload_n 1, 1) := by decide +kernel
theorem dX2_pair_40 : decode cX2_pair 40 = .ok (.iload_n 2, 1) := by decide +kernel
theorem dX2_pair_41 : decode cX2_pair 41 = .ok (.i2l, 1) := by decide +kernel
theorem dX2_pair_42 : decode cX2_pair 42 = .ok (.iload_n 3, 1) := by decide +kernel
theorem dX2_pair_43 : decode cX2_pair 43 = .ok (.iload 4, 2) := by decide +kernel
theorem dX2_pair_45 : decode cX2_pair 45 = .ok (.i2l, 1) := by decide +kernel
theorem dX2_pair_46 : decode cX2_pair 46 = .ok (.invokevirtual 39, 3) := by decide +kernel
theorem dX2_pair_49 : decode cX2_pair 49 = .ok (.aload_n 0, 1) := by decide +kernel
theorem dX2_pair_50 : decode cX2_pair 50 = .ok (.getfield 18, 3) := by decide +kernel
theorem dX2_pair_53 : decode cX2_pair 53 = .ok (.getfield 35, 3) := by decide +kernel
theorem dX2_pair_56 : decode cX2_pair 56 = .ok (.ireturn, 1) := by decide +kernel
theorem dX2_clear_0 : decode cX2_clear 0 = .ok (.aload_n 0, 1) := by decide +kernel
theorem dX2_clear_1 : decode cX2_clear 1 = .ok (.getfield 18, 3) := by decide +kernel
theorem dX2_clear_4 : decode cX2_clear 4 = .ok (.getfield 35, 3) := by decide +kernel
theorem dX2_clear_7 : decode cX2_clear 7 = .ok (.istore_n 1, 1) := by decide +kernel
theorem dX2_clear_8 : decode cX2_clear 8 = .ok (.aload_n 0, 1) := by decide +kernel
theorem dX2_clear_9 : decode cX2_clear 9 = .ok (.getfield 18, 3) := by decide +kernel
theorem dX2_clear_12 : decode cX2_clear 12 = .ok (.iconst 0, 1) := by decide +kernel
theorem dX2_clear_13 : decode cX2_clear 13 = .ok (.putfield 35, 3) := by decide +kernel
theorem dX2_clear_16 : decode cX2_clear 16 = .ok (.iload_n 1, 1) := by decide +kernel
theorem dX2_clear_17 : decode cX2_clear 17 = .ok (.ireturn, 1) := by decide +kernel
theorem dX2_make_0 : decode cX2_make 0 = .ok (.iload_n 1, 1) := by decide +kernel
theorem dX2_make_1 : decode cX2_make 1 = .ok (.invokestatic 43, 3) := by decide +kernel
theorem dX2_make_4 : decode cX2_make 4 = .ok (.ifCond .ne 6, 3) := by decide +kernel
theorem dX2_make_7 : decode cX2_make 7 = .ok (.bipush (-101), 2) := by decide +kernel
theorem dX2_make_9 : decode cX2_make 9 = .ok (.ireturn, 1) := by decide +kernel
theorem dX2_make_10 : decode cX2_make 10 = .ok (.aload_n 0, 1) := by decide +kernel
theorem dX2_make_11 : decode cX2_make 11 = .ok (.getfield 18, 3) := by decide +kernel
theorem dX2_make_14 : decode cX2_make 14 = .ok (.aload_n 0, 1) := by decide +kernel
theorem dX2_make_15 : decode cX2_make 15 = .ok (.getfield 28, 3) := by decide +kernel
theorem dX2_make_18 : decode cX2_make 18 = .ok (.invokestatic 47, 3) := by decide +kernel
theorem dX2_make_21 : decode cX2_make 21 = .ok (.aload_n 0, 1) := by decide +kernel
theorem dX2_make_22 : decode cX2_make 22 = .ok (.getfield 28, 3) := by decide +kernel
theorem dX2_make_25 : decode cX2_make 25 = .ok (.invokestatic 51, 3) := by decide +kernel
theorem dX2_make_28 : decode cX2_make 28 = .ok (.ifCond .ne 6, 3) := by decide +kernel
theorem dX2_make_31 : decode cX2_make 31 = .ok (.bipush (-103), 2) := by decide +kernel
theorem dX2_make_33 : decode cX2_make 33 = .ok (.ireturn, 1) := by decide +kernel
theorem dX2_make_34 : decode cX2_make 34 = .ok (.aload_n 0, 1) := by decide +kernel
theorem dX2_make_35 : decode cX2_make 35 = .ok (.getfield 28, 3) := by decide +kernel
theorem dX2_make_38 : decode cX2_make 38 = .ok (.aload_n 0, 1) := by decide +kernel
theorem dX2_make_39 : decode cX2_make 39 = .ok (.getfield 25, 3) := by decide +kernel
theorem dX2_make_42 : decode cX2_make 42 = .ok (.invokestatic 47, 3) := by decide +kernel
theorem dX2_make_45 : decode cX2_make 45 = .ok (.aload_n 0, 1) := by decide +kernel
theorem dX2_make_46 : decode cX2_make 46 = .ok (.getfield 25, 3) := by decide +kernel
theorem dX2_make_49 : decode cX2_make 49 = .ok (.invokestatic 51, 3) := by decide +kernel
theorem dX2_make_52 : decode cX2_make 52 = .ok (.ifCond .ne 6, 3) := by decide +kernel
theorem dX2_make_55 : decode cX2_make 55 = .ok (.bipush (-103), 2) := by decide +kernel
theorem dX2_make_57 : decode cX2_make 57 = .ok (.ireturn, 1) := by decide +kernel
theorem dX2_make_58 : decode cX2_make 58 = .ok (.aload_n 0, 1) := by decide +kernel
theorem dX2_make_59 : decode cX2_make 59 = .ok (.getfield 18, 3) := by decide +kernel
theorem dX2_make_62 : decode cX2_make 62 = .ok (.iconst 0, 1) := by decide +kernel
theorem dX2_make_63 : decode cX2_make 63 = .ok (.putfield 35, 3) := by decide +kernel
theorem dX2_make_66 : decode cX2_make 66 = .ok (.aload_n 0, 1) := by decide +kernel
theorem dX2_make_67 : decode cX2_make 67 = .ok (.getfield 25, 3) := by decide +kernel
theorem dX2_make_70 : decode cX2_make 70 = .ok (.aload_n 0, 1) := by decide +kernel
theorem dX2_make_71 : decode cX2_make 71 = .ok (.getfield 11, 3) := by decide +kernel
theorem dX2_make_74 : decode cX2_make 74 = .ok (.iload_n 1, 1) := by decide +kernel
theorem dX2_make_75 : decode cX2_make 75 = .ok (.aaload, 1) := by decide +kernel
theorem dX2_make_76 : decode cX2_make 76 = .ok (.invokestatic 55, 3) := by decide +kernel
theorem dX2_make_79 : decode cX2_make 79 = .ok (.aload_n 0, 1) := by decide +kernel
theorem dX2_make_80 : decode cX2_make 80 = .ok (.getfield 11, 3) := by decide +kernel
theorem dX2_make_83 : decode cX2_make 83 = .ok (.iload_n 1, 1) := by decide +kernel
theorem dX2_make_84 : decode cX2_make 84 = .ok (.aaload, 1) := by decide +kernel
theorem dX2_make_85 : decode cX2_make 85 = .ok (.getfield 35, 3) := by decide +kernel
theorem dX2_make_88 : decode cX2_make 88 = .ok (.ireturn, 1) := by decide +kernel
theorem dX2_strong_0 : decode cX2_strong 0 = .ok (.iload_n 1, 1) := by decide +kernel
theorem dX2_strong_1 : decode cX2_strong 1 = .ok (.invokestatic 43, 3) := by decide +kernel
theorem dX2_strong_4 : decode cX2_strong 4 = .ok (.ifCond .ne 6, 3) := by decide +kernel
theorem dX2_strong_7 : decode cX2_strong 7 = .ok (.bipush (-101), 2) := by decide +kernel
theorem dX2_strong_9 : decode cX2_strong 9 = .ok (.ireturn, 1) := by decide +kernel
theorem dX2_strong_10 : decode cX2_strong 10 = .ok (.iload_n 2, 1) := by decide +kernel
theorem dX2_strong_11 : decode cX2_strong 11 = .ok (.ifCond .lt 9, 3) := by decide +kernel
theorem dX2_strong_14 : decode cX2_strong 14 = .ok (.iload_n 2, 1) := by decide +kernel
theorem dX2_strong_15 : decode cX2_strong 15 = .ok (.bipush 6, 2) := by decide +kernel
theorem dX2_strong_17 : decode cX2_strong 17 = .ok (.if_icmp .le 6, 3) := by decide +kernel
theorem dX2_strong_20 : decode cX2_strong 20 = .ok (.bipush (-102), 2) := by decide +kernel
theorem dX2_strong_22 : decode cX2_strong 22 = .ok (.ireturn, 1) := by decide +kernel
theorem dX2_strong_23 : decode cX2_strong 23 = .ok (.iload_n 2, 1) := by decide +kernel
theorem dX2_strong_24 : decode cX2_strong 24 = .ok (.aload_n 0, 1) := by decide +kernel
theorem dX2_strong_25 : decode cX2_strong 25 = .ok (.getfield 11, 3) := by decide +kernel
theorem dX2_strong_28 : decode cX2_strong 28 = .ok (.iload_n 1, 1) := by decide +kernel
theorem dX2_strong_29 : decode cX2_strong 29 = .ok (.aaload, 1) := by decide +kernel
theorem dX2_strong_30 : decode cX2_strong 30 = .ok (.invokestatic 58, 3) := by decide +kernel
theorem dX2_strong_33 : decode cX2_strong 33 = .ok (.aload_n 0, 1) := by decide +kernel
theorem dX2_strong_34 : decode cX2_strong 34 = .ok (.getfield 11, 3) := by decide +kernel
theorem dX2_strong_37 : decode cX2_strong 37 = .ok (.iload_n 1, 1) := by decide +kernel
theorem dX2_strong_38 : decode cX2_strong 38 = .ok (.aaload, 1) := by decide +kernel
theorem dX2_strong_39 : decode cX2_strong 39 = .ok (.getfield 35, 3) := by decide +kernel
theorem dX2_strong_42 : decode cX2_strong 42 = .ok (.ireturn, 1) := by decide +kernel
theorem dX2_then_0 : decode cX2_then 0 = .ok (.iload_n 1, 1) := by decide +kernel
theorem dX2_then_1 : decode cX2_then 1 = .ok (.invokestatic 43, 3) := by decide +kernel
theorem dX2_then_4 : decode cX2_then 4 = .ok (.ifCond .eq 19, 3) := by decide +kernel
theorem dX2_then_7 : decode cX2_then 7 = .ok (.aload_n 0, 1) := by decide +kernel
theorem dX2_then_8 : decode cX2_then 8 = .ok (.iload_n 2, 1) := by decide +kernel
theorem dX2_then_9 : decode cX2_then 9 = .ok (.invokevirtual 62, 3) := by decide +kernel
theorem dX2_then_12 : decode cX2_then 12 = .ok (.ifCond .eq 11, 3) := by decide +kernel
theorem dX2_then_15 : decode cX2_then 15 = .ok (.aload_n 0, 1) := by decide +kernel
theorem dX2_then_16 : decode cX2_then 16 = .ok (.iload_n 3, 1) := by decide +kernel
theorem dX2_then_17 : decode cX2_then 17 = .ok (.invokevirtual 62, 3) := by decide +kernel
theorem dX2_then_20 : decode cX2_then 20 = .ok (.ifCond .ne 6, 3) := by decide +kernel
theorem dX2_then_23 : decode cX2_then 23 = .ok (.bipush (-101), 2) := by decide +kernel
theorem dX2_then_25 : decode cX2_then 25 = .ok (.ireturn, 1) := by decide +kernel
theorem dX2_then_26 : decode cX2_then 26 = .ok (.aload_n 0, 1) := by decide +kernel
theorem dX2_then_27 : decode cX2_then 27 = .ok (.getfield 11, 3) := by decide +kernel
theorem dX2_then_30 : decode cX2_then 30 = .ok (.iload_n 2, 1) := by decide +kernel
theorem dX2_then_31 : decode cX2_then 31 = .ok (.aaload, 1) := by decide +kernel
theorem dX2_then_32 : decode cX2_then 32 = .ok (.aload_n 0, 1) := by decide +kernel
theorem dX2_then_33 : decode cX2_then 33 = .ok (.getfield 11, 3) := by decide +kernel
theorem dX2_then_36 : decode cX2_then 36 = .ok (.iload_n 3, 1) := by decide +kernel
theorem dX2_then_37 : decode cX2_then 37 = .ok (.aaload, 1) := by decide +kernel
theorem dX2_then_38 : decode cX2_then 38 = .ok (.aload_n 0, 1) := by decide +kernel
theorem dX2_then_39 : decode cX2_then 39 = .ok (.getfield 22, 3) := by decide +kernel
theorem dX2_then_42 : decode cX2_then 42 = .ok (.invokestatic 65, 3) := by decide +kernel
theorem dX2_then_45 : decode cX2_then 45 = .ok (.aload_n 0, 1) := by decide +kernel
theorem dX2_then_46 : decode cX2_then 46 = .ok (.getfield 22, 3) := by decide +kernel
theorem dX2_then_49 : decode cX2_then 49 = .ok (.getfield 35, 3) := by decide +kernel
theorem dX2_then_52 : decode cX2_then 52 = .ok (.bipush 24, 2) := by decide +kernel
theorem dX2_then_54 : decode cX2_then 54 = .ok (.if_icmp .le 6, 3) := by decide +kernel
theorem dX2_then_57 : decode cX2_then 57 = .ok (.bipush (-104), 2) := by decide +kernel
theorem dX2_then_59 : decode cX2_then 59 = .ok (.ireturn, 1) := by decide +kernel
theorem dX2_then_60 : decode cX2_then 60 = .ok (.aload_n 0, 1) := by decide +kernel
theorem dX2_then_61 : decode cX2_then 61 = .ok (.getfield 22, 3) := by decide +kernel
theorem dX2_then_64 : decode cX2_then 64 = .ok (.aload_n 0, 1) := by decide +kernel
theorem dX2_then_65 : decode cX2_then 65 = .ok (.getfield 11, 3) := by decide +kernel
theorem dX2_then_68 : decode cX2_then 68 = .ok (.iload_n 1, 1) := by decide +kernel
theorem dX2_then_69 : decode cX2_then 69 = .ok (.aaload, 1) := by decide +kernel
theorem dX2_then_70 : decode cX2_then 70 = .ok (.invokestatic 69, 3) := by decide +kernel
theorem dX2_then_73 : decode cX2_then 73 = .ok (.aload_n 0, 1) := by decide +kernel
theorem dX2_then_74 : decode cX2_then 74 = .ok (.getfield 11, 3) := by decide +kernel
theorem dX2_then_77 : decode cX2_then 77 = .ok (.iload_n 1, 1) := by decide +kernel
theorem dX2_then_78 : decode cX2_then 78 = .ok (.aaload, 1) := by decide +kernel
theorem dX2_then_79 : decode cX2_then 79 = .ok (.getfield 35, 3) := by decide +kernel
theorem dX2_then_82 : decode cX2_then 82 = .ok (.ireturn, 1) := by decide +kernel
theorem dX2_turn_0 : decode cX2_turn 0 = .ok (.iload_n 1, 1) := by decide +kernel
theorem dX2_turn_1 : decode cX2_turn 1 = .ok (.invokestatic 43, 3) := by decide +kernel
theorem dX2_turn_4 : decode cX2_turn 4 = .ok (.ifCond .eq 11, 3) := by decide +kernel
theorem dX2_turn_7 : decode cX2_turn 7 = .ok (.aload_n 0, 1) := by decide +kernel
theorem dX2_turn_8 : decode cX2_turn 8 = .ok (.iload_n 2, 1) := by decide +kernel
theorem dX2_turn_9 : decode cX2_turn 9 = .ok (.invokevirtual 62, 3) := by decide +kernel
theorem dX2_turn_12 : decode cX2_turn 12 = .ok (.ifCond .ne 6, 3) := by decide +kernel
theorem dX2_turn_15 : decode cX2_turn 15 = .ok (.bipush (-101), 2) := by decide +kernel
theorem dX2_turn_17 : decode cX2_turn 17 = .ok (.ireturn, 1) := by decide +kernel
theorem dX2_turn_18 : decode cX2_turn 18 = .ok (.aload_n 0, 1) := by decide +kernel
theorem dX2_turn_19 : decode cX2_turn 19 = .ok (.getfield 11, 3) := by decide +kernel
theorem dX2_turn_22 : decode cX2_turn 22 = .ok (.iload_n 2, 1) := by decide +kernel
theorem dX2_turn_23 : decode cX2_turn 23 = .ok (.aaload, 1) := by decide +kernel
theorem dX2_turn_24 : decode cX2_turn 24 = .ok (.aload_n 0, 1) := by decide +kernel
theorem dX2_turn_25 : decode cX2_turn 25 = .ok (.getfield 28, 3) := by decide +kernel
theorem dX2_turn_28 : decode cX2_turn 28 = .ok (.invokestatic 47, 3) := by decide +kernel
theorem dX2_turn_31 : decode cX2_turn 31 = .ok (.aload_n 0, 1) := by decide +kernel
theorem dX2_turn_32 : decode cX2_turn 32 = .ok (.getfield 28, 3) := by decide +kernel
theorem dX2_turn_35 : decode cX2_turn 35 = .ok (.aload_n 0, 1) := by decide +kernel
theorem dX2_turn_36 : decode cX2_turn 36 = .ok (.getfield 11, 3) := by decide +kernel
theorem dX2_turn_39 : decode cX2_turn 39 = .ok (.iload_n 1, 1) := by decide +kernel
theorem dX2_turn_40 : decode cX2_turn 40 = .ok (.aaload, 1) := by decide +kernel
theorem dX2_turn_41 : decode cX2_turn 41 = .ok (.invokestatic 69, 3) := by decide +kernel
theorem dX2_turn_44 : decode cX2_turn 44 = .ok (.aload_n 0, 1) := by decide +kernel
theorem dX2_turn_45 : decode cX2_turn 45 = .ok (.getfield 11, 3) := by decide +kernel
theorem dX2_turn_48 : decode cX2_turn 48 = .ok (.iload_n 1, 1) := by decide +kernel
theorem dX2_turn_49 : decode cX2_turn 49 = .ok (.aaload, 1) := by decide +kernel
theorem dX2_turn_50 : decode cX2_turn 50 = .ok (.getfield 35, 3) := by decide +kernel
theorem dX2_turn_53 : decode cX2_turn 53 = .ok (.ireturn, 1) := by decide +kernel
theorem dX2_power_0 : decode cX2_power 0 = .ok (.iload_n 1, 1) := by decide +kernel
theorem dX2_power_1 : decode cX2_power 1 = .ok (.invokestatic 43, 3) := by decide +kernel
theorem dX2_power_4 : decode cX2_power 4 = .ok (.ifCond .eq 11, 3) := by decide +kernel
theorem dX2_power_7 : decode cX2_power 7 = .ok (.aload_n 0, 1) := by decide +kernel
theorem dX2_power_8 : decode cX2_power 8 = .ok (.iload_n 2, 1) := by decide +kernel
theorem dX2_power_9 : decode cX2_power 9 = .ok (.invokevirtual 62, 3) := by decide +kernel
theorem dX2_power_12 : decode cX2_power 12 = .ok (.ifCond .ne 6, 3) := by decide +kernel
theorem dX2_power_15 : decode cX2_power 15 = .ok (.bipush (-101), 2) := by decide +kernel
theorem dX2_power_17 : decode cX2_power 17 = .ok (.ireturn, 1) := by decide +kernel
theorem dX2_power_18 : decode cX2_power 18 = .ok (.iload_n 3, 1) := by decide +kernel
theorem dX2_power_19 : decode cX2_power 19 = .ok (.bipush (-12), 2) := by decide +kernel
theorem dX2_power_21 : decode cX2_power 21 = .ok (.if_icmp .lt 9, 3) := by decide +kernel
theorem dX2_power_24 : decode cX2_power 24 = .ok (.iload_n 3, 1) := by decide +kernel
theorem dX2_power_25 : decode cX2_power 25 = .ok (.bipush 12, 2) := by decide +kernel
theorem dX2_power_27 : decode cX2_power 27 = .ok (.if_icmp .le 6, 3) := by decide +kernel
theorem dX2_power_30 : decode cX2_power 30 = .ok (.bipush (-102), 2) := by decide +kernel
theorem dX2_power_32 : decode cX2_power 32 = .ok (.ireturn, 1) := by decide +kernel
theorem dX2_power_33 : decode cX2_power 33 = .ok (.aload_n 0, 1) := by decide +kernel
theorem dX2_power_34 : decode cX2_power 34 = .ok (.aload_n 0, 1) := by decide +kernel
theorem dX2_power_35 : decode cX2_power 35 = .ok (.getfield 11, 3) := by decide +kernel
theorem dX2_power_38 : decode cX2_power 38 = .ok (.iload_n 2, 1) := by decide +kernel
theorem dX2_power_39 : decode cX2_power 39 = .ok (.aaload, 1) := by decide +kernel
theorem dX2_power_40 : decode cX2_power 40 = .ok (.iload_n 3, 1) := by decide +kernel
theorem dX2_power_41 : decode cX2_power 41 = .ok (.invokevirtual 72, 3) := by decide +kernel
theorem dX2_power_44 : decode cX2_power 44 = .ok (.ifCond .ne 6, 3) := by decide +kernel
theorem dX2_power_47 : decode cX2_power 47 = .ok (.bipush (-104), 2) := by decide +kernel
theorem dX2_power_49 : decode cX2_power 49 = .ok (.ireturn, 1) := by decide +kernel
theorem dX2_power_50 : decode cX2_power 50 = .ok (.aload_n 0, 1) := by decide +kernel
theorem dX2_power_51 : decode cX2_power 51 = .ok (.getfield 25, 3) := by decide +kernel
theorem dX2_power_54 : decode cX2_power 54 = .ok (.aload_n 0, 1) := by decide +kernel
theorem dX2_power_55 : decode cX2_power 55 = .ok (.getfield 11, 3) := by decide +kernel
theorem dX2_power_58 : decode cX2_power 58 = .ok (.iload_n 1, 1) := by decide +kernel
theorem dX2_power_59 : decode cX2_power 59 = .ok (.aaload, 1) := by decide +kernel
theorem dX2_power_60 : decode cX2_power 60 = .ok (.invokestatic 69, 3) := by decide +kernel
theorem dX2_power_63 : decode cX2_power 63 = .ok (.aload_n 0, 1) := by decide +kernel
theorem dX2_power_64 : decode cX2_power 64 = .ok (.getfield 11, 3) := by decide +kernel
theorem dX2_power_67 : decode cX2_power 67 = .ok (.iload_n 1, 1) := by decide +kernel
theorem dX2_power_68 : decode cX2_power 68 = .ok (.aaload, 1) := by decide +kernel
theorem dX2_power_69 : decode cX2_power 69 = .ok (.getfield 35, 3) := by decide +kernel
theorem dX2_power_72 : decode cX2_power 72 = .ok (.ireturn, 1) := by decide +kernel
theorem dX2_drop_0 : decode cX2_drop 0 = .ok (.aload_n 0, 1) := by decide +kernel
theorem dX2_drop_1 : decode cX2_drop 1 = .ok (.iload_n 1, 1) := by decide +kernel
theorem dX2_drop_2 : decode cX2_drop 2 = .ok (.invokevirtual 62, 3) := by decide +kernel
theorem dX2_drop_5 : decode cX2_drop 5 = .ok (.ifCond .ne 6, 3) := by decide +kernel
theorem dX2_drop_8 : decode cX2_drop 8 = .ok (.bipush (-101), 2) := by decide +kernel
theorem dX2_drop_10 : decode cX2_drop 10 = .ok (.ireturn, 1) := by decide +kernel
theorem dX2_drop_11 : decode cX2_drop 11 = .ok (.aload_n 0, 1) := by decide +kernel
theorem dX2_drop_12 : decode cX2_drop 12 = .ok (.getfield 11, 3) := by decide +kernel
theorem dX2_drop_15 : decode cX2_drop 15 = .ok (.iload_n 1, 1) := by decide +kernel
theorem dX2_drop_16 : decode cX2_drop 16 = .ok (.aaload, 1) := by decide +kernel
theorem dX2_drop_17 : decode cX2_drop 17 = .ok (.getfield 35, 3) := by decide +kernel
theorem dX2_drop_20 : decode cX2_drop 20 = .ok (.istore_n 2, 1) := by decide +kernel
theorem dX2_drop_21 : decode cX2_drop 21 = .ok (.aload_n 0, 1) := by decide +kernel
theorem dX2_drop_22 : decode cX2_drop 22 = .ok (.getfield 11, 3) := by decide +kernel
theorem dX2_drop_25 : decode cX2_drop 25 = .ok (.iload_n 1, 1) := by decide +kernel
theorem dX2_drop_26 : decode cX2_drop 26 = .ok (.aaload, 1) := by decide +kernel
theorem dX2_drop_27 : decode cX2_drop 27 = .ok (.iconst 0, 1) := by decide +kernel
theorem dX2_drop_28 : decode cX2_drop 28 = .ok (.putfield 35, 3) := by decide +kernel
theorem dX2_drop_31 : decode cX2_drop 31 = .ok (.iload_n 2, 1) := by decide +kernel
theorem dX2_drop_32 : decode cX2_drop 32 = .ok (.ireturn, 1) := by decide +kernel
theorem dX2_leaves_0 : decode cX2_leaves 0 = .ok (.aload_n 0, 1) := by decide +kernel
theorem dX2_leaves_1 : decode cX2_leaves 1 = .ok (.iload_n 1, 1) := by decide +kernel
theorem dX2_leaves_2 : decode cX2_leaves 2 = .ok (.invokevirtual 62, 3) := by decide +kernel
theorem dX2_leaves_5 : decode cX2_leaves 5 = .ok (.ifCond .eq 15, 3) := by decide +kernel
theorem dX2_leaves_8 : decode cX2_leaves 8 = .ok (.aload_n 0, 1) := by decide +kernel
theorem dX2_leaves_9 : decode cX2_leaves 9 = .ok (.getfield 11, 3) := by decide +kernel
theorem dX2_leaves_12 : decode cX2_leaves 12 = .ok (.iload_n 1, 1) := by decide +kernel
theorem dX2_leaves_13 : decode cX2_leaves 13 = .ok (.aaload, 1) := by decide +kernel
theorem dX2_leaves_14 : decode cX2_leaves 14 = .ok (.getfield 35, 3) := by decide +kernel
theorem dX2_leaves_17 : decode cX2_leaves 17 = .ok (.goto 5, 3) := by decide +kernel
theorem dX2_leaves_20 : decode cX2_leaves 20 = .ok (.bipush (-101), 2) := by decide +kernel
theorem dX2_leaves_22 : decode cX2_leaves 22 = .ok (.ireturn, 1) := by decide +kernel
theorem dX2_sort_0 : decode cX2_sort 0 = .ok (.aload_n 0, 1) := by decide +kernel
theorem dX2_sort_1 : decode cX2_sort 1 = .ok (.iload_n 1, 1) := by decide +kernel
theorem dX2_sort_2 : decode cX2_sort 2 = .ok (.invokevirtual 62, 3) := by decide +kernel
theorem dX2_sort_5 : decode cX2_sort 5 = .ok (.ifCond .eq 15, 3) := by decide +kernel
theorem dX2_sort_8 : decode cX2_sort 8 = .ok (.aload_n 0, 1) := by decide +kernel
theorem dX2_sort_9 : decode cX2_sort 9 = .ok (.getfield 11, 3) := by decide +kernel
theorem dX2_sort_12 : decode cX2_sort 12 = .ok (.iload_n 1, 1) := by decide +kernel
theorem dX2_sort_13 : decode cX2_sort 13 = .ok (.aaload, 1) := by decide +kernel
theorem dX2_sort_14 : decode cX2_sort 14 = .ok (.invokestatic 76, 3) := by decide +kernel
theorem dX2_sort_17 : decode cX2_sort 17 = .ok (.goto 5, 3) := by decide +kernel
theorem dX2_sort_20 : decode cX2_sort 20 = .ok (.bipush (-101), 2) := by decide +kernel
theorem dX2_sort_22 : decode cX2_sort 22 = .ok (.ireturn, 1) := by decide +kernel
theorem dX2_leaf_0 : decode cX2_leaf 0 = .ok (.aload_n 0, 1) := by decide +kernel
theorem dX2_leaf_1 : decode cX2_leaf 1 = .ok (.iload_n 1, 1) := by decide +kernel
theorem dX2_leaf_2 : decode cX2_leaf 2 = .ok (.invokevirtual 62, 3) := by decide +kernel
theorem dX2_leaf_5 : decode cX2_leaf 5 = .ok (.ifCond .eq 20, 3) := by decide +kernel
theorem dX2_leaf_8 : decode cX2_leaf 8 = .ok (.iload_n 2, 1) := by decide +kernel
theorem dX2_leaf_9 : decode cX2_leaf 9 = .ok (.ifCond .lt 16, 3) := by decide +kernel
theorem dX2_leaf_12 : decode cX2_leaf 12 = .ok (.iload_n 2, 1) := by decide +kernel
theorem dX2_leaf_13 : decode cX2_leaf 13 = .ok (.aload_n 0, 1) := by decide +kernel
theorem dX2_leaf_14 : decode cX2_leaf 14 = .ok (.getfield 11, 3) := by decide +kernel
theorem dX2_leaf_17 : decode cX2_leaf 17 = .ok (.iload_n 1, 1) := by decide +kernel
theorem dX2_leaf_18 : decode cX2_leaf 18 = .ok (.aaload, 1) := by decide +kernel
theorem dX2_leaf_19 : decode cX2_leaf 19 = .ok (.getfield 35, 3) := by decide +kernel
theorem dX2_leaf_22 : decode cX2_leaf 22 = .ok (.if_icmp .lt 6, 3) := by decide +kernel
theorem dX2_leaf_25 : decode cX2_leaf 25 = .ok (.bipush (-101), 2) := by decide +kernel
theorem dX2_leaf_27 : decode cX2_leaf 27 = .ok (.ireturn, 1) := by decide +kernel
theorem dX2_leaf_28 : decode cX2_leaf 28 = .ok (.iload_n 3, 1) := by decide +kernel
theorem dX2_leaf_29 : decode cX2_leaf 29 = .ok (.ifCond .lt 8, 3) := by decide +kernel
theorem dX2_leaf_32 : decode cX2_leaf 32 = .ok (.iload_n 3, 1) := by decide +kernel
theorem dX2_leaf_33 : decode cX2_leaf 33 = .ok (.iconst 3, 1) := by decide +kernel
theorem dX2_leaf_34 : decode cX2_leaf 34 = .ok (.if_icmp .le 6, 3) := by decide +kernel
theorem dX2_leaf_37 : decode cX2_leaf 37 = .ok (.bipush (-102), 2) := by decide +kernel
theorem dX2_leaf_39 : decode cX2_leaf 39 = .ok (.ireturn, 1) := by decide +kernel
theorem dX2_leaf_40 : decode cX2_leaf 40 = .ok (.aload_n 0, 1) := by decide +kernel
theorem dX2_leaf_41 : decode cX2_leaf 41 = .ok (.getfield 11, 3) := by decide +kernel
theorem dX2_leaf_44 : decode cX2_leaf 44 = .ok (.iload_n 1, 1) := by decide +kernel
theorem dX2_leaf_45 : decode cX2_leaf 45 = .ok (.aaload, 1) := by decide +kernel
theorem dX2_leaf_46 : decode cX2_leaf 46 = .ok (.iload_n 2, 1) := by decide +kernel
theorem dX2_leaf_47 : decode cX2_leaf 47 = .ok (.iload_n 3, 1) := by decide +kernel
theorem dX2_leaf_48 : decode cX2_leaf 48 = .ok (.invokevirtual 80, 3) := by decide +kernel
theorem dX2_leaf_51 : decode cX2_leaf 51 = .ok (.l2i, 1) := by decide +kernel
theorem dX2_leaf_52 : decode cX2_leaf 52 = .ok (.ireturn, 1) := by decide +kernel
theorem dX2_same_0 : decode cX2_same 0 = .ok (.aload_n 0, 1) := by decide +kernel
theorem dX2_same_1 : decode cX2_same 1 = .ok (.iload_n 1, 1) := by decide +kernel
theorem dX2_same_2 : decode cX2_same 2 = .ok (.invokevirtual 62, 3) := by decide +kernel
theorem dX2_same_5 : decode cX2_same 5 = .ok (.ifCond .eq 11, 3) := by decide +kernel
theorem dX2_same_8 : decode cX2_same 8 = .ok (.aload_n 0, 1) := by decide +kernel
theorem dX2_same_9 : decode cX2_same 9 = .ok (.iload_n 2, 1) := by decide +kernel
theorem dX2_same_10 : decode cX2_same 10 = .ok (.invokevirtual 62, 3) := by decide +kernel
theorem dX2_same_13 : decode cX2_same 13 = .ok (.ifCond .ne 6, 3) := by decide +kernel
theorem dX2_same_16 : decode cX2_same 16 = .ok (.bipush (-101), 2) := by decide +kernel
theorem dX2_same_18 : decode cX2_same 18 = .ok (.ireturn, 1) := by decide +kernel
theorem dX2_same_19 : decode cX2_same 19 = .ok (.aload_n 0, 1) := by decide +kernel
theorem dX2_same_20 : decode cX2_same 20 = .ok (.getfield 11, 3) := by decide +kernel
theorem dX2_same_23 : decode cX2_same 23 = .ok (.iload_n 1, 1) := by decide +kernel
theorem dX2_same_24 : decode cX2_same 24 = .ok (.aaload, 1) := by decide +kernel
theorem dX2_same_25 : decode cX2_same 25 = .ok (.aload_n 0, 1) := by decide +kernel
theorem dX2_same_26 : decode cX2_same 26 = .ok (.getfield 11, 3) := by decide +kernel
theorem dX2_same_29 : decode cX2_same 29 = .ok (.iload_n 2, 1) := by decide +kernel
theorem dX2_same_30 : decode cX2_same 30 = .ok (.aaload, 1) := by decide +kernel
theorem dX2_same_31 : decode cX2_same 31 = .ok (.invokestatic 84, 3) := by decide +kernel
theorem dX2_same_34 : decode cX2_same 34 = .ok (.ifCond .eq 7, 3) := by decide +kernel
theorem dX2_same_37 : decode cX2_same 37 = .ok (.iconst 1, 1) := by decide +kernel
theorem dX2_same_38 : decode cX2_same 38 = .ok (.goto 4, 3) := by decide +kernel
theorem dX2_same_41 : decode cX2_same 41 = .ok (.iconst 0, 1) := by decide +kernel
theorem dX2_same_42 : decode cX2_same 42 = .ok (.ireturn, 1) := by decide +kernel
theorem dX2_commute_0 : decode cX2_commute 0 = .ok (.aload_n 0, 1) := by decide +kernel
theorem dX2_commute_1 : decode cX2_commute 1 = .ok (.iload_n 1, 1) := by decide +kernel
theorem dX2_commute_2 : decode cX2_commute 2 = .ok (.invokevirtual 62, 3) := by decide +kernel
theorem dX2_commute_5 : decode cX2_commute 5 = .ok (.ifCond .eq 11, 3) := by decide +kernel
theorem dX2_commute_8 : decode cX2_commute 8 = .ok (.aload_n 0, 1) := by decide +kernel
theorem dX2_commute_9 : decode cX2_commute 9 = .ok (.iload_n 2, 1) := by decide +kernel
theorem dX2_commute_10 : decode cX2_commute 10 = .ok (.invokevirtual 62, 3) := by decide +kernel
theorem dX2_commute_13 : decode cX2_commute 13 = .ok (.ifCond .ne 6, 3) := by decide +kernel
theorem dX2_commute_16 : decode cX2_commute 16 = .ok (.bipush (-101), 2) := by decide +kernel
theorem dX2_commute_18 : decode cX2_commute 18 = .ok (.ireturn, 1) := by decide +kernel
theorem dX2_commute_19 : decode cX2_commute 19 = .ok (.aload_n 0, 1) := by decide +kernel
theorem dX2_commute_20 : decode cX2_commute 20 = .ok (.getfield 11, 3) := by decide +kernel
theorem dX2_commute_23 : decode cX2_commute 23 = .ok (.iload_n 1, 1) := by decide +kernel
theorem dX2_commute_24 : decode cX2_commute 24 = .ok (.aaload, 1) := by decide +kernel
theorem dX2_commute_25 : decode cX2_commute 25 = .ok (.aload_n 0, 1) := by decide +kernel
theorem dX2_commute_26 : decode cX2_commute 26 = .ok (.getfield 11, 3) := by decide +kernel
theorem dX2_commute_29 : decode cX2_commute 29 = .ok (.iload_n 2, 1) := by decide +kernel
theorem dX2_commute_30 : decode cX2_commute 30 = .ok (.aaload, 1) := by decide +kernel
theorem dX2_commute_31 : decode cX2_commute 31 = .ok (.aload_n 0, 1) := by decide +kernel
theorem dX2_commute_32 : decode cX2_commute 32 = .ok (.getfield 25, 3) := by decide +kernel
theorem dX2_commute_35 : decode cX2_commute 35 = .ok (.invokestatic 65, 3) := by decide +kernel
theorem dX2_commute_38 : decode cX2_commute 38 = .ok (.aload_n 0, 1) := by decide +kernel
theorem dX2_commute_39 : decode cX2_commute 39 = .ok (.getfield 11, 3) := by decide +kernel
theorem dX2_commute_42 : decode cX2_commute 42 = .ok (.iload_n 2, 1) := by decide +kernel
theorem dX2_commute_43 : decode cX2_commute 43 = .ok (.aaload, 1) := by decide +kernel
theorem dX2_commute_44 : decode cX2_commute 44 = .ok (.aload_n 0, 1) := by decide +kernel
theorem dX2_commute_45 : decode cX2_commute 45 = .ok (.getfield 11, 3) := by decide +kernel
theorem dX2_commute_48 : decode cX2_commute 48 = .ok (.iload_n 1, 1) := by decide +kernel
theorem dX2_commute_49 : decode cX2_commute 49 = .ok (.aaload, 1) := by decide +kernel
theorem dX2_commute_50 : decode cX2_commute 50 = .ok (.aload_n 0, 1) := by decide +kernel
theorem dX2_commute_51 : decode cX2_commute 51 = .ok (.getfield 22, 3) := by decide +kernel
theorem dX2_commute_54 : decode cX2_commute 54 = .ok (.invokestatic 65, 3) := by decide +kernel
theorem dX2_commute_57 : decode cX2_commute 57 = .ok (.aload_n 0, 1) := by decide +kernel
theorem dX2_commute_58 : decode cX2_commute 58 = .ok (.getfield 25, 3) := by decide +kernel
theorem dX2_commute_61 : decode cX2_commute 61 = .ok (.getfield 35, 3) := by decide +kernel
theorem dX2_commute_64 : decode cX2_commute 64 = .ok (.bipush 24, 2) := by decide +kernel
theorem dX2_commute_66 : decode cX2_commute 66 = .ok (.if_icmp .gt 15, 3) := by decide +kernel
theorem dX2_commute_69 : decode cX2_commute 69 = .ok (.aload_n 0, 1) := by decide +kernel
theorem dX2_commute_70 : decode cX2_commute 70 = .ok (.getfield 22, 3) := by decide +kernel
theorem dX2_commute_73 : decode cX2_commute 73 = .ok (.getfield 35, 3) := by decide +kernel
theorem dX2_commute_76 : decode cX2_commute 76 = .ok (.bipush 24, 2) := by decide +kernel
theorem dX2_commute_78 : decode cX2_commute 78 = .ok (.if_icmp .le 6, 3) := by decide +kernel
theorem dX2_commute_81 : decode cX2_commute 81 = .ok (.bipush (-104), 2) := by decide +kernel
theorem dX2_commute_83 : decode cX2_commute 83 = .ok (.ireturn, 1) := by decide +kernel
theorem dX2_commute_84 : decode cX2_commute 84 = .ok (.aload_n 0, 1) := by decide +kernel
theorem dX2_commute_85 : decode cX2_commute 85 = .ok (.getfield 25, 3) := by decide +kernel
theorem dX2_commute_88 : decode cX2_commute 88 = .ok (.aload_n 0, 1) := by decide +kernel
theorem dX2_commute_89 : decode cX2_commute 89 = .ok (.getfield 22, 3) := by decide +kernel
theorem dX2_commute_92 : decode cX2_commute 92 = .ok (.invokestatic 84, 3) := by decide +kernel
theorem dX2_commute_95 : decode cX2_commute 95 = .ok (.ifCond .eq 7, 3) := by decide +kernel
theorem dX2_commute_98 : decode cX2_commute 98 = .ok (.iconst 1, 1) := by decide +kernel
theorem dX2_commute_99 : decode cX2_commute 99 = .ok (.goto 4, 3) := by decide +kernel
theorem dX2_commute_102 : decode cX2_commute 102 = .ok (.iconst 0, 1) := by decide +kernel
theorem dX2_commute_103 : decode cX2_commute 103 = .ok (.ireturn, 1) := by decide +kernel
theorem dX2_order_0 : decode cX2_order 0 = .ok (.aload_n 0, 1) := by decide +kernel
theorem dX2_order_1 : decode cX2_order 1 = .ok (.iload_n 1, 1) := by decide +kernel
theorem dX2_order_2 : decode cX2_order 2 = .ok (.invokevirtual 62, 3) := by decide +kernel
theorem dX2_order_5 : decode cX2_order 5 = .ok (.ifCond .ne 6, 3) := by decide +kernel
theorem dX2_order_8 : decode cX2_order 8 = .ok (.bipush (-101), 2) := by decide +kernel
theorem dX2_order_10 : decode cX2_order 10 = .ok (.ireturn, 1) := by decide +kernel
theorem dX2_order_11 : decode cX2_order 11 = .ok (.aload_n 0, 1) := by decide +kernel
theorem dX2_order_12 : decode cX2_order 12 = .ok (.getfield 25, 3) := by decide +kernel
theorem dX2_order_15 : decode cX2_order 15 = .ok (.invokevirtual 88, 3) := by decide +kernel
theorem dX2_order_18 : decode cX2_order 18 = .ok (.iconst 1, 1) := by decide +kernel
theorem dX2_order_19 : decode cX2_order 19 = .ok (.istore_n 2, 1) := by decide +kernel
theorem dX2_order_20 : decode cX2_order 20 = .ok (.iload_n 2, 1) := by decide +kernel
theorem dX2_order_21 : decode cX2_order 21 = .ok (.bipush 40, 2) := by decide +kernel
theorem dX2_order_23 : decode cX2_order 23 = .ok (.if_icmp .gt 37, 3) := by decide +kernel
theorem dX2_order_26 : decode cX2_order 26 = .ok (.aload_n 0, 1) := by decide +kernel
theorem dX2_order_27 : decode cX2_order 27 = .ok (.aload_n 0, 1) := by decide +kernel
theorem dX2_order_28 : decode cX2_order 28 = .ok (.getfield 11, 3) := by decide +kernel
theorem dX2_order_31 : decode cX2_order 31 = .ok (.iload_n 1, 1) := by decide +kernel
theorem dX2_order_32 : decode cX2_order 32 = .ok (.aaload, 1) := by decide +kernel
theorem dX2_order_33 : decode cX2_order 33 = .ok (.invokevirtual 91, 3) := by decide +kernel
theorem dX2_order_36 : decode cX2_order 36 = .ok (.ifCond .ne 5, 3) := by decide +kernel
theorem dX2_order_39 : decode cX2_order 39 = .ok (.iconst 0, 1) := by decide +kernel
theorem dX2_order_40 : decode cX2_order 40 = .ok (.ireturn, 1) := by decide +kernel
theorem dX2_order_41 : decode cX2_order 41 = .ok (.aload_n 0, 1) := by decide +kernel
theorem dX2_order_42 : decode cX2_order 42 = .ok (.getfield 25, 3) := by decide +kernel
theorem dX2_order_45 : decode cX2_order 45 = .ok (.getfield 35, 3) := by decide +kernel
theorem dX2_order_48 : decode cX2_order 48 = .ok (.iconst 1, 1) := by decide +kernel
theorem dX2_order_49 : decode cX2_order 49 = .ok (.if_icmp .ne 5, 3) := by decide +kernel
theorem dX2_order_52 : decode cX2_order 52 = .ok (.iload_n 2, 1) := by decide +kernel
theorem dX2_order_53 : decode cX2_order 53 = .ok (.ireturn, 1) := by decide +kernel
theorem dX2_order_54 : decode cX2_order 54 = .ok (.iinc 2 1, 3) := by decide +kernel
theorem dX2_order_57 : decode cX2_order 57 = .ok (.goto (-37), 3) := by decide +kernel
theorem dX2_order_60 : decode cX2_order 60 = .ok (.iconst 0, 1) := by decide +kernel
theorem dX2_order_61 : decode cX2_order 61 = .ok (.ireturn, 1) := by decide +kernel
theorem dX2_length_0 : decode cX2_length 0 = .ok (.aload_n 0, 1) := by decide +kernel
theorem dX2_length_1 : decode cX2_length 1 = .ok (.iload_n 1, 1) := by decide +kernel
theorem dX2_length_2 : decode cX2_length 2 = .ok (.invokevirtual 62, 3) := by decide +kernel
theorem dX2_length_5 : decode cX2_length 5 = .ok (.ifCond .ne 6, 3) := by decide +kernel
theorem dX2_length_8 : decode cX2_length 8 = .ok (.bipush (-101), 2) := by decide +kernel
theorem dX2_length_10 : decode cX2_length 10 = .ok (.ireturn, 1) := by decide +kernel
theorem dX2_length_11 : decode cX2_length 11 = .ok (.aload_n 0, 1) := by decide +kernel
theorem dX2_length_12 : decode cX2_length 12 = .ok (.invokevirtual 94, 3) := by decide +kernel
theorem dX2_length_15 : decode cX2_length 15 = .ok (.astore_n 2, 1) := by decide +kernel
theorem dX2_length_16 : decode cX2_length 16 = .ok (.aload_n 2, 1) := by decide +kernel
theorem dX2_length_17 : decode cX2_length 17 = .ok (.aload_n 0, 1) := by decide +kernel
theorem dX2_length_18 : decode cX2_length 18 = .ok (.getfield 11, 3) := by decide +kernel
theorem dX2_length_21 : decode cX2_length 21 = .ok (.iload_n 1, 1) := by decide +kernel
theorem dX2_length_22 : decode cX2_length 22 = .ok (.aaload, 1) := by decide +kernel
theorem dX2_length_23 : decode cX2_length 23 = .ok (.invokevirtual 98, 3) := by decide +kernel
theorem dX2_length_26 : decode cX2_length 26 = .ok (.istore_n 3, 1) := by decide +kernel
theorem dX2_length_27 : decode cX2_length 27 = .ok (.iload_n 3, 1) := by decide +kernel
theorem dX2_length_28 : decode cX2_length 28 = .ok (.ifCond .ge 5, 3) := by decide +kernel
theorem dX2_length_31 : decode cX2_length 31 = .ok (.iconst (-1), 1) := by decide +kernel
theorem dX2_length_32 : decode cX2_length 32 = .ok (.ireturn, 1) := by decide +kernel
theorem dX2_length_33 : decode cX2_length 33 = .ok (.iconst 0, 1) := by decide +kernel
theorem dX2_length_34 : decode cX2_length 34 = .ok (.istore 4, 2) := by decide +kernel
theorem dX2_length_36 : decode cX2_length 36 = .ok (.iload 4, 2) := by decide +kernel
theorem dX2_length_38 : decode cX2_length 38 = .ok (.iconst 4, 1) := by decide +kernel
theorem dX2_length_39 : decode cX2_length 39 = .ok (.if_icmp .gt 23, 3) := by decide +kernel
theorem dX2_length_42 : decode cX2_length 42 = .ok (.iload_n 3, 1) := by decide +kernel
theorem dX2_length_43 : decode cX2_length 43 = .ok (.aload_n 2, 1) := by decide +kernel
theorem dX2_length_44 : decode cX2_length 44 = .ok (.getfield 103, 3) := by decide +kernel
theorem dX2_length_47 : decode cX2_length 47 = .ok (.iload 4, 2) := by decide +kernel
theorem dX2_length_49 : decode cX2_length 49 = .ok (.iaload, 1) := by decide +kernel
theorem dX2_length_50 : decode cX2_length 50 = .ok (.if_icmp .ge 6, 3) := by decide +kernel
theorem dX2_length_53 : decode cX2_length 53 = .ok (.iload 4, 2) := by decide +kernel
theorem dX2_length_55 : decode cX2_length 55 = .ok (.ireturn, 1) := by decide +kernel
theorem dX2_length_56 : decode cX2_length 56 = .ok (.iinc 4 1, 3) := by decide +kernel
theorem dX2_length_59 : decode cX2_length 59 = .ok (.goto (-23), 3) := by decide +kernel
theorem dX2_length_62 : decode cX2_length 62 = .ok (.iconst (-1), 1) := by decide +kernel
theorem dX2_length_63 : decode cX2_length 63 = .ok (.ireturn, 1) := by decide +kernel
theorem dX2_ball_0 : decode cX2_ball 0 = .ok (.iload_n 1, 1) := by decide +kernel
theorem dX2_ball_1 : decode cX2_ball 1 = .ok (.ifCond .lt 8, 3) := by decide +kernel
theorem dX2_ball_4 : decode cX2_ball 4 = .ok (.iload_n 1, 1) := by decide +kernel
theorem dX2_ball_5 : decode cX2_ball 5 = .ok (.iconst 4, 1) := by decide +kernel
theorem dX2_ball_6 : decode cX2_ball 6 = .ok (.if_icmp .le 6, 3) := by decide +kernel
theorem dX2_ball_9 : decode cX2_ball 9 = .ok (.bipush (-102), 2) := by decide +kernel
theorem dX2_ball_11 : decode cX2_ball 11 = .ok (.ireturn, 1) := by decide +kernel
theorem dX2_ball_12 : decode cX2_ball 12 = .ok (.aload_n 0, 1) := by decide +kernel
theorem dX2_ball_13 : decode cX2_ball 13 = .ok (.invokevirtual 94, 3) := by decide +kernel
theorem dX2_ball_16 : decode cX2_ball 16 = .ok (.astore_n 2, 1) := by decide +kernel
theorem dX2_ball_17 : decode cX2_ball 17 = .ok (.iload_n 1, 1) := by decide +kernel
theorem dX2_ball_18 : decode cX2_ball 18 = .ok (.ifCond .ne 12, 3) := by decide +kernel
theorem dX2_ball_21 : decode cX2_ball 21 = .ok (.aload_n 2, 1) := by decide +kernel
theorem dX2_ball_22 : decode cX2_ball 22 = .ok (.getfield 103, 3) := by decide +kernel
theorem dX2_ball_25 : decode cX2_ball 25 = .ok (.iconst 0, 1) := by decide +kernel
theorem dX2_ball_26 : decode cX2_ball 26 = .ok (.iaload, 1) := by decide +kernel
theorem dX2_ball_27 : decode cX2_ball 27 = .ok (.goto 18, 3) := by decide +kernel
theorem dX2_ball_30 : decode cX2_ball 30 = .ok (.aload_n 2, 1) := by decide +kernel
theorem dX2_ball_31 : decode cX2_ball 31 = .ok (.getfield 103, 3) := by decide +kernel
theorem dX2_ball_34 : decode cX2_ball 34 = .ok (.iload_n 1, 1) := by decide +kernel
theorem dX2_ball_35 : decode cX2_ball 35 = .ok (.iaload, 1) := by decide +kernel
theorem dX2_ball_36 : decode cX2_ball 36 = .ok (.aload_n 2, 1) := by decide +kernel
theorem dX2_ball_37 : decode cX2_ball 37 = .ok (.getfield 103, 3) := by decide +kernel
theorem dX2_ball_40 : decode cX2_ball 40 = .ok (.iload_n 1, 1) := by decide +kernel
theorem dX2_ball_41 : decode cX2_ball 41 = .ok (.iconst 1, 1) := by decide +kernel
theorem dX2_ball_42 : decode cX2_ball 42 = .ok (.isub, 1) := by decide +kernel
theorem dX2_ball_43 : decode cX2_ball 43 = .ok (.iaload, 1) := by decide +kernel
theorem dX2_ball_44 : decode cX2_ball 44 = .ok (.isub, 1) := by decide +kernel
theorem dX2_ball_45 : decode cX2_ball 45 = .ok (.ireturn, 1) := by decide +kernel
theorem dX2_go_0 : decode cX2_go 0 = .ok (.aload_n 0, 1) := by decide +kernel
theorem dX2_go_1 : decode cX2_go 1 = .ok (.iload_n 1, 1) := by decide +kernel
theorem dX2_go_2 : decode cX2_go 2 = .ok (.invokevirtual 62, 3) := by decide +kernel
theorem dX2_go_5 : decode cX2_go 5 = .ok (.ifCond .ne 6, 3) := by decide +kernel
theorem dX2_go_8 : decode cX2_go 8 = .ok (.bipush (-101), 2) := by decide +kernel
theorem dX2_go_10 : decode cX2_go 10 = .ok (.ireturn, 1) := by decide +kernel
theorem dX2_go_11 : decode cX2_go 11 = .ok (.iload_n 2, 1) := by decide +kernel
theorem dX2_go_12 : decode cX2_go 12 = .ok (.ifCond .lt 23, 3) := by decide +kernel
theorem dX2_go_15 : decode cX2_go 15 = .ok (.iload_n 2, 1) := by decide +kernel
theorem dX2_go_16 : decode cX2_go 16 = .ok (.bipush 30, 2) := by decide +kernel
theorem dX2_go_18 : decode cX2_go 18 = .ok (.if_icmp .gt 17, 3) := by decide +kernel
theorem dX2_go_21 : decode cX2_go 21 = .ok (.lload_n 3, 1) := by decide +kernel
theorem dX2_go_22 : decode cX2_go 22 = .ok (.lconst 0, 1) := by decide +kernel
theorem dX2_go_23 : decode cX2_go 23 = .ok (.lcmp, 1) := by decide +kernel
theorem dX2_go_24 : decode cX2_go 24 = .ok (.ifCond .lt 11, 3) := by decide +kernel
theorem dX2_go_27 : decode cX2_go 27 = .ok (.lload_n 3, 1) := by decide +kernel
theorem dX2_go_28 : decode cX2_go 28 = .ok (.lconst 1, 1) := by decide +kernel
theorem dX2_go_29 : decode cX2_go 29 = .ok (.iload_n 2, 1) := by decide +kernel
theorem dX2_go_30 : decode cX2_go 30 = .ok (.lshl, 1) := by decide +kernel
theorem dX2_go_31 : decode cX2_go 31 = .ok (.lcmp, 1) := by decide +kernel
theorem dX2_go_32 : decode cX2_go 32 = .ok (.ifCond .lt 6, 3) := by decide +kernel
theorem dX2_go_35 : decode cX2_go 35 = .ok (.bipush (-102), 2) := by decide +kernel
theorem dX2_go_37 : decode cX2_go 37 = .ok (.ireturn, 1) := by decide +kernel
theorem dX2_go_38 : decode cX2_go 38 = .ok (.aload_n 0, 1) := by decide +kernel
theorem dX2_go_39 : decode cX2_go 39 = .ok (.getfield 11, 3) := by decide +kernel
theorem dX2_go_42 : decode cX2_go 42 = .ok (.iload_n 1, 1) := by decide +kernel
theorem dX2_go_43 : decode cX2_go 43 = .ok (.aaload, 1) := by decide +kernel
theorem dX2_go_44 : decode cX2_go 44 = .ok (.astore 5, 2) := by decide +kernel
theorem dX2_go_46 : decode cX2_go 46 = .ok (.lload_n 3, 1) := by decide +kernel
theorem dX2_go_47 : decode cX2_go 47 = .ok (.bipush 30, 2) := by decide +kernel
theorem dX2_go_49 : decode cX2_go 49 = .ok (.iload_n 2, 1) := by decide +kernel
theorem dX2_go_50 : decode cX2_go 50 = .ok (.isub, 1) := by decide +kernel
theorem dX2_go_51 : decode cX2_go 51 = .ok (.lshl, 1) := by decide +kernel
theorem dX2_go_52 : decode cX2_go 52 = .ok (.lstore 6, 2) := by decide +kernel
theorem dX2_go_54 : decode cX2_go 54 = .ok (.aload 5, 2) := by decide +kernel
theorem dX2_go_56 : decode cX2_go 56 = .ok (.lload 6, 2) := by decide +kernel
theorem dX2_go_58 : decode cX2_go 58 = .ok (.bipush 7, 2) := by decide +kernel
theorem dX2_go_60 : decode cX2_go 60 = .ok (.lshr, 1) := by decide +kernel
theorem dX2_go_61 : decode cX2_go 61 = .ok (.invokevirtual 107, 3) := by decide +kernel
theorem dX2_go_64 : decode cX2_go 64 = .ok (.istore 8, 2) := by decide +kernel
theorem dX2_go_66 : decode cX2_go 66 = .ok (.aload 5, 2) := by decide +kernel
theorem dX2_go_68 : decode cX2_go 68 = .ok (.getfield 111, 3) := by decide +kernel
theorem dX2_go_71 : decode cX2_go 71 = .ok (.iload 8, 2) := by decide +kernel
theorem dX2_go_73 : decode cX2_go 73 = .ok (.iaload, 1) := by decide +kernel
theorem dX2_go_74 : decode cX2_go 74 = .ok (.istore 9, 2) := by decide +kernel
theorem dX2_go_76 : decode cX2_go 76 = .ok (.aload 5, 2) := by decide +kernel
theorem dX2_go_78 : decode cX2_go 78 = .ok (.getfield 114, 3) := by decide +kernel
theorem dX2_go_81 : decode cX2_go 81 = .ok (.iload 8, 2) := by decide +kernel
theorem dX2_go_83 : decode cX2_go 83 = .ok (.iaload, 1) := by decide +kernel
theorem dX2_go_84 : decode cX2_go 84 = .ok (.istore 10, 2) := by decide +kernel
theorem dX2_go_86 : decode cX2_go 86 = .ok (.lload 6, 2) := by decide +kernel
theorem dX2_go_88 : decode cX2_go 88 = .ok (.aload 5, 2) := by decide +kernel
theorem dX2_go_90 : decode cX2_go 90 = .ok (.getfield 117, 3) := by decide +kernel
theorem dX2_go_93 : decode cX2_go 93 = .ok (.iload 8, 2) := by decide +kernel
theorem dX2_go_95 : decode cX2_go 95 = .ok (.laload, 1) := by decide +kernel
theorem dX2_go_96 : decode cX2_go 96 = .ok (.bipush 30, 2) := by decide +kernel
theorem dX2_go_98 : decode cX2_go 98 = .ok (.iload 9, 2) := by decide +kernel
theorem dX2_go_100 : decode cX2_go 100 = .ok (.isub, 1) := by decide +kernel
theorem dX2_go_101 : decode cX2_go 101 = .ok (.lshl, 1) := by decide +kernel
theorem dX2_go_102 : decode cX2_go 102 = .ok (.lsub, 1) := by decide +kernel
theorem dX2_go_103 : decode cX2_go 103 = .ok (.lstore 11, 2) := by decide +kernel
theorem dX2_go_105 : decode cX2_go 105 = .ok (.aload 5, 2) := by decide +kernel
theorem dX2_go_107 : decode cX2_go 107 = .ok (.getfield 121, 3) := by decide +kernel
theorem dX2_go_110 : decode cX2_go 110 = .ok (.iload 8, 2) := by decide +kernel
theorem dX2_go_112 : decode cX2_go 112 = .ok (.laload, 1) := by decide +kernel
theorem dX2_go_113 : decode cX2_go 113 = .ok (.bipush 53, 2) := by decide +kernel
theorem dX2_go_115 : decode cX2_go 115 = .ok (.iload 10, 2) := by decide +kernel
theorem dX2_go_117 : decode cX2_go 117 = .ok (.isub, 1) := by decide +kernel
theorem dX2_go_118 : decode cX2_go 118 = .ok (.lshl, 1) := by decide +kernel
theorem dX2_go_119 : decode cX2_go 119 = .ok (.lstore 13, 2) := by decide +kernel
theorem dX2_go_121 : decode cX2_go 121 = .ok (.aload_n 0, 1) := by decide +kernel
theorem dX2_go_122 : decode cX2_go 122 = .ok (.bipush 53, 2) := by decide +kernel
theorem dX2_go_124 : decode cX2_go 124 = .ok (.lload 13, 2) := by decide +kernel
theorem dX2_go_126 : decode cX2_go 126 = .ok (.lload 11, 2) := by decide +kernel
theorem dX2_go_128 : decode cX2_go 128 = .ok (.bipush 23, 2) := by decide +kernel
theorem dX2_go_130 : decode cX2_go 130 = .ok (.iload 9, 2) := by decide +kernel
theorem dX2_go_132 : decode cX2_go 132 = .ok (.iadd, 1) := by decide +kernel
theorem dX2_go_133 : decode cX2_go 133 = .ok (.iload 10, 2) := by decide +kernel
theorem dX2_go_135 : decode cX2_go 135 = .ok (.isub, 1) := by decide +kernel
theorem dX2_go_136 : decode cX2_go 136 = .ok (.lshl, 1) := by decide +kernel
theorem dX2_go_137 : decode cX2_go 137 = .ok (.ladd, 1) := by decide +kernel
theorem dX2_go_138 : decode cX2_go 138 = .ok (.invokevirtual 124, 3) := by decide +kernel
theorem dX2_go_141 : decode cX2_go 141 = .ok (.iconst 1, 1) := by decide +kernel
theorem dX2_go_142 : decode cX2_go 142 = .ok (.ireturn, 1) := by decide +kernel
theorem dX2_seen_0 : decode cX2_seen 0 = .ok (.iload_n 1, 1) := by decide +kernel
theorem dX2_seen_1 : decode cX2_seen 1 = .ok (.ifCond .ne 9, 3) := by decide +kernel
theorem dX2_seen_4 : decode cX2_seen 4 = .ok (.aload_n 0, 1) := by decide +kernel
theorem dX2_seen_5 : decode cX2_seen 5 = .ok (.getfield 128, 3) := by decide +kernel
theorem dX2_seen_8 : decode cX2_seen 8 = .ok (.i2l, 1) := by decide +kernel
theorem dX2_seen_9 : decode cX2_seen 9 = .ok (.lreturn, 1) := by decide +kernel
theorem dX2_seen_10 : decode cX2_seen 10 = .ok (.iload_n 1, 1) := by decide +kernel
theorem dX2_seen_11 : decode cX2_seen 11 = .ok (.iconst 1, 1) := by decide +kernel
theorem dX2_seen_12 : decode cX2_seen 12 = .ok (.if_icmp .ne 10, 3) := by decide +kernel
theorem dX2_seen_15 : decode cX2_seen 15 = .ok (.aload_n 0, 1) := by decide +kernel
theorem dX2_seen_16 : decode cX2_seen 16 = .ok (.getfield 131, 3) := by decide +kernel
theorem dX2_seen_19 : decode cX2_seen 19 = .ok (.goto 6, 3) := by decide +kernel
theorem dX2_seen_22 : decode cX2_seen 22 = .ok (.ldc2_w 135, 3) := by decide +kernel
theorem dX2_seen_25 : decode cX2_seen 25 = .ok (.lreturn, 1) := by decide +kernel
theorem dX2_bend_0 : decode cX2_bend 0 = .ok (.aload_n 0, 1) := by decide +kernel
theorem dX2_bend_1 : decode cX2_bend 1 = .ok (.iload_n 1, 1) := by decide +kernel
theorem dX2_bend_2 : decode cX2_bend 2 = .ok (.invokevirtual 62, 3) := by decide +kernel
theorem dX2_bend_5 : decode cX2_bend 5 = .ok (.ifCond .eq 20, 3) := by decide +kernel
theorem dX2_bend_8 : decode cX2_bend 8 = .ok (.iload_n 2, 1) := by decide +kernel
theorem dX2_bend_9 : decode cX2_bend 9 = .ok (.ifCond .lt 16, 3) := by decide +kernel
theorem dX2_bend_12 : decode cX2_bend 12 = .ok (.iload_n 2, 1) := by decide +kernel
theorem dX2_bend_13 : decode cX2_bend 13 = .ok (.aload_n 0, 1) := by decide +kernel
theorem dX2_bend_14 : decode cX2_bend 14 = .ok (.getfield 11, 3) := by decide +kernel
theorem dX2_bend_17 : decode cX2_bend 17 = .ok (.iload_n 1, 1) := by decide +kernel
theorem dX2_bend_18 : decode cX2_bend 18 = .ok (.aaload, 1) := by decide +kernel
theorem dX2_bend_19 : decode cX2_bend 19 = .ok (.getfield 35, 3) := by decide +kernel
theorem dX2_bend_22 : decode cX2_bend 22 = .ok (.if_icmp .lt 7, 3) := by decide +kernel
theorem dX2_bend_25 : decode cX2_bend 25 = .ok (.sipush (-1000), 3) := by decide +kernel
theorem dX2_bend_28 : decode cX2_bend 28 = .ok (.ireturn, 1) := by decide +kernel
theorem dX2_bend_29 : decode cX2_bend 29 = .ok (.aload_n 0, 1) := by decide +kernel
theorem dX2_bend_30 : decode cX2_bend 30 = .ok (.getfield 11, 3) := by decide +kernel
theorem dX2_bend_33 : decode cX2_bend 33 = .ok (.iload_n 1, 1) := by decide +kernel
theorem dX2_bend_34 : decode cX2_bend 34 = .ok (.aaload, 1) := by decide +kernel
theorem dX2_bend_35 : decode cX2_bend 35 = .ok (.iload_n 2, 1) := by decide +kernel
theorem dX2_bend_36 : decode cX2_bend 36 = .ok (.invokevirtual 137, 3) := by decide +kernel
theorem dX2_bend_39 : decode cX2_bend 39 = .ok (.istore_n 3, 1) := by decide +kernel
theorem dX2_bend_40 : decode cX2_bend 40 = .ok (.iload_n 2, 1) := by decide +kernel
theorem dX2_bend_41 : decode cX2_bend 41 = .ok (.ifCond .ne 7, 3) := by decide +kernel
theorem dX2_bend_44 : decode cX2_bend 44 = .ok (.iload_n 3, 1) := by decide +kernel
theorem dX2_bend_45 : decode cX2_bend 45 = .ok (.goto 17, 3) := by decide +kernel
theorem dX2_bend_48 : decode cX2_bend 48 = .ok (.iload_n 3, 1) := by decide +kernel
theorem dX2_bend_49 : decode cX2_bend 49 = .ok (.aload_n 0, 1) := by decide +kernel
theorem dX2_bend_50 : decode cX2_bend 50 = .ok (.getfield 11, 3) := by decide +kernel
theorem dX2_bend_53 : decode cX2_bend 53 = .ok (.iload_n 1, 1) := by decide +kernel
theorem dX2_bend_54 : decode cX2_bend 54 = .ok (.aaload, 1) := by decide +kernel
theorem dX2_bend_55 : decode cX2_bend 55 = .ok (.iload_n 2, 1) := by decide +kernel
theorem dX2_bend_56 : decode cX2_bend 56 = .ok (.iconst 1, 1) := by decide +kernel
theorem dX2_bend_57 : decode cX2_bend 57 = .ok (.isub, 1) := by decide +kernel
theorem dX2_bend_58 : decode cX2_bend 58 = .ok (.invokevirtual 137, 3) := by decide +kernel
theorem dX2_bend_61 : decode cX2_bend 61 = .ok (.isub, 1) := by decide +kernel
