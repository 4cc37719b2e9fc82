theorem dX3_order_40 : decode cX3_order 40 = .ok (.bipush 24, 2) := by decide +kernel
theorem dX3_order_42 : decode cX3_order 42 = .ok (.if_icmp .le 5, 3) := by decide +kernel
theorem dX3_order_45 : decode cX3_order 45 = .ok (.iconst 0, 1) := by decide +kernel
theorem dX3_order_46 : decode cX3_order 46 = .ok (.ireturn, 1) := by decide +kernel
theorem dX3_order_47 : decode cX3_order 47 = .ok (.aload_n 0, 1) := by decide +kernel
theorem dX3_order_48 : decode cX3_order 48 = .ok (.invokevirtual 132, 3) := by decide +kernel
theorem dX3_order_51 : decode cX3_order 51 = .ok (.ifCond .eq 5, 3) := by decide +kernel
theorem dX3_order_54 : decode cX3_order 54 = .ok (.iload_n 2, 1) := by decide +kernel
theorem dX3_order_55 : decode cX3_order 55 = .ok (.ireturn, 1) := by decide +kernel
theorem dX3_order_56 : decode cX3_order 56 = .ok (.iinc 2 1, 3) := by decide +kernel
theorem dX3_order_59 : decode cX3_order 59 = .ok (.goto (-42), 3) := by decide +kernel
theorem dX3_order_62 : decode cX3_order 62 = .ok (.iconst 0, 1) := by decide +kernel
theorem dX3_order_63 : decode cX3_order 63 = .ok (.ireturn, 1) := by decide +kernel
theorem dX3_wordOf_0 : decode cX3_wordOf 0 = .ok (.iconst 0, 1) := by decide +kernel
theorem dX3_wordOf_1 : decode cX3_wordOf 1 = .ok (.istore_n 1, 1) := by decide +kernel
theorem dX3_wordOf_2 : decode cX3_wordOf 2 = .ok (.iload_n 1, 1) := by decide +kernel
theorem dX3_wordOf_3 : decode cX3_wordOf 3 = .ok (.aload_n 0, 1) := by decide +kernel
theorem dX3_wordOf_4 : decode cX3_wordOf 4 = .ok (.getfield 136, 3) := by decide +kernel
theorem dX3_wordOf_7 : decode cX3_wordOf 7 = .ok (.if_icmp .ge 84, 3) := by decide +kernel
theorem dX3_wordOf_10 : decode cX3_wordOf 10 = .ok (.aload_n 0, 1) := by decide +kernel
theorem dX3_wordOf_11 : decode cX3_wordOf 11 = .ok (.getfield 26, 3) := by decide +kernel
theorem dX3_wordOf_14 : decode cX3_wordOf 14 = .ok (.iload_n 1, 1) := by decide +kernel
theorem dX3_wordOf_15 : decode cX3_wordOf 15 = .ok (.iaload, 1) := by decide +kernel
theorem dX3_wordOf_16 : decode cX3_wordOf 16 = .ok (.aload_n 0, 1) := by decide +kernel
theorem dX3_wordOf_17 : decode cX3_wordOf 17 = .ok (.getfield 51, 3) := by decide +kernel
theorem dX3_wordOf_20 : decode cX3_wordOf 20 = .ok (.if_icmp .ne 7, 3) := by decide +kernel
theorem dX3_wordOf_23 : decode cX3_wordOf 23 = .ok (.iconst 1, 1) := by decide +kernel
theorem dX3_wordOf_24 : decode cX3_wordOf 24 = .ok (.goto 4, 3) := by decide +kernel
theorem dX3_wordOf_27 : decode cX3_wordOf 27 = .ok (.iconst 0, 1) := by decide +kernel
theorem dX3_wordOf_28 : decode cX3_wordOf 28 = .ok (.istore_n 2, 1) := by decide +kernel
theorem dX3_wordOf_29 : decode cX3_wordOf 29 = .ok (.iconst 0, 1) := by decide +kernel
theorem dX3_wordOf_30 : decode cX3_wordOf 30 = .ok (.istore_n 3, 1) := by decide +kernel
theorem dX3_wordOf_31 : decode cX3_wordOf 31 = .ok (.iload_n 3, 1) := by decide +kernel
theorem dX3_wordOf_32 : decode cX3_wordOf 32 = .ok (.iconst 4, 1) := by decide +kernel
theorem dX3_wordOf_33 : decode cX3_wordOf 33 = .ok (.aload_n 0, 1) := by decide +kernel
theorem dX3_wordOf_34 : decode cX3_wordOf 34 = .ok (.getfield 51, 3) := by decide +kernel
theorem dX3_wordOf_37 : decode cX3_wordOf 37 = .ok (.imul, 1) := by decide +kernel
theorem dX3_wordOf_38 : decode cX3_wordOf 38 = .ok (.if_icmp .ge 41, 3) := by decide +kernel
theorem dX3_wordOf_41 : decode cX3_wordOf 41 = .ok (.iload_n 2, 1) := by decide +kernel
theorem dX3_wordOf_42 : decode cX3_wordOf 42 = .ok (.ifCond .eq 37, 3) := by decide +kernel
theorem dX3_wordOf_45 : decode cX3_wordOf 45 = .ok (.aload_n 0, 1) := by decide +kernel
theorem dX3_wordOf_46 : decode cX3_wordOf 46 = .ok (.getfield 29, 3) := by decide +kernel
theorem dX3_wordOf_49 : decode cX3_wordOf 49 = .ok (.bipush 96, 2) := by decide +kernel
theorem dX3_wordOf_51 : decode cX3_wordOf 51 = .ok (.iload_n 1, 1) := by decide +kernel
theorem dX3_wordOf_52 : decode cX3_wordOf 52 = .ok (.imul, 1) := by decide +kernel
theorem dX3_wordOf_53 : decode cX3_wordOf 53 = .ok (.iload_n 3, 1) := by decide +kernel
theorem dX3_wordOf_54 : decode cX3_wordOf 54 = .ok (.iadd, 1) := by decide +kernel
theorem dX3_wordOf_55 : decode cX3_wordOf 55 = .ok (.iaload, 1) := by decide +kernel
theorem dX3_wordOf_56 : decode cX3_wordOf 56 = .ok (.i2l, 1) := by decide +kernel
theorem dX3_wordOf_57 : decode cX3_wordOf 57 = .ok (.aload_n 0, 1) := by decide +kernel
theorem dX3_wordOf_58 : decode cX3_wordOf 58 = .ok (.getfield 19, 3) := by decide +kernel
theorem dX3_wordOf_61 : decode cX3_wordOf 61 = .ok (.iload_n 3, 1) := by decide +kernel
theorem dX3_wordOf_62 : decode cX3_wordOf 62 = .ok (.laload, 1) := by decide +kernel
theorem dX3_wordOf_63 : decode cX3_wordOf 63 = .ok (.lcmp, 1) := by decide +kernel
theorem dX3_wordOf_64 : decode cX3_wordOf 64 = .ok (.ifCond .ne 7, 3) := by decide +kernel
theorem dX3_wordOf_67 : decode cX3_wordOf 67 = .ok (.iconst 1, 1) := by decide +kernel
theorem dX3_wordOf_68 : decode cX3_wordOf 68 = .ok (.goto 4, 3) := by decide +kernel
theorem dX3_wordOf_71 : decode cX3_wordOf 71 = .ok (.iconst 0, 1) := by decide +kernel
theorem dX3_wordOf_72 : decode cX3_wordOf 72 = .ok (.istore_n 2, 1) := by decide +kernel
theorem dX3_wordOf_73 : decode cX3_wordOf 73 = .ok (.iinc 3 1, 3) := by decide +kernel
theorem dX3_wordOf_76 : decode cX3_wordOf 76 = .ok (.goto (-45), 3) := by decide +kernel
theorem dX3_wordOf_79 : decode cX3_wordOf 79 = .ok (.iload_n 2, 1) := by decide +kernel
theorem dX3_wordOf_80 : decode cX3_wordOf 80 = .ok (.ifCond .eq 5, 3) := by decide +kernel
theorem dX3_wordOf_83 : decode cX3_wordOf 83 = .ok (.iload_n 1, 1) := by decide +kernel
theorem dX3_wordOf_84 : decode cX3_wordOf 84 = .ok (.ireturn, 1) := by decide +kernel
theorem dX3_wordOf_85 : decode cX3_wordOf 85 = .ok (.iinc 1 1, 3) := by decide +kernel
theorem dX3_wordOf_88 : decode cX3_wordOf 88 = .ok (.goto (-86), 3) := by decide +kernel
theorem dX3_wordOf_91 : decode cX3_wordOf 91 = .ok (.iconst (-1), 1) := by decide +kernel
theorem dX3_wordOf_92 : decode cX3_wordOf 92 = .ok (.ireturn, 1) := by decide +kernel
theorem dX3_note_0 : decode cX3_note 0 = .ok (.aload_n 0, 1) := by decide +kernel
theorem dX3_note_1 : decode cX3_note 1 = .ok (.invokevirtual 139, 3) := by decide +kernel
theorem dX3_note_4 : decode cX3_note 4 = .ok (.iconst (-1), 1) := by decide +kernel
theorem dX3_note_5 : decode cX3_note 5 = .ok (.if_icmp .ne 65, 3) := by decide +kernel
theorem dX3_note_8 : decode cX3_note 8 = .ok (.aload_n 0, 1) := by decide +kernel
theorem dX3_note_9 : decode cX3_note 9 = .ok (.getfield 26, 3) := by decide +kernel
theorem dX3_note_12 : decode cX3_note 12 = .ok (.aload_n 0, 1) := by decide +kernel
theorem dX3_note_13 : decode cX3_note 13 = .ok (.getfield 136, 3) := by decide +kernel
theorem dX3_note_16 : decode cX3_note 16 = .ok (.aload_n 0, 1) := by decide +kernel
theorem dX3_note_17 : decode cX3_note 17 = .ok (.getfield 51, 3) := by decide +kernel
theorem dX3_note_20 : decode cX3_note 20 = .ok (.iastore, 1) := by decide +kernel
theorem dX3_note_21 : decode cX3_note 21 = .ok (.iconst 0, 1) := by decide +kernel
theorem dX3_note_22 : decode cX3_note 22 = .ok (.istore_n 1, 1) := by decide +kernel
theorem dX3_note_23 : decode cX3_note 23 = .ok (.iload_n 1, 1) := by decide +kernel
theorem dX3_note_24 : decode cX3_note 24 = .ok (.iconst 4, 1) := by decide +kernel
theorem dX3_note_25 : decode cX3_note 25 = .ok (.aload_n 0, 1) := by decide +kernel
theorem dX3_note_26 : decode cX3_note 26 = .ok (.getfield 51, 3) := by decide +kernel
theorem dX3_note_29 : decode cX3_note 29 = .ok (.imul, 1) := by decide +kernel
theorem dX3_note_30 : decode cX3_note 30 = .ok (.if_icmp .ge 30, 3) := by decide +kernel
theorem dX3_note_33 : decode cX3_note 33 = .ok (.aload_n 0, 1) := by decide +kernel
theorem dX3_note_34 : decode cX3_note 34 = .ok (.getfield 29, 3) := by decide +kernel
theorem dX3_note_37 : decode cX3_note 37 = .ok (.bipush 96, 2) := by decide +kernel
theorem dX3_note_39 : decode cX3_note 39 = .ok (.aload_n 0, 1) := by decide +kernel
theorem dX3_note_40 : decode cX3_note 40 = .ok (.getfield 136, 3) := by decide +kernel
theorem dX3_note_43 : decode cX3_note 43 = .ok (.imul, 1) := by decide +kernel
theorem dX3_note_44 : decode cX3_note 44 = .ok (.iload_n 1, 1) := by decide +kernel
theorem dX3_note_45 : decode cX3_note 45 = .ok (.iadd, 1) := by decide +kernel
theorem dX3_note_46 : decode cX3_note 46 = .ok (.aload_n 0, 1) := by decide +kernel
theorem dX3_note_47 : decode cX3_note 47 = .ok (.getfield 19, 3) := by decide +kernel
theorem dX3_note_50 : decode cX3_note 50 = .ok (.iload_n 1, 1) := by decide +kernel
theorem dX3_note_51 : decode cX3_note 51 = .ok (.laload, 1) := by decide +kernel
theorem dX3_note_52 : decode cX3_note 52 = .ok (.l2i, 1) := by decide +kernel
theorem dX3_note_53 : decode cX3_note 53 = .ok (.iastore, 1) := by decide +kernel
theorem dX3_note_54 : decode cX3_note 54 = .ok (.iinc 1 1, 3) := by decide +kernel
theorem dX3_note_57 : decode cX3_note 57 = .ok (.goto (-34), 3) := by decide +kernel
theorem dX3_note_60 : decode cX3_note 60 = .ok (.aload_n 0, 1) := by decide +kernel
theorem dX3_note_61 : decode cX3_note 61 = .ok (.dup, 1) := by decide +kernel
theorem dX3_note_62 : decode cX3_note 62 = .ok (.getfield 136, 3) := by decide +kernel
theorem dX3_note_65 : decode cX3_note 65 = .ok (.iconst 1, 1) := by decide +kernel
theorem dX3_note_66 : decode cX3_note 66 = .ok (.iadd, 1) := by decide +kernel
theorem dX3_note_67 : decode cX3_note 67 = .ok (.putfield 136, 3) := by decide +kernel
theorem dX3_note_70 : decode cX3_note 70 = .ok (.return_, 1) := by decide +kernel
theorem dX3_loadWord_0 : decode cX3_loadWord 0 = .ok (.aload_n 0, 1) := by decide +kernel
theorem dX3_loadWord_1 : decode cX3_loadWord 1 = .ok (.iconst 0, 1) := by decide +kernel
theorem dX3_loadWord_2 : decode cX3_loadWord 2 = .ok (.putfield 51, 3) := by decide +kernel
theorem dX3_loadWord_5 : decode cX3_loadWord 5 = .ok (.iconst 0, 1) := by decide +kernel
theorem dX3_loadWord_6 : decode cX3_loadWord 6 = .ok (.istore_n 2, 1) := by decide +kernel
theorem dX3_loadWord_7 : decode cX3_loadWord 7 = .ok (.iload_n 2, 1) := by decide +kernel
theorem dX3_loadWord_8 : decode cX3_loadWord 8 = .ok (.aload_n 0, 1) := by decide +kernel
theorem dX3_loadWord_9 : decode cX3_loadWord 9 = .ok (.getfield 26, 3) := by decide +kernel
theorem dX3_loadWord_12 : decode cX3_loadWord 12 = .ok (.iload_n 1, 1) := by decide +kernel
theorem dX3_loadWord_13 : decode cX3_loadWord 13 = .ok (.iaload, 1) := by decide +kernel
theorem dX3_loadWord_14 : decode cX3_loadWord 14 = .ok (.if_icmp .ge 56, 3) := by decide +kernel
theorem dX3_loadWord_17 : decode cX3_loadWord 17 = .ok (.bipush 96, 2) := by decide +kernel
theorem dX3_loadWord_19 : decode cX3_loadWord 19 = .ok (.iload_n 1, 1) := by decide +kernel
theorem dX3_loadWord_20 : decode cX3_loadWord 20 = .ok (.imul, 1) := by decide +kernel
theorem dX3_loadWord_21 : decode cX3_loadWord 21 = .ok (.iconst 4, 1) := by decide +kernel
theorem dX3_loadWord_22 : decode cX3_loadWord 22 = .ok (.iload_n 2, 1) := by decide +kernel
theorem dX3_loadWord_23 : decode cX3_loadWord 23 = .ok (.imul, 1) := by decide +kernel
theorem dX3_loadWord_24 : decode cX3_loadWord 24 = .ok (.iadd, 1) := by decide +kernel
theorem dX3_loadWord_25 : decode cX3_loadWord 25 = .ok (.istore_n 3, 1) := by decide +kernel
theorem dX3_loadWord_26 : decode cX3_loadWord 26 = .ok (.aload_n 0, 1) := by decide +kernel
theorem dX3_loadWord_27 : decode cX3_loadWord 27 = .ok (.aload_n 0, 1) := by decide +kernel
theorem dX3_loadWord_28 : decode cX3_loadWord 28 = .ok (.getfield 29, 3) := by decide +kernel
theorem dX3_loadWord_31 : decode cX3_loadWord 31 = .ok (.iload_n 3, 1) := by decide +kernel
theorem dX3_loadWord_32 : decode cX3_loadWord 32 = .ok (.iaload, 1) := by decide +kernel
theorem dX3_loadWord_33 : decode cX3_loadWord 33 = .ok (.i2l, 1) := by decide +kernel
theorem dX3_loadWord_34 : decode cX3_loadWord 34 = .ok (.aload_n 0, 1) := by decide +kernel
theorem dX3_loadWord_35 : decode cX3_loadWord 35 = .ok (.getfield 29, 3) := by decide +kernel
theorem dX3_loadWord_38 : decode cX3_loadWord 38 = .ok (.iload_n 3, 1) := by decide +kernel
theorem dX3_loadWord_39 : decode cX3_loadWord 39 = .ok (.iconst 1, 1) := by decide +kernel
theorem dX3_loadWord_40 : decode cX3_loadWord 40 = .ok (.iadd, 1) := by decide +kernel
theorem dX3_loadWord_41 : decode cX3_loadWord 41 = .ok (.iaload, 1) := by decide +kernel
theorem dX3_loadWord_42 : decode cX3_loadWord 42 = .ok (.i2l, 1) := by decide +kernel
theorem dX3_loadWord_43 : decode cX3_loadWord 43 = .ok (.aload_n 0, 1) := by decide +kernel
theorem dX3_loadWord_44 : decode cX3_loadWord 44 = .ok (.getfield 29, 3) := by decide +kernel
theorem dX3_loadWord_47 : decode cX3_loadWord 47 = .ok (.iload_n 3, 1) := by decide +kernel
theorem dX3_loadWord_48 : decode cX3_loadWord 48 = .ok (.iconst 2, 1) := by decide +kernel
theorem dX3_loadWord_49 : decode cX3_loadWord 49 = .ok (.iadd, 1) := by decide +kernel
theorem dX3_loadWord_50 : decode cX3_loadWord 50 = .ok (.iaload, 1) := by decide +kernel
theorem dX3_loadWord_51 : decode cX3_loadWord 51 = .ok (.i2l, 1) := by decide +kernel
theorem dX3_loadWord_52 : decode cX3_loadWord 52 = .ok (.aload_n 0, 1) := by decide +kernel
theorem dX3_loadWord_53 : decode cX3_loadWord 53 = .ok (.getfield 29, 3) := by decide +kernel
theorem dX3_loadWord_56 : decode cX3_loadWord 56 = .ok (.iload_n 3, 1) := by decide +kernel
theorem dX3_loadWord_57 : decode cX3_loadWord 57 = .ok (.iconst 3, 1) := by decide +kernel
theorem dX3_loadWord_58 : decode cX3_loadWord 58 = .ok (.iadd, 1) := by decide +kernel
theorem dX3_loadWord_59 : decode cX3_loadWord 59 = .ok (.iaload, 1) := by decide +kernel
theorem dX3_loadWord_60 : decode cX3_loadWord 60 = .ok (.i2l, 1) := by decide +kernel
theorem dX3_loadWord_61 : decode cX3_loadWord 61 = .ok (.invokevirtual 55, 3) := by decide +kernel
theorem dX3_loadWord_64 : decode cX3_loadWord 64 = .ok (.iinc 2 1, 3) := by decide +kernel
theorem dX3_loadWord_67 : decode cX3_loadWord 67 = .ok (.goto (-60), 3) := by decide +kernel
theorem dX3_loadWord_70 : decode cX3_loadWord 70 = .ok (.return_, 1) := by decide +kernel
theorem dX3_makeBall_0 : decode cX3_makeBall 0 = .ok (.aload_n 0, 1) := by decide +kernel
theorem dX3_makeBall_1 : decode cX3_makeBall 1 = .ok (.getfield 143, 3) := by decide +kernel
theorem dX3_makeBall_4 : decode cX3_makeBall 4 = .ok (.ifCond .eq 4, 3) := by decide +kernel
theorem dX3_makeBall_7 : decode cX3_makeBall 7 = .ok (.return_, 1) := by decide +kernel
theorem dX3_makeBall_8 : decode cX3_makeBall 8 = .ok (.aload_n 0, 1) := by decide +kernel
theorem dX3_makeBall_9 : decode cX3_makeBall 9 = .ok (.iconst 1, 1) := by decide +kernel
theorem dX3_makeBall_10 : decode cX3_makeBall 10 = .ok (.putfield 143, 3) := by decide +kernel
theorem dX3_makeBall_13 : decode cX3_makeBall 13 = .ok (.aload_n 0, 1) := by decide +kernel
theorem dX3_makeBall_14 : decode cX3_makeBall 14 = .ok (.invokevirtual 123, 3) := by decide +kernel
theorem dX3_makeBall_17 : decode cX3_makeBall 17 = .ok (.aload_n 0, 1) := by decide +kernel
theorem dX3_makeBall_18 : decode cX3_makeBall 18 = .ok (.invokevirtual 147, 3) := by decide +kernel
theorem dX3_makeBall_21 : decode cX3_makeBall 21 = .ok (.aload_n 0, 1) := by decide +kernel
theorem dX3_makeBall_22 : decode cX3_makeBall 22 = .ok (.getfield 32, 3) := by decide +kernel
theorem dX3_makeBall_25 : decode cX3_makeBall 25 = .ok (.iconst 0, 1) := by decide +kernel
theorem dX3_makeBall_26 : decode cX3_makeBall 26 = .ok (.iconst 0, 1) := by decide +kernel
theorem dX3_makeBall_27 : decode cX3_makeBall 27 = .ok (.iastore, 1) := by decide +kernel
theorem dX3_makeBall_28 : decode cX3_makeBall 28 = .ok (.aload_n 0, 1) := by decide +kernel
theorem dX3_makeBall_29 : decode cX3_makeBall 29 = .ok (.getfield 32, 3) := by decide +kernel
theorem dX3_makeBall_32 : decode cX3_makeBall 32 = .ok (.iconst 1, 1) := by decide +kernel
theorem dX3_makeBall_33 : decode cX3_makeBall 33 = .ok (.iconst 1, 1) := by decide +kernel
theorem dX3_makeBall_34 : decode cX3_makeBall 34 = .ok (.iastore, 1) := by decide +kernel
theorem dX3_makeBall_35 : decode cX3_makeBall 35 = .ok (.iconst 1, 1) := by decide +kernel
theorem dX3_makeBall_36 : decode cX3_makeBall 36 = .ok (.istore_n 1, 1) := by decide +kernel
theorem dX3_makeBall_37 : decode cX3_makeBall 37 = .ok (.iload_n 1, 1) := by decide +kernel
theorem dX3_makeBall_38 : decode cX3_makeBall 38 = .ok (.iconst 4, 1) := by decide +kernel
theorem dX3_makeBall_39 : decode cX3_makeBall 39 = .ok (.if_icmp .gt 94, 3) := by decide +kernel
theorem dX3_makeBall_42 : decode cX3_makeBall 42 = .ok (.aload_n 0, 1) := by decide +kernel
theorem dX3_makeBall_43 : decode cX3_makeBall 43 = .ok (.getfield 32, 3) := by decide +kernel
theorem dX3_makeBall_46 : decode cX3_makeBall 46 = .ok (.iload_n 1, 1) := by decide +kernel
theorem dX3_makeBall_47 : decode cX3_makeBall 47 = .ok (.iconst 1, 1) := by decide +kernel
theorem dX3_makeBall_48 : decode cX3_makeBall 48 = .ok (.isub, 1) := by decide +kernel
theorem dX3_makeBall_49 : decode cX3_makeBall 49 = .ok (.iaload, 1) := by decide +kernel
theorem dX3_makeBall_50 : decode cX3_makeBall 50 = .ok (.istore_n 2, 1) := by decide +kernel
theorem dX3_makeBall_51 : decode cX3_makeBall 51 = .ok (.iload_n 2, 1) := by decide +kernel
theorem dX3_makeBall_52 : decode cX3_makeBall 52 = .ok (.aload_n 0, 1) := by decide +kernel
theorem dX3_makeBall_53 : decode cX3_makeBall 53 = .ok (.getfield 32, 3) := by decide +kernel
theorem dX3_makeBall_56 : decode cX3_makeBall 56 = .ok (.iload_n 1, 1) := by decide +kernel
theorem dX3_makeBall_57 : decode cX3_makeBall 57 = .ok (.iaload, 1) := by decide +kernel
theorem dX3_makeBall_58 : decode cX3_makeBall 58 = .ok (.if_icmp .ge 57, 3) := by decide +kernel
theorem dX3_makeBall_61 : decode cX3_makeBall 61 = .ok (.iconst 0, 1) := by decide +kernel
theorem dX3_makeBall_62 : decode cX3_makeBall 62 = .ok (.istore_n 3, 1) := by decide +kernel
theorem dX3_makeBall_63 : decode cX3_makeBall 63 = .ok (.iload_n 3, 1) := by decide +kernel
theorem dX3_makeBall_64 : decode cX3_makeBall 64 = .ok (.iconst 4, 1) := by decide +kernel
theorem dX3_makeBall_65 : decode cX3_makeBall 65 = .ok (.if_icmp .ge 44, 3) := by decide +kernel
theorem dX3_makeBall_68 : decode cX3_makeBall 68 = .ok (.aload_n 0, 1) := by decide +kernel
theorem dX3_makeBall_69 : decode cX3_makeBall 69 = .ok (.iload_n 2, 1) := by decide +kernel
theorem dX3_makeBall_70 : decode cX3_makeBall 70 = .ok (.invokevirtual 150, 3) := by decide +kernel
theorem dX3_makeBall_73 : decode cX3_makeBall 73 = .ok (.aload_n 0, 1) := by decide +kernel
theorem dX3_makeBall_74 : decode cX3_makeBall 74 = .ok (.invokevirtual 110, 3) := by decide +kernel
theorem dX3_makeBall_77 : decode cX3_makeBall 77 = .ok (.aload_n 0, 1) := by decide +kernel
theorem dX3_makeBall_78 : decode cX3_makeBall 78 = .ok (.iload_n 3, 1) := by decide +kernel
theorem dX3_makeBall_79 : decode cX3_makeBall 79 = .ok (.iconst 2, 1) := by decide +kernel
theorem dX3_makeBall_80 : decode cX3_makeBall 80 = .ok (.idiv, 1) := by decide +kernel
theorem dX3_makeBall_81 : decode cX3_makeBall 81 = .ok (.invokevirtual 101, 3) := by decide +kernel
theorem dX3_makeBall_84 : decode cX3_makeBall 84 = .ok (.iload_n 3, 1) := by decide +kernel
theorem dX3_makeBall_85 : decode cX3_makeBall 85 = .ok (.iconst 2, 1) := by decide +kernel
theorem dX3_makeBall_86 : decode cX3_makeBall 86 = .ok (.irem, 1) := by decide +kernel
theorem dX3_makeBall_87 : decode cX3_makeBall 87 = .ok (.iconst 1, 1) := by decide +kernel
theorem dX3_makeBall_88 : decode cX3_makeBall 88 = .ok (.if_icmp .ne 7, 3) := by decide +kernel
theorem dX3_makeBall_91 : decode cX3_makeBall 91 = .ok (.aload_n 0, 1) := by decide +kernel
theorem dX3_makeBall_92 : decode cX3_makeBall 92 = .ok (.invokevirtual 116, 3) := by decide +kernel
theorem dX3_makeBall_95 : decode cX3_makeBall 95 = .ok (.aload_n 0, 1) := by decide +kernel
theorem dX3_makeBall_96 : decode cX3_makeBall 96 = .ok (.invokevirtual 113, 3) := by decide +kernel
theorem dX3_makeBall_99 : decode cX3_makeBall 99 = .ok (.aload_n 0, 1) := by decide +kernel
theorem dX3_makeBall_100 : decode cX3_makeBall 100 = .ok (.invokevirtual 147, 3) := by decide +kernel
theorem dX3_makeBall_103 : decode cX3_makeBall 103 = .ok (.iinc 3 1, 3) := by decide +kernel
theorem dX3_makeBall_106 : decode cX3_makeBall 106 = .ok (.goto (-43), 3) := by decide +kernel
theorem dX3_makeBall_109 : decode cX3_makeBall 109 = .ok (.iinc 2 1, 3) := by decide +kernel
theorem dX3_makeBall_112 : decode cX3_makeBall 112 = .ok (.goto (-61), 3) := by decide +kernel
theorem dX3_makeBall_115 : decode cX3_makeBall 115 = .ok (.aload_n 0, 1) := by decide +kernel
theorem dX3_makeBall_116 : decode cX3_makeBall 116 = .ok (.getfield 32, 3) := by decide +kernel
theorem dX3_makeBall_119 : decode cX3_makeBall 119 = .ok (.iload_n 1, 1) := by decide +kernel
theorem dX3_makeBall_120 : decode cX3_makeBall 120 = .ok (.iconst 1, 1) := by decide +kernel
theorem dX3_makeBall_121 : decode cX3_makeBall 121 = .ok (.iadd, 1) := by decide +kernel
theorem dX3_makeBall_122 : decode cX3_makeBall 122 = .ok (.aload_n 0, 1) := by decide +kernel
theorem dX3_makeBall_123 : decode cX3_makeBall 123 = .ok (.getfield 136, 3) := by decide +kernel
theorem dX3_makeBall_126 : decode cX3_makeBall 126 = .ok (.iastore, 1) := by decide +kernel
theorem dX3_makeBall_127 : decode cX3_makeBall 127 = .ok (.iinc 1 1, 3) := by decide +kernel
theorem dX3_makeBall_130 : decode cX3_makeBall 130 = .ok (.goto (-93), 3) := by decide +kernel
theorem dX3_makeBall_133 : decode cX3_makeBall 133 = .ok (.return_, 1) := by decide +kernel
theorem dX3_length_0 : decode cX3_length 0 = .ok (.aload_n 0, 1) := by decide +kernel
theorem dX3_length_1 : decode cX3_length 1 = .ok (.iload_n 1, 1) := by decide +kernel
theorem dX3_length_2 : decode cX3_length 2 = .ok (.invokevirtual 104, 3) := by decide +kernel
theorem dX3_length_5 : decode cX3_length 5 = .ok (.ifCond .ne 6, 3) := by decide +kernel
theorem dX3_length_8 : decode cX3_length 8 = .ok (.bipush (-101), 2) := by decide +kernel
theorem dX3_length_10 : decode cX3_length 10 = .ok (.ireturn, 1) := by decide +kernel
theorem dX3_length_11 : decode cX3_length 11 = .ok (.aload_n 0, 1) := by decide +kernel
theorem dX3_length_12 : decode cX3_length 12 = .ok (.invokevirtual 153, 3) := by decide +kernel
theorem dX3_length_15 : decode cX3_length 15 = .ok (.aload_n 0, 1) := by decide +kernel
theorem dX3_length_16 : decode cX3_length 16 = .ok (.iload_n 1, 1) := by decide +kernel
theorem dX3_length_17 : decode cX3_length 17 = .ok (.invokevirtual 107, 3) := by decide +kernel
theorem dX3_length_20 : decode cX3_length 20 = .ok (.aload_n 0, 1) := by decide +kernel
theorem dX3_length_21 : decode cX3_length 21 = .ok (.invokevirtual 139, 3) := by decide +kernel
theorem dX3_length_24 : decode cX3_length 24 = .ok (.istore_n 2, 1) := by decide +kernel
theorem dX3_length_25 : decode cX3_length 25 = .ok (.iconst 0, 1) := by decide +kernel
theorem dX3_length_26 : decode cX3_length 26 = .ok (.istore_n 3, 1) := by decide +kernel
theorem dX3_length_27 : decode cX3_length 27 = .ok (.iload_n 2, 1) := by decide +kernel
theorem dX3_length_28 : decode cX3_length 28 = .ok (.aload_n 0, 1) := by decide +kernel
theorem dX3_length_29 : decode cX3_length 29 = .ok (.getfield 32, 3) := by decide +kernel
theorem dX3_length_32 : decode cX3_length 32 = .ok (.iload_n 3, 1) := by decide +kernel
theorem dX3_length_33 : decode cX3_length 33 = .ok (.iconst 1, 1) := by decide +kernel
theorem dX3_length_34 : decode cX3_length 34 = .ok (.iadd, 1) := by decide +kernel
theorem dX3_length_35 : decode cX3_length 35 = .ok (.iaload, 1) := by decide +kernel
theorem dX3_length_36 : decode cX3_length 36 = .ok (.if_icmp .lt 9, 3) := by decide +kernel
theorem dX3_length_39 : decode cX3_length 39 = .ok (.iinc 3 1, 3) := by decide +kernel
theorem dX3_length_42 : decode cX3_length 42 = .ok (.goto (-15), 3) := by decide +kernel
theorem dX3_length_45 : decode cX3_length 45 = .ok (.iload_n 2, 1) := by decide +kernel
theorem dX3_length_46 : decode cX3_length 46 = .ok (.iconst (-1), 1) := by decide +kernel
theorem dX3_length_47 : decode cX3_length 47 = .ok (.if_icmp .ne 7, 3) := by decide +kernel
theorem dX3_length_50 : decode cX3_length 50 = .ok (.iconst (-1), 1) := by decide +kernel
theorem dX3_length_51 : decode cX3_length 51 = .ok (.goto 4, 3) := by decide +kernel
theorem dX3_length_54 : decode cX3_length 54 = .ok (.iload_n 3, 1) := by decide +kernel
theorem dX3_length_55 : decode cX3_length 55 = .ok (.ireturn, 1) := by decide +kernel
theorem dX3_ball_0 : decode cX3_ball 0 = .ok (.iload_n 1, 1) := by decide +kernel
theorem dX3_ball_1 : decode cX3_ball 1 = .ok (.i2l, 1) := by decide +kernel
theorem dX3_ball_2 : decode cX3_ball 2 = .ok (.lconst 0, 1) := by decide +kernel
theorem dX3_ball_3 : decode cX3_ball 3 = .ok (.ldc2_w 156, 3) := by decide +kernel
theorem dX3_ball_6 : decode cX3_ball 6 = .ok (.invokestatic 43, 3) := by decide +kernel
theorem dX3_ball_9 : decode cX3_ball 9 = .ok (.ifCond .ne 6, 3) := by decide +kernel
theorem dX3_ball_12 : decode cX3_ball 12 = .ok (.bipush (-102), 2) := by decide +kernel
theorem dX3_ball_14 : decode cX3_ball 14 = .ok (.ireturn, 1) := by decide +kernel
theorem dX3_ball_15 : decode cX3_ball 15 = .ok (.aload_n 0, 1) := by decide +kernel
theorem dX3_ball_16 : decode cX3_ball 16 = .ok (.invokevirtual 153, 3) := by decide +kernel
theorem dX3_ball_19 : decode cX3_ball 19 = .ok (.aload_n 0, 1) := by decide +kernel
theorem dX3_ball_20 : decode cX3_ball 20 = .ok (.getfield 32, 3) := by decide +kernel
theorem dX3_ball_23 : decode cX3_ball 23 = .ok (.iload_n 1, 1) := by decide +kernel
theorem dX3_ball_24 : decode cX3_ball 24 = .ok (.iconst 1, 1) := by decide +kernel
theorem dX3_ball_25 : decode cX3_ball 25 = .ok (.iadd, 1) := by decide +kernel
theorem dX3_ball_26 : decode cX3_ball 26 = .ok (.iaload, 1) := by decide +kernel
theorem dX3_ball_27 : decode cX3_ball 27 = .ok (.aload_n 0, 1) := by decide +kernel
theorem dX3_ball_28 : decode cX3_ball 28 = .ok (.getfield 32, 3) := by decide +kernel
theorem dX3_ball_31 : decode cX3_ball 31 = .ok (.iload_n 1, 1) := by decide +kernel
theorem dX3_ball_32 : decode cX3_ball 32 = .ok (.iaload, 1) := by decide +kernel
theorem dX3_ball_33 : decode cX3_ball 33 = .ok (.isub, 1) := by decide +kernel
theorem dX3_ball_34 : decode cX3_ball 34 = .ok (.ireturn, 1) := by decide +kernel
theorem dX3_go_0 : decode cX3_go 0 = .ok (.aload_n 0, 1) := by decide +kernel
theorem dX3_go_1 : decode cX3_go 1 = .ok (.iload_n 1, 1) := by decide +kernel
theorem dX3_go_2 : decode cX3_go 2 = .ok (.invokevirtual 104, 3) := by decide +kernel
theorem dX3_go_5 : decode cX3_go 5 = .ok (.ifCond .ne 6, 3) := by decide +kernel
theorem dX3_go_8 : decode cX3_go 8 = .ok (.bipush (-101), 2) := by decide +kernel
theorem dX3_go_10 : decode cX3_go 10 = .ok (.ireturn, 1) := by decide +kernel
theorem dX3_go_11 : decode cX3_go 11 = .ok (.iload_n 2, 1) := by decide +kernel
theorem dX3_go_12 : decode cX3_go 12 = .ok (.i2l, 1) := by decide +kernel
theorem dX3_go_13 : decode cX3_go 13 = .ok (.lconst 0, 1) := by decide +kernel
theorem dX3_go_14 : decode cX3_go 14 = .ok (.ldc2_w 158, 3) := by decide +kernel
theorem dX3_go_17 : decode cX3_go 17 = .ok (.invokestatic 43, 3) := by decide +kernel
theorem dX3_go_20 : decode cX3_go 20 = .ok (.ifCond .eq 16, 3) := by decide +kernel
theorem dX3_go_23 : decode cX3_go 23 = .ok (.lload_n 3, 1) := by decide +kernel
theorem dX3_go_24 : decode cX3_go 24 = .ok (.lconst 0, 1) := by decide +kernel
theorem dX3_go_25 : decode cX3_go 25 = .ok (.lconst 1, 1) := by decide +kernel
theorem dX3_go_26 : decode cX3_go 26 = .ok (.iload_n 2, 1) := by decide +kernel
theorem dX3_go_27 : decode cX3_go 27 = .ok (.lshl, 1) := by decide +kernel
theorem dX3_go_28 : decode cX3_go 28 = .ok (.lconst 1, 1) := by decide +kernel
theorem dX3_go_29 : decode cX3_go 29 = .ok (.lsub, 1) := by decide +kernel
theorem dX3_go_30 : decode cX3_go 30 = .ok (.invokestatic 43, 3) := by decide +kernel
theorem dX3_go_33 : decode cX3_go 33 = .ok (.ifCond .ne 6, 3) := by decide +kernel
theorem dX3_go_36 : decode cX3_go 36 = .ok (.bipush (-102), 2) := by decide +kernel
theorem dX3_go_38 : decode cX3_go 38 = .ok (.ireturn, 1) := by decide +kernel
theorem dX3_go_39 : decode cX3_go 39 = .ok (.iconst 0, 1) := by decide +kernel
theorem dX3_go_40 : decode cX3_go 40 = .ok (.istore 5, 2) := by decide +kernel
theorem dX3_go_42 : decode cX3_go 42 = .ok (.iload 5, 2) := by decide +kernel
theorem dX3_go_44 : decode cX3_go 44 = .ok (.aload_n 0, 1) := by decide +kernel
theorem dX3_go_45 : decode cX3_go 45 = .ok (.getfield 7, 3) := by decide +kernel
theorem dX3_go_48 : decode cX3_go 48 = .ok (.iload_n 1, 1) := by decide +kernel
theorem dX3_go_49 : decode cX3_go 49 = .ok (.iaload, 1) := by decide +kernel
theorem dX3_go_50 : decode cX3_go 50 = .ok (.if_icmp .ge 127, 3) := by decide +kernel
theorem dX3_go_53 : decode cX3_go 53 = .ok (.bipush 96, 2) := by decide +kernel
theorem dX3_go_55 : decode cX3_go 55 = .ok (.iload_n 1, 1) := by decide +kernel
theorem dX3_go_56 : decode cX3_go 56 = .ok (.imul, 1) := by decide +kernel
theorem dX3_go_57 : decode cX3_go 57 = .ok (.iconst 4, 1) := by decide +kernel
theorem dX3_go_58 : decode cX3_go 58 = .ok (.iload 5, 2) := by decide +kernel
theorem dX3_go_60 : decode cX3_go 60 = .ok (.imul, 1) := by decide +kernel
theorem dX3_go_61 : decode cX3_go 61 = .ok (.iadd, 1) := by decide +kernel
theorem dX3_go_62 : decode cX3_go 62 = .ok (.istore 6, 2) := by decide +kernel
theorem dX3_go_64 : decode cX3_go 64 = .ok (.aload_n 0, 1) := by decide +kernel
theorem dX3_go_65 : decode cX3_go 65 = .ok (.getfield 13, 3) := by decide +kernel
theorem dX3_go_68 : decode cX3_go 68 = .ok (.iload 6, 2) := by decide +kernel
theorem dX3_go_70 : decode cX3_go 70 = .ok (.iaload, 1) := by decide +kernel
theorem dX3_go_71 : decode cX3_go 71 = .ok (.istore 7, 2) := by decide +kernel
theorem dX3_go_73 : decode cX3_go 73 = .ok (.iload_n 2, 1) := by decide +kernel
theorem dX3_go_74 : decode cX3_go 74 = .ok (.iload 7, 2) := by decide +kernel
theorem dX3_go_76 : decode cX3_go 76 = .ok (.if_icmp .le 7, 3) := by decide +kernel
theorem dX3_go_79 : decode cX3_go 79 = .ok (.iload_n 2, 1) := by decide +kernel
theorem dX3_go_80 : decode cX3_go 80 = .ok (.goto 5, 3) := by decide +kernel
theorem dX3_go_83 : decode cX3_go 83 = .ok (.iload 7, 2) := by decide +kernel
theorem dX3_go_85 : decode cX3_go 85 = .ok (.istore 8, 2) := by decide +kernel
theorem dX3_go_87 : decode cX3_go 87 = .ok (.lload_n 3, 1) := by decide +kernel
theorem dX3_go_88 : decode cX3_go 88 = .ok (.iload 8, 2) := by decide +kernel
theorem dX3_go_90 : decode cX3_go 90 = .ok (.iload_n 2, 1) := by decide +kernel
theorem dX3_go_91 : decode cX3_go 91 = .ok (.isub, 1) := by decide +kernel
theorem dX3_go_92 : decode cX3_go 92 = .ok (.lshl, 1) := by decide +kernel
theorem dX3_go_93 : decode cX3_go 93 = .ok (.lstore 9, 2) := by decide +kernel
theorem dX3_go_95 : decode cX3_go 95 = .ok (.iload 8, 2) := by decide +kernel
theorem dX3_go_97 : decode cX3_go 97 = .ok (.iload 7, 2) := by decide +kernel
theorem dX3_go_99 : decode cX3_go 99 = .ok (.isub, 1) := by decide +kernel
theorem dX3_go_100 : decode cX3_go 100 = .ok (.istore 11, 2) := by decide +kernel
theorem dX3_go_102 : decode cX3_go 102 = .ok (.lload 9, 2) := by decide +kernel
theorem dX3_go_104 : decode cX3_go 104 = .ok (.iload 11, 2) := by decide +kernel
theorem dX3_go_106 : decode cX3_go 106 = .ok (.lshr, 1) := by decide +kernel
theorem dX3_go_107 : decode cX3_go 107 = .ok (.aload_n 0, 1) := by decide +kernel
theorem dX3_go_108 : decode cX3_go 108 = .ok (.getfield 13, 3) := by decide +kernel
theorem dX3_go_111 : decode cX3_go 111 = .ok (.iload 6, 2) := by decide +kernel
theorem dX3_go_113 : decode cX3_go 113 = .ok (.iconst 1, 1) := by decide +kernel
theorem dX3_go_114 : decode cX3_go 114 = .ok (.iadd, 1) := by decide +kernel
theorem dX3_go_115 : decode cX3_go 115 = .ok (.iaload, 1) := by decide +kernel
theorem dX3_go_116 : decode cX3_go 116 = .ok (.i2l, 1) := by decide +kernel
theorem dX3_go_117 : decode cX3_go 117 = .ok (.lcmp, 1) := by decide +kernel
theorem dX3_go_118 : decode cX3_go 118 = .ok (.ifCond .ne 53, 3) := by decide +kernel
theorem dX3_go_121 : decode cX3_go 121 = .ok (.aload_n 0, 1) := by decide +kernel
theorem dX3_go_122 : decode cX3_go 122 = .ok (.aload_n 0, 1) := by decide +kernel
theorem dX3_go_123 : decode cX3_go 123 = .ok (.getfield 13, 3) := by decide +kernel
theorem dX3_go_126 : decode cX3_go 126 = .ok (.iload 6, 2) := by decide +kernel
theorem dX3_go_128 : decode cX3_go 128 = .ok (.iconst 2, 1) := by decide +kernel
theorem dX3_go_129 : decode cX3_go 129 = .ok (.iadd, 1) := by decide +kernel
theorem dX3_go_130 : decode cX3_go 130 = .ok (.iaload, 1) := by decide +kernel
theorem dX3_go_131 : decode cX3_go 131 = .ok (.iload 11, 2) := by decide +kernel
theorem dX3_go_133 : decode cX3_go 133 = .ok (.iadd, 1) := by decide +kernel
theorem dX3_go_134 : decode cX3_go 134 = .ok (.putfield 160, 3) := by decide +kernel
theorem dX3_go_137 : decode cX3_go 137 = .ok (.aload_n 0, 1) := by decide +kernel
theorem dX3_go_138 : decode cX3_go 138 = .ok (.aload_n 0, 1) := by decide +kernel
theorem dX3_go_139 : decode cX3_go 139 = .ok (.getfield 13, 3) := by decide +kernel
theorem dX3_go_142 : decode cX3_go 142 = .ok (.iload 6, 2) := by decide +kernel
theorem dX3_go_144 : decode cX3_go 144 = .ok (.iconst 3, 1) := by decide +kernel
theorem dX3_go_145 : decode cX3_go 145 = .ok (.iadd, 1) := by decide +kernel
theorem dX3_go_146 : decode cX3_go 146 = .ok (.iaload, 1) := by decide +kernel
theorem dX3_go_147 : decode cX3_go 147 = .ok (.i2l, 1) := by decide +kernel
theorem dX3_go_148 : decode cX3_go 148 = .ok (.iload 11, 2) := by decide +kernel
theorem dX3_go_150 : decode cX3_go 150 = .ok (.lshl, 1) := by decide +kernel
theorem dX3_go_151 : decode cX3_go 151 = .ok (.lload 9, 2) := by decide +kernel
theorem dX3_go_153 : decode cX3_go 153 = .ok (.aload_n 0, 1) := by decide +kernel
theorem dX3_go_154 : decode cX3_go 154 = .ok (.getfield 13, 3) := by decide +kernel
theorem dX3_go_157 : decode cX3_go 157 = .ok (.iload 6, 2) := by decide +kernel
theorem dX3_go_159 : decode cX3_go 159 = .ok (.iconst 1, 1) := by decide +kernel
theorem dX3_go_160 : decode cX3_go 160 = .ok (.iadd, 1) := by decide +kernel
theorem dX3_go_161 : decode cX3_go 161 = .ok (.iaload, 1) := by decide +kernel
theorem dX3_go_162 : decode cX3_go 162 = .ok (.i2l, 1) := by decide +kernel
theorem dX3_go_163 : decode cX3_go 163 = .ok (.iload 11, 2) := by decide +kernel
theorem dX3_go_165 : decode cX3_go 165 = .ok (.lshl, 1) := by decide +kernel
theorem dX3_go_166 : decode cX3_go 166 = .ok (.lsub, 1) := by decide +kernel
theorem dX3_go_167 : decode cX3_go 167 = .ok (.ladd, 1) := by decide +kernel
theorem dX3_go_168 : decode cX3_go 168 = .ok (.putfield 163, 3) := by decide +kernel
theorem dX3_go_171 : decode cX3_go 171 = .ok (.iinc 5 1, 3) := by decide +kernel
theorem dX3_go_174 : decode cX3_go 174 = .ok (.goto (-132), 3) := by decide +kernel
theorem dX3_go_177 : decode cX3_go 177 = .ok (.aload_n 0, 1) := by decide +kernel
theorem dX3_go_178 : decode cX3_go 178 = .ok (.getfield 160, 3) := by decide +kernel
theorem dX3_go_181 : decode cX3_go 181 = .ok (.ifCond .le 41, 3) := by decide +kernel
theorem dX3_go_184 : decode cX3_go 184 = .ok (.aload_n 0, 1) := by decide +kernel
theorem dX3_go_185 : decode cX3_go 185 = .ok (.getfield 163, 3) := by decide +kernel
theorem dX3_go_188 : decode cX3_go 188 = .ok (.ldc2_w 65, 3) := by decide +kernel
theorem dX3_go_191 : decode cX3_go 191 = .ok (.lrem, 1) := by decide +kernel
theorem dX3_go_192 : decode cX3_go 192 = .ok (.lconst 0, 1) := by decide +kernel
theorem dX3_go_193 : decode cX3_go 193 = .ok (.lcmp, 1) := by decide +kernel
theorem dX3_go_194 : decode cX3_go 194 = .ok (.ifCond .ne 28, 3) := by decide +kernel
theorem dX3_go_197 : decode cX3_go 197 = .ok (.aload_n 0, 1) := by decide +kernel
theorem dX3_go_198 : decode cX3_go 198 = .ok (.dup, 1) := by decide +kernel
theorem dX3_go_199 : decode cX3_go 199 = .ok (.getfield 160, 3) := by decide +kernel
theorem dX3_go_202 : decode cX3_go 202 = .ok (.iconst 1, 1) := by decide +kernel
theorem dX3_go_203 : decode cX3_go 203 = .ok (.isub, 1) := by decide +kernel
theorem dX3_go_204 : decode cX3_go 204 = .ok (.putfield 160, 3) := by decide +kernel
theorem dX3_go_207 : decode cX3_go 207 = .ok (.aload_n 0, 1) := by decide +kernel
theorem dX3_go_208 : decode cX3_go 208 = .ok (.dup, 1) := by decide +kernel
theorem dX3_go_209 : decode cX3_go 209 = .ok (.getfield 163, 3) := by decide +kernel
theorem dX3_go_212 : decode cX3_go 212 = .ok (.ldc2_w 65, 3) := by decide +kernel
theorem dX3_go_215 : decode cX3_go 215 = .ok (.ldiv, 1) := by decide +kernel
theorem dX3_go_216 : decode cX3_go 216 = .ok (.putfield 163, 3) := by decide +kernel
theorem dX3_go_219 : decode cX3_go 219 = .ok (.goto (-42), 3) := by decide +kernel
theorem dX3_go_222 : decode cX3_go 222 = .ok (.iconst 1, 1) := by decide +kernel
theorem dX3_go_223 : decode cX3_go 223 = .ok (.ireturn, 1) := by decide +kernel
theorem dX3_seen_0 : decode cX3_seen 0 = .ok (.iload_n 1, 1) := by decide +kernel
theorem dX3_seen_1 : decode cX3_seen 1 = .ok (.ifCond .ne 11, 3) := by decide +kernel
theorem dX3_seen_4 : decode cX3_seen 4 = .ok (.aload_n 0, 1) := by decide +kernel
theorem dX3_seen_5 : decode cX3_seen 5 = .ok (.getfield 160, 3) := by decide +kernel
theorem dX3_seen_8 : decode cX3_seen 8 = .ok (.i2l, 1) := by decide +kernel
theorem dX3_seen_9 : decode cX3_seen 9 = .ok (.goto 18, 3) := by decide +kernel
theorem dX3_seen_12 : decode cX3_seen 12 = .ok (.iload_n 1, 1) := by decide +kernel
theorem dX3_seen_13 : decode cX3_seen 13 = .ok (.iconst 1, 1) := by decide +kernel
theorem dX3_seen_14 : decode cX3_seen 14 = .ok (.if_icmp .ne 10, 3) := by decide +kernel
theorem dX3_seen_17 : decode cX3_seen 17 = .ok (.aload_n 0, 1) := by decide +kernel
theorem dX3_seen_18 : decode cX3_seen 18 = .ok (.getfield 163, 3) := by decide +kernel
theorem dX3_seen_21 : decode cX3_seen 21 = .ok (.goto 6, 3) := by decide +kernel
theorem dX3_seen_24 : decode cX3_seen 24 = .ok (.ldc2_w 167, 3) := by decide +kernel
theorem dX3_seen_27 : decode cX3_seen 27 = .ok (.lreturn, 1) := by decide +kernel
theorem dX3_slope_0 : decode cX3_slope 0 = .ok (.aload_n 0, 1) := by decide +kernel
theorem dX3_slope_1 : decode cX3_slope 1 = .ok (.getfield 13, 3) := by decide +kernel
theorem dX3_slope_4 : decode cX3_slope 4 = .ok (.bipush 96, 2) := by decide +kernel
theorem dX3_slope_6 : decode cX3_slope 6 = .ok (.iload_n 1, 1) := by decide +kernel
theorem dX3_slope_7 : decode cX3_slope 7 = .ok (.imul, 1) := by decide +kernel
theorem dX3_slope_8 : decode cX3_slope 8 = .ok (.iconst 4, 1) := by decide +kernel
theorem dX3_slope_9 : decode cX3_slope 9 = .ok (.iload_n 2, 1) := by decide +kernel
theorem dX3_slope_10 : decode cX3_slope 10 = .ok (.imul, 1) := by decide +kernel
theorem dX3_slope_11 : decode cX3_slope 11 = .ok (.iadd, 1) := by decide +kernel
theorem dX3_slope_12 : decode cX3_slope 12 = .ok (.iaload, 1) := by decide +kernel
theorem dX3_slope_13 : decode cX3_slope 13 = .ok (.aload_n 0, 1) := by decide +kernel
theorem dX3_slope_14 : decode cX3_slope 14 = .ok (.getfield 13, 3) := by decide +kernel
theorem dX3_slope_17 : decode cX3_slope 17 = .ok (.bipush 96, 2) := by decide +kernel
theorem dX3_slope_19 : decode cX3_slope 19 = .ok (.iload_n 1, 1) := by decide +kernel
theorem dX3_slope_20 : decode cX3_slope 20 = .ok (.imul, 1) := by decide +kernel
theorem dX3_slope_21 : decode cX3_slope 21 = .ok (.iconst 4, 1) := by decide +kernel
theorem dX3_slope_22 : decode cX3_slope 22 = .ok (.iload_n 2, 1) := by decide +kernel
theorem dX3_slope_23 : decode cX3_slope 23 = .ok (.imul, 1) := by decide +kernel
theorem dX3_slope_24 : decode cX3_slope 24 = .ok (.iadd, 1) := by decide +kernel
theorem dX3_slope_25 : decode cX3_slope 25 = .ok (.iconst 2, 1) := by decide +kernel
theorem dX3_slope_26 : decode cX3_slope 26 = .ok (.iadd, 1) := by decide +kernel
theorem dX3_slope_27 : decode cX3_slope 27 = .ok (.iaload, 1) := by decide +kernel
theorem dX3_slope_28 : decode cX3_slope 28 = .ok (.isub, 1) := by decide +kernel
theorem dX3_slope_29 : decode cX3_slope 29 = .ok (.ireturn, 1) := by decide +kernel
theorem dX3_bend_0 : decode cX3_bend 0 = .ok (.aload_n 0, 1) := by decide +kernel
theorem dX3_bend_1 : decode cX3_bend 1 = .ok (.iload_n 1, 1) := by decide +kernel
theorem dX3_bend_2 : decode cX3_bend 2 = .ok (.invokevirtual 104, 3) := by decide +kernel
theorem dX3_bend_5 : decode cX3_bend 5 = .ok (.ifCond .eq 21, 3) := by decide +kernel
theorem dX3_bend_8 : decode cX3_bend 8 = .ok (.iload_n 2, 1) := by decide +kernel
theorem dX3_bend_9 : decode cX3_bend 9 = .ok (.i2l, 1) := by decide +kernel
theorem dX3_bend_10 : decode cX3_bend 10 = .ok (.lconst 0, 1) := by decide +kernel
theorem dX3_bend_11 : decode cX3_bend 11 = .ok (.aload_n 0, 1) := by decide +kernel
theorem dX3_bend_12 : decode cX3_bend 12 = .ok (.getfield 7, 3) := by decide +kernel
theorem dX3_bend_15 : decode cX3_bend 15 = .ok (.iload_n 1, 1) := by decide +kernel
theorem dX3_bend_16 : decode cX3_bend 16 = .ok (.iaload, 1) := by decide +kernel
theorem dX3_bend_17 : decode cX3_bend 17 = .ok (.iconst 1, 1) := by decide +kernel
theorem dX3_bend_18 : decode cX3_bend 18 = .ok (.isub, 1) := by decide +kernel
theorem dX3_bend_19 : decode cX3_bend 19 = .ok (.i2l, 1) := by decide +kernel
theorem dX3_bend_20 : decode cX3_bend 20 = .ok (.invokestatic 43, 3) := by decide +kernel
theorem dX3_bend_23 : decode cX3_bend 23 = .ok (.ifCond .ne 7, 3) := by decide +kernel
theorem dX3_bend_26 : decode cX3_bend 26 = .ok (.sipush (-1000), 3) := by decide +kernel
theorem dX3_bend_29 : decode cX3_bend 29 = .ok (.ireturn, 1) := by decide +kernel
theorem dX3_bend_30 : decode cX3_bend 30 = .ok (.iload_n 2, 1) := by decide +kernel
theorem dX3_bend_31 : decode cX3_bend 31 = .ok (.ifCond .ne 12, 3) := by decide +kernel
theorem dX3_bend_34 : decode cX3_bend 34 = .ok (.aload_n 0, 1) := by decide +kernel
theorem dX3_bend_35 : decode cX3_bend 35 = .ok (.iload_n 1, 1) := by decide +kernel
theorem dX3_bend_36 : decode cX3_bend 36 = .ok (.iconst 0, 1) := by decide +kernel
theorem dX3_bend_37 : decode cX3_bend 37 = .ok (.invokevirtual 169, 3) := by decide +kernel
theorem dX3_bend_40 : decode cX3_bend 40 = .ok (.goto 18, 3) := by decide +kernel
theorem dX3_bend_43 : decode cX3_bend 43 = .ok (.aload_n 0, 1) := by decide +kernel
theorem dX3_bend_44 : decode cX3_bend 44 = .ok (.iload_n 1, 1) := by decide +kernel
theorem dX3_bend_45 : decode cX3_bend 45 = .ok (.iload_n 2, 1) := by decide +kernel
theorem dX3_bend_46 : decode cX3_bend 46 = .ok (.invokevirtual 169, 3) := by decide +kernel
theorem dX3_bend_49 : decode cX3_bend 49 = .ok (.aload_n 0, 1) := by decide +kernel
theorem dX3_bend_50 : decode cX3_bend 50 = .ok (.iload_n 1, 1) := by decide +kernel
theorem dX3_bend_51 : decode cX3_bend 51 = .ok (.iload_n 2, 1) := by decide +kernel
theorem dX3_bend_52 : decode cX3_bend 52 = .ok (.iconst 1, 1) := by decide +kernel
theorem dX3_bend_53 : decode cX3_bend 53 = .ok (.isub, 1) := by decide +kernel
theorem dX3_bend_54 : decode cX3_bend 54 = .ok (.invokevirtual 169, 3) := by decide +kernel
theorem dX3_bend_57 : decode cX3_bend 57 = .ok (.isub, 1) := by decide +kernel
theorem dX3_bend_58 : decode cX3_bend 58 = .ok (.ireturn, 1) := by decide +kernel
theorem dX3_still_0 : decode cX3_still 0 = .ok (.aload_n 0, 1) := by decide +kernel
theorem dX3_still_1 : decode cX3_still 1 = .ok (.iload_n 1, 1) := by decide +kernel
theorem dX3_still_2 : decode cX3_still 2 = .ok (.invokevirtual 104, 3) := by decide +kernel
theorem dX3_still_5 : decode cX3_still 5 = .ok (.ifCond .ne 6, 3) := by decide +kernel
theorem dX3_still_8 : decode cX3_still 8 = .ok (.bipush (-101), 2) := by decide +kernel
theorem dX3_still_10 : decode cX3_still 10 = .ok (.ireturn, 1) := by decide +kernel
theorem dX3_still_11 : decode cX3_still 11 = .ok (.iconst 0, 1) := by decide +kernel
theorem dX3_still_12 : decode cX3_still 12 = .ok (.istore_n 2, 1) := by decide +kernel
theorem dX3_still_13 : decode cX3_still 13 = .ok (.iconst 0, 1) := by decide +kernel
theorem dX3_still_14 : decode cX3_still 14 = .ok (.istore_n 3, 1) := by decide +kernel
theorem dX3_still_15 : decode cX3_still 15 = .ok (.iload_n 3, 1) := by decide +kernel
theorem dX3_still_16 : decode cX3_still 16 = .ok (.aload_n 0, 1) := by decide +kernel
theorem dX3_still_17 : decode cX3_still 17 = .ok (.getfield 7, 3) := by decide +kernel
theorem dX3_still_20 : decode cX3_still 20 = .ok (.iload_n 1, 1) := by decide +kernel
theorem dX3_still_21 : decode cX3_still 21 = .ok (.iaload, 1) := by decide +kernel
theorem dX3_still_22 : decode cX3_still 22 = .ok (.if_icmp .ge 67, 3) := by decide +kernel
theorem dX3_still_25 : decode cX3_still 25 = .ok (.bipush 96, 2) := by decide +kernel
theorem dX3_still_27 : decode cX3_still 27 = .ok (.iload_n 1, 1) := by decide +kernel
theorem dX3_still_28 : decode cX3_still 28 = .ok (.imul, 1) := by decide +kernel
theorem dX3_still_29 : decode cX3_still 29 = .ok (.iconst 4, 1) := by decide +kernel
theorem dX3_still_30 : decode cX3_still 30 = .ok (.iload_n 3, 1) := by decide +kernel
theorem dX3_still_31 : decode cX3_still 31 = .ok (.imul, 1) := by decide +kernel
theorem dX3_still_32 : decode cX3_still 32 = .ok (.iadd, 1) := by decide +kernel
theorem dX3_still_33 : decode cX3_still 33 = .ok (.istore 4, 2) := by decide +kernel
theorem dX3_still_35 : decode cX3_still 35 = .ok (.iload_n 2, 1) := by decide +kernel
theorem dX3_still_36 : decode cX3_still 36 = .ok (.aload_n 0, 1) := by decide +kernel
theorem dX3_still_37 : decode cX3_still 37 = .ok (.getfield 13, 3) := by decide +kernel
theorem dX3_still_40 : decode cX3_still 40 = .ok (.iload 4, 2) := by decide +kernel
theorem dX3_still_42 : decode cX3_still 42 = .ok (.iaload, 1) := by decide +kernel
theorem dX3_still_43 : decode cX3_still 43 = .ok (.aload_n 0, 1) := by decide +kernel
theorem dX3_still_44 : decode cX3_still 44 = .ok (.getfield 13, 3) := by decide +kernel
theorem dX3_still_47 : decode cX3_still 47 = .ok (.iload 4, 2) := by decide +kernel
theorem dX3_still_49 : decode cX3_still 49 = .ok (.iconst 2, 1) := by decide +kernel
theorem dX3_still_50 : decode cX3_still 50 = .ok (.iadd, 1) := by decide +kernel
theorem dX3_still_51 : decode cX3_still 51 = .ok (.iaload, 1) := by decide +kernel
theorem dX3_still_52 : decode cX3_still 52 = .ok (.if_icmp .ne 28, 3) := by decide +kernel
theorem dX3_still_55 : decode cX3_still 55 = .ok (.aload_n 0, 1) := by decide +kernel
theorem dX3_still_56 : decode cX3_still 56 = .ok (.getfield 13, 3) := by decide +kernel
theorem dX3_still_59 : decode cX3_still 59 = .ok (.iload 4, 2) := by decide +kernel
theorem dX3_still_61 : decode cX3_still 61 = .ok (.iconst 1, 1) := by decide +kernel
theorem dX3_still_62 : decode cX3_still 62 = .ok (.iadd, 1) := by decide +kernel
theorem dX3_still_63 : decode cX3_still 63 = .ok (.iaload, 1) := by decide +kernel
theorem dX3_still_64 : decode cX3_still 64 = .ok (.aload_n 0, 1) := by decide +kernel
theorem dX3_still_65 : decode cX3_still 65 = .ok (.getfield 13, 3) := by decide +kernel
theorem dX3_still_68 : decode cX3_still 68 = .ok (.iload 4, 2) := by decide +kernel
theorem dX3_still_70 : decode cX3_still 70 = .ok (.iconst 3, 1) := by decide +kernel
theorem dX3_still_71 : decode cX3_still 71 = .ok (.iadd, 1) := by decide +kernel
theorem dX3_still_72 : decode cX3_still 72 = .ok (.iaload, 1) := by decide +kernel
theorem dX3_still_73 : decode cX3_still 73 = .ok (.if_icmp .ne 7, 3) := by decide +kernel
theorem dX3_still_76 : decode cX3_still 76 = .ok (.iconst 1, 1) := by decide +kernel
theorem dX3_still_77 : decode cX3_still 77 = .ok (.goto 4, 3) := by decide +kernel
theorem dX3_still_80 : decode cX3_still 80 = .ok (.iconst 0, 1) := by decide +kernel
theorem dX3_still_81 : decode cX3_still 81 = .ok (.iadd, 1) := by decide +kernel
theorem dX3_still_82 : decode cX3_still 82 = .ok (.istore_n 2, 1) := by decide +kernel
theorem dX3_still_83 : decode cX3_still 83 = .ok (.iinc 3 1, 3) := by decide +kernel
theorem dX3_still_86 : decode cX3_still 86 = .ok (.goto (-71), 3) := by decide +kernel
theorem dX3_still_89 : decode cX3_still 89 = .ok (.iload_n 2, 1) := by decide +kernel
theorem dX3_still_90 : decode cX3_still 90 = .ok (.ireturn, 1) := by decide +kernel
theorem dX3_common_0 : decode cX3_common 0 = .ok (.lload_n 0, 1) := by decide +kernel
theorem dX3_common_1 : decode cX3_common 1 = .ok (.lstore 4, 2) := by decide +kernel
theorem dX3_common_3 : decode cX3_common 3 = .ok (.lload_n 2, 1) := by decide +kernel
theorem dX3_common_4 : decode cX3_common 4 = .ok (.lstore 6, 2) := by decide +kernel
theorem dX3_common_6 : decode cX3_common 6 = .ok (.lload 6, 2) := by decide +kernel
theorem dX3_common_8 : decode cX3_common 8 = .ok (.lconst 0, 1) := by decide +kernel
theorem dX3_common_9 : decode cX3_common 9 = .ok (.lcmp, 1) := by decide +kernel
theorem dX3_common_10 : decode cX3_common 10 = .ok (.ifCond .eq 21, 3) := by decide +kernel
theorem dX3_common_13 : decode cX3_common 13 = .ok (.lload 4, 2) := by decide +kernel
theorem dX3_common_15 : decode cX3_common 15 = .ok (.lload 6, 2) := by decide +kernel
theorem dX3_common_17 : decode cX3_common 17 = .ok (.lrem, 1) := by decide +kernel
theorem dX3_common_18 : decode cX3_common 18 = .ok (.lstore 8, 2) := by decide +kernel
theorem dX3_common_20 : decode cX3_common 20 = .ok (.lload 6, 2) := by decide +kernel
theorem dX3_common_22 : decode cX3_common 22 = .ok (.lstore 4, 2) := by decide +kernel
theorem dX3_common_24 : decode cX3_common 24 = .ok (.lload 8, 2) := by decide +kernel
theorem dX3_common_26 : decode cX3_common 26 = .ok (.lstore 6, 2) := by decide +kernel
theorem dX3_common_28 : decode cX3_common 28 = .ok (.goto (-22), 3) := by decide +kernel
theorem dX3_common_31 : decode cX3_common 31 = .ok (.lload 4, 2) := by decide +kernel
theorem dX3_common_33 : decode cX3_common 33 = .ok (.lreturn, 1) := by decide +kernel
theorem dX3_seek_0 : decode cX3_seek 0 = .ok (.iconst 0, 1) := by decide +kernel
theorem dX3_seek_1 : decode cX3_seek 1 = .ok (.istore_n 3, 1) := by decide +kernel
theorem dX3_seek_2 : decode cX3_seek 2 = .ok (.aload_n 0, 1) := by decide +kernel
theorem dX3_seek_3 : decode cX3_seek 3 = .ok (.ldc2_w 173, 3) := by decide +kernel
theorem dX3_seek_6 : decode cX3_seek 6 = .ok (.putfield 175, 3) := by decide +kernel
theorem dX3_seek_9 : decode cX3_seek 9 = .ok (.aload_n 0, 1) := by decide +kernel
theorem dX3_seek_10 : decode cX3_seek 10 = .ok (.ldc2_w 173, 3) := by decide +kernel
theorem dX3_seek_13 : decode cX3_seek 13 = .ok (.putfield 178, 3) := by decide +kernel
theorem dX3_seek_16 : decode cX3_seek 16 = .ok (.iconst 0, 1) := by decide +kernel
theorem dX3_seek_17 : decode cX3_seek 17 = .ok (.istore 4, 2) := by decide +kernel
theorem dX3_seek_19 : decode cX3_seek 19 = .ok (.iload 4, 2) := by decide +kernel
theorem dX3_seek_21 : decode cX3_seek 21 = .ok (.aload_n 0, 1) := by decide +kernel
theorem dX3_seek_22 : decode cX3_seek 22 = .ok (.getfield 7, 3) := by decide +kernel
theorem dX3_seek_25 : decode cX3_seek 25 = .ok (.iload_n 1, 1) := by decide +kernel
theorem dX3_seek_26 : decode cX3_seek 26 = .ok (.iaload, 1) := by decide +kernel
theorem dX3_seek_27 : decode cX3_seek 27 = .ok (.if_icmp .ge 186, 3) := by decide +kernel
theorem dX3_seek_30 : decode cX3_seek 30 = .ok (.bipush 96, 2) := by decide +kernel
theorem dX3_seek_32 : decode cX3_seek 32 = .ok (.iload_n 1, 1) := by decide +kernel
theorem dX3_seek_33 : decode cX3_seek 33 = .ok (.imul, 1) := by decide +kernel
theorem dX3_seek_34 : decode cX3_seek 34 = .ok (.iconst 4, 1) := by decide +kernel
theorem dX3_seek_35 : decode cX3_seek 35 = .ok (.iload 4, 2) := by decide +kernel
theorem dX3_seek_37 : decode cX3_seek 37 = .ok (.imul, 1) := by decide +kernel
theorem dX3_seek_38 : decode cX3_seek 38 = .ok (.iadd, 1) := by decide +kernel
theorem dX3_seek_39 : decode cX3_seek 39 = .ok (.istore 5, 2) := by decide +kernel
theorem dX3_seek_41 : decode cX3_seek 41 = .ok (.aload_n 0, 1) := by decide +kernel
theorem dX3_seek_42 : decode cX3_seek 42 = .ok (.getfield 13, 3) := by decide +kernel
theorem dX3_seek_45 : decode cX3_seek 45 = .ok (.iload 5, 2) := by decide +kernel
theorem dX3_seek_47 : decode cX3_seek 47 = .ok (.iaload, 1) := by decide +kernel
theorem dX3_seek_48 : decode cX3_seek 48 = .ok (.istore 6, 2) := by decide +kernel
theorem dX3_seek_50 : decode cX3_seek 50 = .ok (.aload_n 0, 1) := by decide +kernel
theorem dX3_seek_51 : decode cX3_seek 51 = .ok (.getfield 13, 3) := by decide +kernel
theorem dX3_seek_54 : decode cX3_seek 54 = .ok (.iload 5, 2) := by decide +kernel
theorem dX3_seek_56 : decode cX3_seek 56 = .ok (.iconst 2, 1) := by decide +kernel
theorem dX3_seek_57 : decode cX3_seek 57 = .ok (.iadd, 1) := by decide +kernel
theorem dX3_seek_58 : decode cX3_seek 58 = .ok (.iaload, 1) := by decide +kernel
theorem dX3_seek_59 : decode cX3_seek 59 = .ok (.istore 7, 2) := by decide +kernel
theorem dX3_seek_61 : decode cX3_seek 61 = .ok (.iload 6, 2) := by decide +kernel
theorem dX3_seek_63 : decode cX3_seek 63 = .ok (.iload 7, 2) := by decide +kernel
theorem dX3_seek_65 : decode cX3_seek 65 = .ok (.if_icmp .eq 142, 3) := by decide +kernel
theorem dX3_seek_68 : decode cX3_seek 68 = .ok (.aload_n 0, 1) := by decide +kernel
theorem dX3_seek_69 : decode cX3_seek 69 = .ok (.getfield 13, 3) := by decide +kernel
theorem dX3_seek_72 : decode cX3_seek 72 = .ok (.iload 5, 2) := by decide +kernel
theorem dX3_seek_74 : decode cX3_seek 74 = .ok (.iconst 3, 1) := by decide +kernel
theorem dX3_seek_75 : decode cX3_seek 75 = .ok (.iadd, 1) := by decide +kernel
theorem dX3_seek_76 : decode cX3_seek 76 = .ok (.iaload, 1) := by decide +kernel
theorem dX3_seek_77 : decode cX3_seek 77 = .ok (.aload_n 0, 1) := by decide +kernel
theorem dX3_seek_78 : decode cX3_seek 78 = .ok (.getfield 13, 3) := by decide +kernel
theorem dX3_seek_81 : decode cX3_seek 81 = .ok (.iload 5, 2) := by decide +kernel
theorem dX3_seek_83 : decode cX3_seek 83 = .ok (.iconst 1, 1) := by decide +kernel
theorem dX3_seek_84 : decode cX3_seek 84 = .ok (.iadd, 1) := by decide +kernel
theorem dX3_seek_85 : decode cX3_seek 85 = .ok (.iaload, 1) := by decide +kernel
theorem dX3_seek_86 : decode cX3_seek 86 = .ok (.isub, 1) := by decide +kernel
theorem dX3_seek_87 : decode cX3_seek 87 = .ok (.i2l, 1) := by decide +kernel
theorem dX3_seek_88 : decode cX3_seek 88 = .ok (.lstore 8, 2) := by decide +kernel
theorem dX3_seek_90 : decode cX3_seek 90 = .ok (.lconst 1, 1) := by decide +kernel
theorem dX3_seek_91 : decode cX3_seek 91 = .ok (.iload 7, 2) := by decide +kernel
theorem dX3_seek_93 : decode cX3_seek 93 = .ok (.lshl, 1) := by decide +kernel
theorem dX3_seek_94 : decode cX3_seek 94 = .ok (.lconst 1, 1) := by decide +kernel
theorem dX3_seek_95 : decode cX3_seek 95 = .ok (.iload 6, 2) := by decide +kernel
theorem dX3_seek_97 : decode cX3_seek 97 = .ok (.lshl, 1) := by decide +kernel
theorem dX3_seek_98 : decode cX3_seek 98 = .ok (.lsub, 1) := by decide +kernel
theorem dX3_seek_99 : decode cX3_seek 99 = .ok (.lstore 10, 2) := by decide +kernel
theorem dX3_seek_101 : decode cX3_seek 101 = .ok (.lload 10, 2) := by decide +kernel
theorem dX3_seek_103 : decode cX3_seek 103 = .ok (.lconst 0, 1) := by decide +kernel
theorem dX3_seek_104 : decode cX3_seek 104 = .ok (.lcmp, 1) := by decide +kernel
theorem dX3_seek_105 : decode cX3_seek 105 = .ok (.ifCond .ge 13, 3) := by decide +kernel
theorem dX3_seek_108 : decode cX3_seek 108 = .ok (.lload 8, 2) := by decide +kernel
theorem dX3_seek_110 : decode cX3_seek 110 = .ok (.lneg, 1) := by decide +kernel
theorem dX3_seek_111 : decode cX3_seek 111 = .ok (.lstore 8, 2) := by decide +kernel
theorem dX3_seek_113 : decode cX3_seek 113 = .ok (.lload 10, 2) := by decide +kernel
theorem dX3_seek_115 : decode cX3_seek 115 = .ok (.lneg, 1) := by decide +kernel
theorem dX3_seek_116 : decode cX3_seek 116 = .ok (.lstore 10, 2) := by decide +kernel
theorem dX3_seek_118 : decode cX3_seek 118 = .ok (.lload 8, 2) := by decide +kernel
theorem dX3_seek_120 : decode cX3_seek 120 = .ok (.iload 6, 2) := by decide +kernel
theorem dX3_seek_122 : decode cX3_seek 122 = .ok (.lshl, 1) := by decide +kernel
theorem dX3_seek_123 : decode cX3_seek 123 = .ok (.lstore 12, 2) := by decide +kernel
theorem dX3_seek_125 : decode cX3_seek 125 = .ok (.lload 8, 2) := by decide +kernel
theorem dX3_seek_127 : decode cX3_seek 127 = .ok (.lconst 0, 1) := by decide +kernel
theorem dX3_seek_128 : decode cX3_seek 128 = .ok (.lcmp, 1) := by decide +kernel
theorem dX3_seek_129 : decode cX3_seek 129 = .ok (.ifCond .lt 78, 3) := by decide +kernel
theorem dX3_seek_132 : decode cX3_seek 132 = .ok (.lload 12, 2) := by decide +kernel
theorem dX3_seek_134 : decode cX3_seek 134 = .ok (.aload_n 0, 1) := by decide +kernel
theorem dX3_seek_135 : decode cX3_seek 135 = .ok (.getfield 13, 3) := by decide +kernel
theorem dX3_seek_138 : decode cX3_seek 138 = .ok (.iload 5, 2) := by decide +kernel
theorem dX3_seek_140 : decode cX3_seek 140 = .ok (.iconst 1, 1) := by decide +kernel
theorem dX3_seek_141 : decode cX3_seek 141 = .ok (.iadd, 1) := by decide +kernel
theorem dX3_seek_142 : decode cX3_seek 142 = .ok (.iaload, 1) := by decide +kernel
theorem dX3_seek_143 : decode cX3_seek 143 = .ok (.i2l, 1) := by decide +kernel
theorem dX3_seek_144 : decode cX3_seek 144 = .ok (.lload 10, 2) := by decide +kernel
theorem dX3_seek_146 : decode cX3_seek 146 = .ok (.lmul, 1) := by decide +kernel
theorem dX3_seek_147 : decode cX3_seek 147 = .ok (.lcmp, 1) := by decide +kernel
theorem dX3_seek_148 : decode cX3_seek 148 = .ok (.ifCond .lt 59, 3) := by decide +kernel
theorem dX3_seek_151 : decode cX3_seek 151 = .ok (.lload 12, 2) := by decide +kernel
theorem dX3_seek_153 : decode cX3_seek 153 = .ok (.aload_n 0, 1) := by decide +kernel
theorem dX3_seek_154 : decode cX3_seek 154 = .ok (.getfield 13, 3) := by decide +kernel
theorem dX3_seek_157 : decode cX3_seek 157 = .ok (.iload 5, 2) := by decide +kernel
theorem dX3_seek_159 : decode cX3_seek 159 = .ok (.iconst 1, 1) := by decide +kernel
theorem dX3_seek_160 : decode cX3_seek 160 = .ok (.iadd, 1) := by decide +kernel
theorem dX3_seek_161 : decode cX3_seek 161 = .ok (.iaload, 1) := by decide +kernel
theorem dX3_seek_162 : decode cX3_seek 162 = .ok (.i2l, 1) := by decide +kernel
theorem dX3_seek_163 : decode cX3_seek 163 = .ok (.lconst 1, 1) := by decide +kernel
theorem dX3_seek_164 : decode cX3_seek 164 = .ok (.ladd, 1) := by decide +kernel
theorem dX3_seek_165 : decode cX3_seek 165 = .ok (.lload 10, 2) := by decide +kernel
theorem dX3_seek_167 : decode cX3_seek 167 = .ok (.lmul, 1) := by decide +kernel
theorem dX3_seek_168 : decode cX3_seek 168 = .ok (.lcmp, 1) := by decide +kernel
theorem dX3_seek_169 : decode cX3_seek 169 = .ok (.ifCond .ge 38, 3) := by decide +kernel
theorem dX3_seek_172 : decode cX3_seek 172 = .ok (.iload_n 3, 1) := by decide +kernel
theorem dX3_seek_173 : decode cX3_seek 173 = .ok (.iload_n 2, 1) := by decide +kernel
theorem dX3_seek_174 : decode cX3_seek 174 = .ok (.if_icmp .ne 30, 3) := by decide +kernel
theorem dX3_seek_177 : decode cX3_seek 177 = .ok (.lload 8, 2) := by decide +kernel
theorem dX3_seek_179 : decode cX3_seek 179 = .ok (.lload 10, 2) := by decide +kernel
theorem dX3_seek_181 : decode cX3_seek 181 = .ok (.invokestatic 181, 3) := by decide +kernel
theorem dX3_seek_184 : decode cX3_seek 184 = .ok (.lstore 14, 2) := by decide +kernel
theorem dX3_seek_186 : decode cX3_seek 186 = .ok (.aload_n 0, 1) := by decide +kernel
theorem dX3_seek_187 : decode cX3_seek 187 = .ok (.lload 8, 2) := by decide +kernel
theorem dX3_seek_189 : decode cX3_seek 189 = .ok (.lload 14, 2) := by decide +kernel
theorem dX3_seek_191 : decode cX3_seek 191 = .ok (.ldiv, 1) := by decide +kernel
theorem dX3_seek_192 : decode cX3_seek 192 = .ok (.putfield 175, 3) := by decide +kernel
theorem dX3_seek_195 : decode cX3_seek 195 = .ok (.aload_n 0, 1) := by decide +kernel
theorem dX3_seek_196 : decode cX3_seek 196 = .ok (.lload 10, 2) := by decide +kernel
theorem dX3_seek_198 : decode cX3_seek 198 = .ok (.lload 14, 2) := by decide +kernel
theorem dX3_seek_200 : decode cX3_seek 200 = .ok (.ldiv, 1) := by decide +kernel
theorem dX3_seek_201 : decode cX3_seek 201 = .ok (.putfield 178, 3) := by decide +kernel
theorem dX3_seek_204 : decode cX3_seek 204 = .ok (.iinc 3 1, 3) := by decide +kernel
theorem dX3_seek_207 : decode cX3_seek 207 = .ok (.iinc 4 1, 3) := by decide +kernel
theorem dX3_seek_210 : decode cX3_seek 210 = .ok (.goto (-191), 3) := by decide +kernel
theorem dX3_seek_213 : decode cX3_seek 213 = .ok (.iload_n 3, 1) := by decide +kernel
theorem dX3_seek_214 : decode cX3_seek 214 = .ok (.ireturn, 1) := by decide +kernel
theorem dX3_single_0 : decode cX3_single 0 = .ok (.aload_n 0, 1) := by decide +kernel
theorem dX3_single_1 : decode cX3_single 1 = .ok (.iload_n 1, 1) := by decide +kernel
theorem dX3_single_2 : decode cX3_single 2 = .ok (.invokevirtual 104, 3) := by decide +kernel
theorem dX3_single_5 : decode cX3_single 5 = .ok (.ifCond .eq 12, 3) := by decide +kernel
theorem dX3_single_8 : decode cX3_single 8 = .ok (.aload_n 0, 1) := by decide +kernel
theorem dX3_single_9 : decode cX3_single 9 = .ok (.iload_n 1, 1) := by decide +kernel
theorem dX3_single_10 : decode cX3_single 10 = .ok (.iconst (-1), 1) := by decide +kernel
theorem dX3_single_11 : decode cX3_single 11 = .ok (.invokevirtual 185, 3) := by decide +kernel
theorem dX3_single_14 : decode cX3_single 14 = .ok (.goto 5, 3) := by decide +kernel
theorem dX3_single_17 : decode cX3_single 17 = .ok (.bipush (-101), 2) := by decide +kernel
theorem dX3_single_19 : decode cX3_single 19 = .ok (.ireturn, 1) := by decide +kernel
theorem dX3_point_0 : decode cX3_point 0 = .ok (.aload_n 0, 1) := by decide +kernel
theorem dX3_point_1 : decode cX3_point 1 = .ok (.iload_n 1, 1) := by decide +kernel
theorem dX3_point_2 : decode cX3_point 2 = .ok (.invokevirtual 104, 3) := by decide +kernel
theorem dX3_point_5 : decode cX3_point 5 = .ok (.ifCond .ne 7, 3) := by decide +kernel
theorem dX3_point_8 : decode cX3_point 8 = .ok (.ldc2_w 188, 3) := by decide +kernel
theorem dX3_point_11 : decode cX3_point 11 = .ok (.lreturn, 1) := by decide +kernel
theorem dX3_point_12 : decode cX3_point 12 = .ok (.iload_n 3, 1) := by decide +kernel
theorem dX3_point_13 : decode cX3_point 13 = .ok (.i2l, 1) := by decide +kernel
theorem dX3_point_14 : decode cX3_point 14 = .ok (.lconst 0, 1) := by decide +kernel
theorem dX3_point_15 : decode cX3_point 15 = .ok (.lconst 1, 1) := by decide +kernel
theorem dX3_point_16 : decode cX3_point 16 = .ok (.invokestatic 43, 3) := by decide +kernel
theorem dX3_point_19 : decode cX3_point 19 = .ok (.ifCond .ne 7, 3) := by decide +kernel
theorem dX3_point_22 : decode cX3_point 22 = .ok (.ldc2_w 167, 3) := by decide +kernel
theorem dX3_point_25 : decode cX3_point 25 = .ok (.lreturn, 1) := by decide +kernel
theorem dX3_point_26 : decode cX3_point 26 = .ok (.aload_n 0, 1) := by decide +kernel
theorem dX3_point_27 : decode cX3_point 27 = .ok (.iload_n 1, 1) := by decide +kernel
theorem dX3_point_28 : decode cX3_point 28 = .ok (.iload_n 2, 1) := by decide +kernel
theorem dX3_point_29 : decode cX3_point 29 = .ok (.invokevirtual 185, 3) := by decide +kernel
theorem dX3_point_32 : decode cX3_point 32 = .ok (.pop, 1) := by decide +kernel
theorem dX3_point_33 : decode cX3_point 33 = .ok (.iload_n 3, 1) := by decide +kernel
theorem dX3_point_34 : decode cX3_point 34 = .ok (.ifCond .ne 10, 3) := by decide +kernel
theorem dX3_point_37 : decode cX3_point 37 = .ok (.aload_n 0, 1) := by decide +kernel
theorem dX3_point_38 : decode cX3_point 38 = .ok (.getfield 175, 3) := by decide +kernel
theorem dX3_point_41 : decode cX3_point 41 = .ok (.goto 7, 3) := by decide +kernel
theorem dX3_point_44 : decode cX3_point 44 = .ok (.aload_n 0, 1) := by decide +kernel
theorem dX3_point_45 : decode cX3_point 45 = .ok (.getfield 178, 3) := by decide +kernel
theorem dX3_point_48 : decode cX3_point 48 = .ok (.lreturn, 1) := by decide +kernel
theorem dX3_count_0 : decode cX3_count 0 = .ok (.iload_n 1, 1) := by decide +kernel
theorem dX3_count_1 : decode cX3_count 1 = .ok (.iconst 1, 1) := by decide +kernel
theorem dX3_count_2 : decode cX3_count 2 = .ok (.if_icmp .ne 8, 3) := by decide +kernel
theorem dX3_count_5 : decode cX3_count 5 = .ok (.aload_n 0, 1) := by decide +kernel
theorem dX3_count_6 : decode cX3_count 6 = .ok (.getfield 88, 3) := by decide +kernel
theorem dX3_count_9 : decode cX3_count 9 = .ok (.ireturn, 1) := by decide +kernel
theorem dX3_count_10 : decode cX3_count 10 = .ok (.iload_n 1, 1) := by decide +kernel
theorem dX3_count_11 : decode cX3_count 11 = .ok (.ifCond .eq 20, 3) := by decide +kernel
theorem dX3_count_14 : decode cX3_count 14 = .ok (.iload_n 1, 1) := by decide +kernel
theorem dX3_count_15 : decode cX3_count 15 = .ok (.i2l, 1) := by decide +kernel
theorem dX3_count_16 : decode cX3_count 16 = .ok (.ldc2_w 65, 3) := by decide +kernel
theorem dX3_count_19 : decode cX3_count 19 = .ok (.ldc2_w 156, 3) := by decide +kernel
theorem dX3_count_22 : decode cX3_count 22 = .ok (.invokestatic 43, 3) := by decide +kernel
theorem dX3_count_25 : decode cX3_count 25 = .ok (.ifCond .ne 6, 3) := by decide +kernel
theorem dX3_count_28 : decode cX3_count 28 = .ok (.bipush (-102), 2) := by decide +kernel
theorem dX3_count_30 : decode cX3_count 30 = .ok (.ireturn, 1) := by decide +kernel
theorem dX3_count_31 : decode cX3_count 31 = .ok (.iconst 0, 1) := by decide +kernel
theorem dX3_count_32 : decode cX3_count 32 = .ok (.istore_n 2, 1) := by decide +kernel
theorem dX3_count_33 : decode cX3_count 33 = .ok (.iconst 0, 1) := by decide +kernel
theorem dX3_count_34 : decode cX3_count 34 = .ok (.istore_n 3, 1) := by decide +kernel
theorem dX3_count_35 : decode cX3_count 35 = .ok (.iload_n 3, 1) := by decide +kernel
theorem dX3_count_36 : decode cX3_count 36 = .ok (.bipush 12, 2) := by decide +kernel
theorem dX3_count_38 : decode cX3_count 38 = .ok (.if_icmp .ge 41, 3) := by decide +kernel
theorem dX3_count_41 : decode cX3_count 41 = .ok (.iload_n 2, 1) := by decide +kernel
theorem dX3_count_42 : decode cX3_count 42 = .ok (.aload_n 0, 1) := by decide +kernel
theorem dX3_count_43 : decode cX3_count 43 = .ok (.getfield 7, 3) := by decide +kernel
theorem dX3_count_46 : decode cX3_count 46 = .ok (.iload_n 3, 1) := by decide +kernel
theorem dX3_count_47 : decode cX3_count 47 = .ok (.iaload, 1) := by decide +kernel
theorem dX3_count_48 : decode cX3_count 48 = .ok (.ifCond .le 22, 3) := by decide +kernel
theorem dX3_count_51 : decode cX3_count 51 = .ok (.iload_n 1, 1) := by decide +kernel
theorem dX3_count_52 : decode cX3_count 52 = .ok (.ifCond .eq 14, 3) := by decide +kernel
theorem dX3_count_55 : decode cX3_count 55 = .ok (.aload_n 0, 1) := by decide +kernel
theorem dX3_count_56 : decode cX3_count 56 = .ok (.iload_n 3, 1) := by decide +kernel
theorem dX3_count_57 : decode cX3_count 57 = .ok (.invokevirtual 126, 3) := by decide +kernel
theorem dX3_count_60 : decode cX3_count 60 = .ok (.iload_n 1, 1) := by decide +kernel
theorem dX3_count_61 : decode cX3_count 61 = .ok (.iconst 2, 1) := by decide +kernel
theorem dX3_count_62 : decode cX3_count 62 = .ok (.isub, 1) := by decide +kernel
theorem dX3_count_63 : decode cX3_count 63 = .ok (.if_icmp .ne 7, 3) := by decide +kernel
theorem dX3_count_66 : decode cX3_count 66 = .ok (.iconst 1, 1) := by decide +kernel
theorem dX3_count_67 : decode cX3_count 67 = .ok (.goto 4, 3) := by decide +kernel
theorem dX3_count_70 : decode cX3_count 70 = .ok (.iconst 0, 1) := by decide +kernel
theorem dX3_count_71 : decode cX3_count 71 = .ok (.iadd, 1) := by decide +kernel
theorem dX3_count_72 : decode cX3_count 72 = .ok (.istore_n 2, 1) := by decide +kernel
theorem dX3_count_73 : decode cX3_count 73 = .ok (.iinc 3 1, 3) := by decide +kernel
theorem dX3_count_76 : decode cX3_count 76 = .ok (.goto (-41), 3) := by decide +kernel
theorem dX3_count_79 : decode cX3_count 79 = .ok (.iload_n 2, 1) := by decide +kernel
theorem dX3_count_80 : decode cX3_count 80 = .ok (.ireturn, 1) := by decide +kernel
theorem dX3_mix_0 : decode cX3_mix 0 = .ok (.aload_n 0, 1) := by decide +kernel
theorem dX3_mix_1 : decode cX3_mix 1 = .ok (.ldc2_w 190, 3) := by decide +kernel
theorem dX3_mix_4 : decode cX3_mix 4 = .ok (.aload_n 0, 1) := by decide +kernel
theorem dX3_mix_5 : decode cX3_mix 5 = .ok (.getfield 192, 3) := by decide +kernel
theorem dX3_mix_8 : decode cX3_mix 8 = .ok (.lmul, 1) := by decide +kernel
theorem dX3_mix_9 : decode cX3_mix 9 = .ok (.lload_n 1, 1) := by decide +kernel
theorem dX3_mix_10 : decode cX3_mix 10 = .ok (.ladd, 1) := by decide +kernel
theorem dX3_mix_11 : decode cX3_mix 11 = .ok (.putfield 192, 3) := by decide +kernel
theorem dX3_mix_14 : decode cX3_mix 14 = .ok (.return_, 1) := by decide +kernel
theorem dX3_digest_0 : decode cX3_digest 0 = .ok (.aload_n 0, 1) := by decide +kernel
theorem dX3_digest_1 : decode cX3_digest 1 = .ok (.ldc2_w 195, 3) := by decide +kernel
theorem dX3_digest_4 : decode cX3_digest 4 = .ok (.putfield 192, 3) := by decide +kernel
theorem dX3_digest_7 : decode cX3_digest 7 = .ok (.iconst 0, 1) := by decide +kernel
theorem dX3_digest_8 : decode cX3_digest 8 = .ok (.istore_n 1, 1) := by decide +kernel
theorem dX3_digest_9 : decode cX3_digest 9 = .ok (.iload_n 1, 1) := by decide +kernel
theorem dX3_digest_10 : decode cX3_digest 10 = .ok (.bipush 12, 2) := by decide +kernel
theorem dX3_digest_12 : decode cX3_digest 12 = .ok (.if_icmp .ge 71, 3) := by decide +kernel
theorem dX3_digest_15 : decode cX3_digest 15 = .ok (.aload_n 0, 1) := by decide +kernel
theorem dX3_digest_16 : decode cX3_digest 16 = .ok (.aload_n 0, 1) := by decide +kernel
theorem dX3_digest_17 : decode cX3_digest 17 = .ok (.getfield 7, 3) := by decide +kernel
theorem dX3_digest_20 : decode cX3_digest 20 = .ok (.iload_n 1, 1) := by decide +kernel
theorem dX3_digest_21 : decode cX3_digest 21 = .ok (.iaload, 1) := by decide +kernel
theorem dX3_digest_22 : decode cX3_digest 22 = .ok (.ifCond .ne 9, 3) := by decide +kernel
theorem dX3_digest_25 : decode cX3_digest 25 = .ok (.ldc2_w 173, 3) := by decide +kernel
theorem dX3_digest_28 : decode cX3_digest 28 = .ok (.goto 10, 3) := by decide +kernel
theorem dX3_digest_31 : decode cX3_digest 31 = .ok (.aload_n 0, 1) := by decide +kernel
theorem dX3_digest_32 : decode cX3_digest 32 = .ok (.getfield 7, 3) := by decide +kernel
theorem dX3_digest_35 : decode cX3_digest 35 = .ok (.iload_n 1, 1) := by decide +kernel
theorem dX3_digest_36 : decode cX3_digest 36 = .ok (.iaload, 1) := by decide +kernel
theorem dX3_digest_37 : decode cX3_digest 37 = .ok (.i2l, 1) := by decide +kernel
theorem dX3_digest_38 : decode cX3_digest 38 = .ok (.invokevirtual 197, 3) := by decide +kernel
theorem dX3_digest_41 : decode cX3_digest 41 = .ok (.iconst 0, 1) := by decide +kernel
theorem dX3_digest_42 : decode cX3_digest 42 = .ok (.istore_n 2, 1) := by decide +kernel
theorem dX3_digest_43 : decode cX3_digest 43 = .ok (.iload_n 2, 1) := by decide +kernel
theorem dX3_digest_44 : decode cX3_digest 44 = .ok (.iconst 4, 1) := by decide +kernel
theorem dX3_digest_45 : decode cX3_digest 45 = .ok (.aload_n 0, 1) := by decide +kernel
theorem dX3_digest_46 : decode cX3_digest 46 = .ok (.getfield 7, 3) := by decide +kernel
theorem dX3_digest_49 : decode cX3_digest 49 = .ok (.iload_n 1, 1) := by decide +kernel
theorem dX3_digest_50 : decode cX3_digest 50 = .ok (.iaload, 1) := by decide +kernel
theorem dX3_digest_51 : decode cX3_digest 51 = .ok (.imul, 1) := by decide +kernel
theorem dX3_digest_52 : decode cX3_digest 52 = .ok (.if_icmp .ge 25, 3) := by decide +kernel
theorem dX3_digest_55 : decode cX3_digest 55 = .ok (.aload_n 0, 1) := by decide +kernel
theorem dX3_digest_56 : decode cX3_digest 56 = .ok (.aload_n 0, 1) := by decide +kernel
theorem dX3_digest_57 : decode cX3_digest 57 = .ok (.getfield 13, 3) := by decide +kernel
theorem dX3_digest_60 : decode cX3_digest 60 = .ok (.bipush 96, 2) := by decide +kernel
theorem dX3_digest_62 : decode cX3_digest 62 = .ok (.iload_n 1, 1) := by decide +kernel
theorem dX3_digest_63 : decode cX3_digest 63 = .ok (.imul, 1) := by decide +kernel
theorem dX3_digest_64 : decode cX3_digest 64 = .ok (.iload_n 2, 1) := by decide +kernel
theorem dX3_digest_65 : decode cX3_digest 65 = .ok (.iadd, 1) := by decide +kernel
theorem dX3_digest_66 : decode cX3_digest 66 = .ok (.iaload, 1) := by decide +kernel
theorem dX3_digest_67 : decode cX3_digest 67 = .ok (.i2l, 1) := by decide +kernel
theorem dX3_digest_68 : decode cX3_digest 68 = .ok (.invokevirtual 197, 3) := by decide +kernel
theorem dX3_digest_71 : decode cX3_digest 71 = .ok (.iinc 2 1, 3) := by decide +kernel
theorem dX3_digest_74 : decode cX3_digest 74 = .ok (.goto (-31), 3) := by decide +kernel
theorem dX3_digest_77 : decode cX3_digest 77 = .ok (.iinc 1 1, 3) := by decide +kernel
theorem dX3_digest_80 : decode cX3_digest 80 = .ok (.goto (-71), 3) := by decide +kernel
theorem dX3_digest_83 : decode cX3_digest 83 = .ok (.iconst 0, 1) := by decide +kernel
theorem dX3_digest_84 : decode cX3_digest 84 = .ok (.istore_n 1, 1) := by decide +kernel
theorem dX3_digest_85 : decode cX3_digest 85 = .ok (.iload_n 1, 1) := by decide +kernel
theorem dX3_digest_86 : decode cX3_digest 86 = .ok (.iconst 4, 1) := by decide +kernel
theorem dX3_digest_87 : decode cX3_digest 87 = .ok (.aload_n 0, 1) := by decide +kernel
theorem dX3_digest_88 : decode cX3_digest 88 = .ok (.getfield 88, 3) := by decide +kernel
theorem dX3_digest_91 : decode cX3_digest 91 = .ok (.imul, 1) := by decide +kernel
theorem dX3_digest_92 : decode cX3_digest 92 = .ok (.if_icmp .ge 20, 3) := by decide +kernel
theorem dX3_digest_95 : decode cX3_digest 95 = .ok (.aload_n 0, 1) := by decide +kernel
theorem dX3_digest_96 : decode cX3_digest 96 = .ok (.aload_n 0, 1) := by decide +kernel
theorem dX3_digest_97 : decode cX3_digest 97 = .ok (.getfield 16, 3) := by decide +kernel
theorem dX3_digest_100 : decode cX3_digest 100 = .ok (.iload_n 1, 1) := by decide +kernel
theorem dX3_digest_101 : decode cX3_digest 101 = .ok (.iaload, 1) := by decide +kernel
theorem dX3_digest_102 : decode cX3_digest 102 = .ok (.i2l, 1) := by decide +kernel
theorem dX3_digest_103 : decode cX3_digest 103 = .ok (.invokevirtual 197, 3) := by decide +kernel
theorem dX3_digest_106 : decode cX3_digest 106 = .ok (.iinc 1 1, 3) := by decide +kernel
theorem dX3_digest_109 : decode cX3_digest 109 = .ok (.goto (-24), 3) := by decide +kernel
theorem dX3_digest_112 : decode cX3_digest 112 = .ok (.aload_n 0, 1) := by decide +kernel
theorem dX3_digest_113 : decode cX3_digest 113 = .ok (.aload_n 0, 1) := by decide +kernel
theorem dX3_digest_114 : decode cX3_digest 114 = .ok (.getfield 160, 3) := by decide +kernel
theorem dX3_digest_117 : decode cX3_digest 117 = .ok (.i2l, 1) := by decide +kernel
theorem dX3_digest_118 : decode cX3_digest 118 = .ok (.invokevirtual 197, 3) := by decide +kernel
theorem dX3_digest_121 : decode cX3_digest 121 = .ok (.aload_n 0, 1) := by decide +kernel
theorem dX3_digest_122 : decode cX3_digest 122 = .ok (.aload_n 0, 1) := by decide +kernel
theorem dX3_digest_123 : decode cX3_digest 123 = .ok (.getfield 163, 3) := by decide +kernel
theorem dX3_digest_126 : decode cX3_digest 126 = .ok (.invokevirtual 197, 3) := by decide +kernel
theorem dX3_digest_129 : decode cX3_digest 129 = .ok (.aload_n 0, 1) := by decide +kernel
theorem dX3_digest_130 : decode cX3_digest 130 = .ok (.getfield 192, 3) := by decide +kernel
theorem dX3_digest_133 : decode cX3_digest 133 = .ok (.lreturn, 1) := by decide +kernel
