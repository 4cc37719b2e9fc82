theorem dX2_bend_62 : decode cX2_bend 62 = .ok (.ireturn, 1) := by decide +kernel
theorem dX2_still_0 : decode cX2_still 0 = .ok (.aload_n 0, 1) := by decide +kernel
theorem dX2_still_1 : decode cX2_still 1 = .ok (.iload_n 1, 1) := by decide +kernel
theorem dX2_still_2 : decode cX2_still 2 = .ok (.invokevirtual 62, 3) := by decide +kernel
theorem dX2_still_5 : decode cX2_still 5 = .ok (.ifCond .ne 6, 3) := by decide +kernel
theorem dX2_still_8 : decode cX2_still 8 = .ok (.bipush (-101), 2) := by decide +kernel
theorem dX2_still_10 : decode cX2_still 10 = .ok (.ireturn, 1) := by decide +kernel
theorem dX2_still_11 : decode cX2_still 11 = .ok (.aload_n 0, 1) := by decide +kernel
theorem dX2_still_12 : decode cX2_still 12 = .ok (.getfield 11, 3) := by decide +kernel
theorem dX2_still_15 : decode cX2_still 15 = .ok (.iload_n 1, 1) := by decide +kernel
theorem dX2_still_16 : decode cX2_still 16 = .ok (.aaload, 1) := by decide +kernel
theorem dX2_still_17 : decode cX2_still 17 = .ok (.astore_n 2, 1) := by decide +kernel
theorem dX2_still_18 : decode cX2_still 18 = .ok (.iconst 0, 1) := by decide +kernel
theorem dX2_still_19 : decode cX2_still 19 = .ok (.istore_n 3, 1) := by decide +kernel
theorem dX2_still_20 : decode cX2_still 20 = .ok (.iconst 0, 1) := by decide +kernel
theorem dX2_still_21 : decode cX2_still 21 = .ok (.istore 4, 2) := by decide +kernel
theorem dX2_still_23 : decode cX2_still 23 = .ok (.iload 4, 2) := by decide +kernel
theorem dX2_still_25 : decode cX2_still 25 = .ok (.aload_n 2, 1) := by decide +kernel
theorem dX2_still_26 : decode cX2_still 26 = .ok (.getfield 35, 3) := by decide +kernel
theorem dX2_still_29 : decode cX2_still 29 = .ok (.if_icmp .ge 47, 3) := by decide +kernel
theorem dX2_still_32 : decode cX2_still 32 = .ok (.aload_n 2, 1) := by decide +kernel
theorem dX2_still_33 : decode cX2_still 33 = .ok (.getfield 111, 3) := by decide +kernel
theorem dX2_still_36 : decode cX2_still 36 = .ok (.iload 4, 2) := by decide +kernel
theorem dX2_still_38 : decode cX2_still 38 = .ok (.iaload, 1) := by decide +kernel
theorem dX2_still_39 : decode cX2_still 39 = .ok (.aload_n 2, 1) := by decide +kernel
theorem dX2_still_40 : decode cX2_still 40 = .ok (.getfield 114, 3) := by decide +kernel
theorem dX2_still_43 : decode cX2_still 43 = .ok (.iload 4, 2) := by decide +kernel
theorem dX2_still_45 : decode cX2_still 45 = .ok (.iaload, 1) := by decide +kernel
theorem dX2_still_46 : decode cX2_still 46 = .ok (.if_icmp .ne 24, 3) := by decide +kernel
theorem dX2_still_49 : decode cX2_still 49 = .ok (.aload_n 2, 1) := by decide +kernel
theorem dX2_still_50 : decode cX2_still 50 = .ok (.getfield 117, 3) := by decide +kernel
theorem dX2_still_53 : decode cX2_still 53 = .ok (.iload 4, 2) := by decide +kernel
theorem dX2_still_55 : decode cX2_still 55 = .ok (.laload, 1) := by decide +kernel
theorem dX2_still_56 : decode cX2_still 56 = .ok (.aload_n 2, 1) := by decide +kernel
theorem dX2_still_57 : decode cX2_still 57 = .ok (.getfield 121, 3) := by decide +kernel
theorem dX2_still_60 : decode cX2_still 60 = .ok (.iload 4, 2) := by decide +kernel
theorem dX2_still_62 : decode cX2_still 62 = .ok (.laload, 1) := by decide +kernel
theorem dX2_still_63 : decode cX2_still 63 = .ok (.lcmp, 1) := by decide +kernel
theorem dX2_still_64 : decode cX2_still 64 = .ok (.ifCond .ne 6, 3) := by decide +kernel
theorem dX2_still_67 : decode cX2_still 67 = .ok (.iinc 3 1, 3) := by decide +kernel
theorem dX2_still_70 : decode cX2_still 70 = .ok (.iinc 4 1, 3) := by decide +kernel
theorem dX2_still_73 : decode cX2_still 73 = .ok (.goto (-50), 3) := by decide +kernel
theorem dX2_still_76 : decode cX2_still 76 = .ok (.iload_n 3, 1) := by decide +kernel
theorem dX2_still_77 : decode cX2_still 77 = .ok (.ireturn, 1) := by decide +kernel
theorem dX2_single_0 : decode cX2_single 0 = .ok (.aload_n 0, 1) := by decide +kernel
theorem dX2_single_1 : decode cX2_single 1 = .ok (.iload_n 1, 1) := by decide +kernel
theorem dX2_single_2 : decode cX2_single 2 = .ok (.invokevirtual 62, 3) := by decide +kernel
theorem dX2_single_5 : decode cX2_single 5 = .ok (.ifCond .ne 6, 3) := by decide +kernel
theorem dX2_single_8 : decode cX2_single 8 = .ok (.bipush (-101), 2) := by decide +kernel
theorem dX2_single_10 : decode cX2_single 10 = .ok (.ireturn, 1) := by decide +kernel
theorem dX2_single_11 : decode cX2_single 11 = .ok (.iconst 0, 1) := by decide +kernel
theorem dX2_single_12 : decode cX2_single 12 = .ok (.istore_n 2, 1) := by decide +kernel
theorem dX2_single_13 : decode cX2_single 13 = .ok (.iconst 0, 1) := by decide +kernel
theorem dX2_single_14 : decode cX2_single 14 = .ok (.istore_n 3, 1) := by decide +kernel
theorem dX2_single_15 : decode cX2_single 15 = .ok (.iload_n 3, 1) := by decide +kernel
theorem dX2_single_16 : decode cX2_single 16 = .ok (.aload_n 0, 1) := by decide +kernel
theorem dX2_single_17 : decode cX2_single 17 = .ok (.getfield 11, 3) := by decide +kernel
theorem dX2_single_20 : decode cX2_single 20 = .ok (.iload_n 1, 1) := by decide +kernel
theorem dX2_single_21 : decode cX2_single 21 = .ok (.aaload, 1) := by decide +kernel
theorem dX2_single_22 : decode cX2_single 22 = .ok (.getfield 35, 3) := by decide +kernel
theorem dX2_single_25 : decode cX2_single 25 = .ok (.if_icmp .ge 25, 3) := by decide +kernel
theorem dX2_single_28 : decode cX2_single 28 = .ok (.aload_n 0, 1) := by decide +kernel
theorem dX2_single_29 : decode cX2_single 29 = .ok (.getfield 11, 3) := by decide +kernel
theorem dX2_single_32 : decode cX2_single 32 = .ok (.iload_n 1, 1) := by decide +kernel
theorem dX2_single_33 : decode cX2_single 33 = .ok (.aaload, 1) := by decide +kernel
theorem dX2_single_34 : decode cX2_single 34 = .ok (.iload_n 3, 1) := by decide +kernel
theorem dX2_single_35 : decode cX2_single 35 = .ok (.invokestatic 141, 3) := by decide +kernel
theorem dX2_single_38 : decode cX2_single 38 = .ok (.ifCond .eq 6, 3) := by decide +kernel
theorem dX2_single_41 : decode cX2_single 41 = .ok (.iinc 2 1, 3) := by decide +kernel
theorem dX2_single_44 : decode cX2_single 44 = .ok (.iinc 3 1, 3) := by decide +kernel
theorem dX2_single_47 : decode cX2_single 47 = .ok (.goto (-32), 3) := by decide +kernel
theorem dX2_single_50 : decode cX2_single 50 = .ok (.iload_n 2, 1) := by decide +kernel
theorem dX2_single_51 : decode cX2_single 51 = .ok (.ireturn, 1) := by decide +kernel
theorem dX2_point_0 : decode cX2_point 0 = .ok (.aload_n 0, 1) := by decide +kernel
theorem dX2_point_1 : decode cX2_point 1 = .ok (.iload_n 1, 1) := by decide +kernel
theorem dX2_point_2 : decode cX2_point 2 = .ok (.invokevirtual 62, 3) := by decide +kernel
theorem dX2_point_5 : decode cX2_point 5 = .ok (.ifCond .ne 7, 3) := by decide +kernel
theorem dX2_point_8 : decode cX2_point 8 = .ok (.ldc2_w 144, 3) := by decide +kernel
theorem dX2_point_11 : decode cX2_point 11 = .ok (.lreturn, 1) := by decide +kernel
theorem dX2_point_12 : decode cX2_point 12 = .ok (.iload_n 3, 1) := by decide +kernel
theorem dX2_point_13 : decode cX2_point 13 = .ok (.ifCond .lt 8, 3) := by decide +kernel
theorem dX2_point_16 : decode cX2_point 16 = .ok (.iload_n 3, 1) := by decide +kernel
theorem dX2_point_17 : decode cX2_point 17 = .ok (.iconst 1, 1) := by decide +kernel
theorem dX2_point_18 : decode cX2_point 18 = .ok (.if_icmp .le 7, 3) := by decide +kernel
theorem dX2_point_21 : decode cX2_point 21 = .ok (.ldc2_w 135, 3) := by decide +kernel
theorem dX2_point_24 : decode cX2_point 24 = .ok (.lreturn, 1) := by decide +kernel
theorem dX2_point_25 : decode cX2_point 25 = .ok (.iconst 0, 1) := by decide +kernel
theorem dX2_point_26 : decode cX2_point 26 = .ok (.istore 4, 2) := by decide +kernel
theorem dX2_point_28 : decode cX2_point 28 = .ok (.iconst 0, 1) := by decide +kernel
theorem dX2_point_29 : decode cX2_point 29 = .ok (.istore 5, 2) := by decide +kernel
theorem dX2_point_31 : decode cX2_point 31 = .ok (.iload 5, 2) := by decide +kernel
theorem dX2_point_33 : decode cX2_point 33 = .ok (.aload_n 0, 1) := by decide +kernel
theorem dX2_point_34 : decode cX2_point 34 = .ok (.getfield 11, 3) := by decide +kernel
theorem dX2_point_37 : decode cX2_point 37 = .ok (.iload_n 1, 1) := by decide +kernel
theorem dX2_point_38 : decode cX2_point 38 = .ok (.aaload, 1) := by decide +kernel
theorem dX2_point_39 : decode cX2_point 39 = .ok (.getfield 35, 3) := by decide +kernel
theorem dX2_point_42 : decode cX2_point 42 = .ok (.if_icmp .ge 45, 3) := by decide +kernel
theorem dX2_point_45 : decode cX2_point 45 = .ok (.aload_n 0, 1) := by decide +kernel
theorem dX2_point_46 : decode cX2_point 46 = .ok (.getfield 11, 3) := by decide +kernel
theorem dX2_point_49 : decode cX2_point 49 = .ok (.iload_n 1, 1) := by decide +kernel
theorem dX2_point_50 : decode cX2_point 50 = .ok (.aaload, 1) := by decide +kernel
theorem dX2_point_51 : decode cX2_point 51 = .ok (.iload 5, 2) := by decide +kernel
theorem dX2_point_53 : decode cX2_point 53 = .ok (.invokestatic 141, 3) := by decide +kernel
theorem dX2_point_56 : decode cX2_point 56 = .ok (.ifCond .eq 25, 3) := by decide +kernel
theorem dX2_point_59 : decode cX2_point 59 = .ok (.iload 4, 2) := by decide +kernel
theorem dX2_point_61 : decode cX2_point 61 = .ok (.iload_n 2, 1) := by decide +kernel
theorem dX2_point_62 : decode cX2_point 62 = .ok (.if_icmp .ne 16, 3) := by decide +kernel
theorem dX2_point_65 : decode cX2_point 65 = .ok (.aload_n 0, 1) := by decide +kernel
theorem dX2_point_66 : decode cX2_point 66 = .ok (.getfield 11, 3) := by decide +kernel
theorem dX2_point_69 : decode cX2_point 69 = .ok (.iload_n 1, 1) := by decide +kernel
theorem dX2_point_70 : decode cX2_point 70 = .ok (.aaload, 1) := by decide +kernel
theorem dX2_point_71 : decode cX2_point 71 = .ok (.iload 5, 2) := by decide +kernel
theorem dX2_point_73 : decode cX2_point 73 = .ok (.iload_n 3, 1) := by decide +kernel
theorem dX2_point_74 : decode cX2_point 74 = .ok (.invokestatic 146, 3) := by decide +kernel
theorem dX2_point_77 : decode cX2_point 77 = .ok (.lreturn, 1) := by decide +kernel
theorem dX2_point_78 : decode cX2_point 78 = .ok (.iinc 4 1, 3) := by decide +kernel
theorem dX2_point_81 : decode cX2_point 81 = .ok (.iinc 5 1, 3) := by decide +kernel
theorem dX2_point_84 : decode cX2_point 84 = .ok (.goto (-53), 3) := by decide +kernel
theorem dX2_point_87 : decode cX2_point 87 = .ok (.ldc2_w 150, 3) := by decide +kernel
theorem dX2_point_90 : decode cX2_point 90 = .ok (.lreturn, 1) := by decide +kernel
theorem dX2_count_0 : decode cX2_count 0 = .ok (.iload_n 1, 1) := by decide +kernel
theorem dX2_count_1 : decode cX2_count 1 = .ok (.tableswitch 79 0 4 #[35, 53, 61, 67, 73], 35) := by decide +kernel
theorem dX2_count_36 : decode cX2_count 36 = .ok (.aload_n 0, 1) := by decide +kernel
theorem dX2_count_37 : decode cX2_count 37 = .ok (.iconst 0, 1) := by decide +kernel
theorem dX2_count_38 : decode cX2_count 38 = .ok (.invokevirtual 152, 3) := by decide +kernel
theorem dX2_count_41 : decode cX2_count 41 = .ok (.aload_n 0, 1) := by decide +kernel
theorem dX2_count_42 : decode cX2_count 42 = .ok (.iconst 1, 1) := by decide +kernel
theorem dX2_count_43 : decode cX2_count 43 = .ok (.invokevirtual 152, 3) := by decide +kernel
theorem dX2_count_46 : decode cX2_count 46 = .ok (.iadd, 1) := by decide +kernel
theorem dX2_count_47 : decode cX2_count 47 = .ok (.aload_n 0, 1) := by decide +kernel
theorem dX2_count_48 : decode cX2_count 48 = .ok (.iconst 2, 1) := by decide +kernel
theorem dX2_count_49 : decode cX2_count 49 = .ok (.invokevirtual 152, 3) := by decide +kernel
theorem dX2_count_52 : decode cX2_count 52 = .ok (.iadd, 1) := by decide +kernel
theorem dX2_count_53 : decode cX2_count 53 = .ok (.ireturn, 1) := by decide +kernel
theorem dX2_count_54 : decode cX2_count 54 = .ok (.aload_n 0, 1) := by decide +kernel
theorem dX2_count_55 : decode cX2_count 55 = .ok (.getfield 18, 3) := by decide +kernel
theorem dX2_count_58 : decode cX2_count 58 = .ok (.getfield 35, 3) := by decide +kernel
theorem dX2_count_61 : decode cX2_count 61 = .ok (.ireturn, 1) := by decide +kernel
theorem dX2_count_62 : decode cX2_count 62 = .ok (.aload_n 0, 1) := by decide +kernel
theorem dX2_count_63 : decode cX2_count 63 = .ok (.iconst 0, 1) := by decide +kernel
theorem dX2_count_64 : decode cX2_count 64 = .ok (.invokevirtual 152, 3) := by decide +kernel
theorem dX2_count_67 : decode cX2_count 67 = .ok (.ireturn, 1) := by decide +kernel
theorem dX2_count_68 : decode cX2_count 68 = .ok (.aload_n 0, 1) := by decide +kernel
theorem dX2_count_69 : decode cX2_count 69 = .ok (.iconst 1, 1) := by decide +kernel
theorem dX2_count_70 : decode cX2_count 70 = .ok (.invokevirtual 152, 3) := by decide +kernel
theorem dX2_count_73 : decode cX2_count 73 = .ok (.ireturn, 1) := by decide +kernel
theorem dX2_count_74 : decode cX2_count 74 = .ok (.aload_n 0, 1) := by decide +kernel
theorem dX2_count_75 : decode cX2_count 75 = .ok (.iconst 2, 1) := by decide +kernel
theorem dX2_count_76 : decode cX2_count 76 = .ok (.invokevirtual 152, 3) := by decide +kernel
theorem dX2_count_79 : decode cX2_count 79 = .ok (.ireturn, 1) := by decide +kernel
theorem dX2_count_80 : decode cX2_count 80 = .ok (.bipush (-102), 2) := by decide +kernel
theorem dX2_count_82 : decode cX2_count 82 = .ok (.ireturn, 1) := by decide +kernel
theorem dX2_digest_0 : decode cX2_digest 0 = .ok (.ldc2_w 155, 3) := by decide +kernel
theorem dX2_digest_3 : decode cX2_digest 3 = .ok (.lstore_n 1, 1) := by decide +kernel
theorem dX2_digest_4 : decode cX2_digest 4 = .ok (.iconst 0, 1) := by decide +kernel
theorem dX2_digest_5 : decode cX2_digest 5 = .ok (.istore_n 3, 1) := by decide +kernel
theorem dX2_digest_6 : decode cX2_digest 6 = .ok (.iload_n 3, 1) := by decide +kernel
theorem dX2_digest_7 : decode cX2_digest 7 = .ok (.bipush 12, 2) := by decide +kernel
theorem dX2_digest_9 : decode cX2_digest 9 = .ok (.if_icmp .ge 49, 3) := by decide +kernel
theorem dX2_digest_12 : decode cX2_digest 12 = .ok (.ldc2_w 157, 3) := by decide +kernel
theorem dX2_digest_15 : decode cX2_digest 15 = .ok (.lload_n 1, 1) := by decide +kernel
theorem dX2_digest_16 : decode cX2_digest 16 = .ok (.lmul, 1) := by decide +kernel
theorem dX2_digest_17 : decode cX2_digest 17 = .ok (.aload_n 0, 1) := by decide +kernel
theorem dX2_digest_18 : decode cX2_digest 18 = .ok (.iload_n 3, 1) := by decide +kernel
theorem dX2_digest_19 : decode cX2_digest 19 = .ok (.invokevirtual 62, 3) := by decide +kernel
theorem dX2_digest_22 : decode cX2_digest 22 = .ok (.ifCond .eq 15, 3) := by decide +kernel
theorem dX2_digest_25 : decode cX2_digest 25 = .ok (.aload_n 0, 1) := by decide +kernel
theorem dX2_digest_26 : decode cX2_digest 26 = .ok (.getfield 11, 3) := by decide +kernel
theorem dX2_digest_29 : decode cX2_digest 29 = .ok (.iload_n 3, 1) := by decide +kernel
theorem dX2_digest_30 : decode cX2_digest 30 = .ok (.aaload, 1) := by decide +kernel
theorem dX2_digest_31 : decode cX2_digest 31 = .ok (.getfield 35, 3) := by decide +kernel
theorem dX2_digest_34 : decode cX2_digest 34 = .ok (.goto 4, 3) := by decide +kernel
theorem dX2_digest_37 : decode cX2_digest 37 = .ok (.iconst (-1), 1) := by decide +kernel
theorem dX2_digest_38 : decode cX2_digest 38 = .ok (.i2l, 1) := by decide +kernel
theorem dX2_digest_39 : decode cX2_digest 39 = .ok (.ladd, 1) := by decide +kernel
theorem dX2_digest_40 : decode cX2_digest 40 = .ok (.lstore_n 1, 1) := by decide +kernel
theorem dX2_digest_41 : decode cX2_digest 41 = .ok (.lload_n 1, 1) := by decide +kernel
theorem dX2_digest_42 : decode cX2_digest 42 = .ok (.aload_n 0, 1) := by decide +kernel
theorem dX2_digest_43 : decode cX2_digest 43 = .ok (.getfield 11, 3) := by decide +kernel
theorem dX2_digest_46 : decode cX2_digest 46 = .ok (.iload_n 3, 1) := by decide +kernel
theorem dX2_digest_47 : decode cX2_digest 47 = .ok (.aaload, 1) := by decide +kernel
theorem dX2_digest_48 : decode cX2_digest 48 = .ok (.invokestatic 159, 3) := by decide +kernel
theorem dX2_digest_51 : decode cX2_digest 51 = .ok (.lstore_n 1, 1) := by decide +kernel
theorem dX2_digest_52 : decode cX2_digest 52 = .ok (.iinc 3 1, 3) := by decide +kernel
theorem dX2_digest_55 : decode cX2_digest 55 = .ok (.goto (-49), 3) := by decide +kernel
theorem dX2_digest_58 : decode cX2_digest 58 = .ok (.lload_n 1, 1) := by decide +kernel
theorem dX2_digest_59 : decode cX2_digest 59 = .ok (.aload_n 0, 1) := by decide +kernel
theorem dX2_digest_60 : decode cX2_digest 60 = .ok (.getfield 18, 3) := by decide +kernel
theorem dX2_digest_63 : decode cX2_digest 63 = .ok (.invokestatic 159, 3) := by decide +kernel
theorem dX2_digest_66 : decode cX2_digest 66 = .ok (.lstore_n 1, 1) := by decide +kernel
theorem dX2_digest_67 : decode cX2_digest 67 = .ok (.ldc2_w 157, 3) := by decide +kernel
theorem dX2_digest_70 : decode cX2_digest 70 = .ok (.lload_n 1, 1) := by decide +kernel
theorem dX2_digest_71 : decode cX2_digest 71 = .ok (.lmul, 1) := by decide +kernel
theorem dX2_digest_72 : decode cX2_digest 72 = .ok (.aload_n 0, 1) := by decide +kernel
theorem dX2_digest_73 : decode cX2_digest 73 = .ok (.getfield 128, 3) := by decide +kernel
theorem dX2_digest_76 : decode cX2_digest 76 = .ok (.i2l, 1) := by decide +kernel
theorem dX2_digest_77 : decode cX2_digest 77 = .ok (.ladd, 1) := by decide +kernel
theorem dX2_digest_78 : decode cX2_digest 78 = .ok (.lstore_n 1, 1) := by decide +kernel
theorem dX2_digest_79 : decode cX2_digest 79 = .ok (.ldc2_w 157, 3) := by decide +kernel
theorem dX2_digest_82 : decode cX2_digest 82 = .ok (.lload_n 1, 1) := by decide +kernel
theorem dX2_digest_83 : decode cX2_digest 83 = .ok (.lmul, 1) := by decide +kernel
theorem dX2_digest_84 : decode cX2_digest 84 = .ok (.aload_n 0, 1) := by decide +kernel
theorem dX2_digest_85 : decode cX2_digest 85 = .ok (.getfield 131, 3) := by decide +kernel
theorem dX2_digest_88 : decode cX2_digest 88 = .ok (.ladd, 1) := by decide +kernel
theorem dX2_digest_89 : decode cX2_digest 89 = .ok (.lreturn, 1) := by decide +kernel
theorem dX2_mixedIn_0 : decode cX2_mixedIn 0 = .ok (.lload_n 0, 1) := by decide +kernel
theorem dX2_mixedIn_1 : decode cX2_mixedIn 1 = .ok (.lstore_n 3, 1) := by decide +kernel
theorem dX2_mixedIn_2 : decode cX2_mixedIn 2 = .ok (.iconst 0, 1) := by decide +kernel
theorem dX2_mixedIn_3 : decode cX2_mixedIn 3 = .ok (.istore 5, 2) := by decide +kernel
theorem dX2_mixedIn_5 : decode cX2_mixedIn 5 = .ok (.iload 5, 2) := by decide +kernel
theorem dX2_mixedIn_7 : decode cX2_mixedIn 7 = .ok (.aload_n 2, 1) := by decide +kernel
theorem dX2_mixedIn_8 : decode cX2_mixedIn 8 = .ok (.getfield 35, 3) := by decide +kernel
theorem dX2_mixedIn_11 : decode cX2_mixedIn 11 = .ok (.if_icmp .ge 39, 3) := by decide +kernel
theorem dX2_mixedIn_14 : decode cX2_mixedIn 14 = .ok (.iconst 0, 1) := by decide +kernel
theorem dX2_mixedIn_15 : decode cX2_mixedIn 15 = .ok (.istore 6, 2) := by decide +kernel
theorem dX2_mixedIn_17 : decode cX2_mixedIn 17 = .ok (.iload 6, 2) := by decide +kernel
theorem dX2_mixedIn_19 : decode cX2_mixedIn 19 = .ok (.iconst 4, 1) := by decide +kernel
theorem dX2_mixedIn_20 : decode cX2_mixedIn 20 = .ok (.if_icmp .ge 24, 3) := by decide +kernel
theorem dX2_mixedIn_23 : decode cX2_mixedIn 23 = .ok (.ldc2_w 157, 3) := by decide +kernel
theorem dX2_mixedIn_26 : decode cX2_mixedIn 26 = .ok (.lload_n 3, 1) := by decide +kernel
theorem dX2_mixedIn_27 : decode cX2_mixedIn 27 = .ok (.lmul, 1) := by decide +kernel
theorem dX2_mixedIn_28 : decode cX2_mixedIn 28 = .ok (.aload_n 2, 1) := by decide +kernel
theorem dX2_mixedIn_29 : decode cX2_mixedIn 29 = .ok (.iload 5, 2) := by decide +kernel
theorem dX2_mixedIn_31 : decode cX2_mixedIn 31 = .ok (.iload 6, 2) := by decide +kernel
theorem dX2_mixedIn_33 : decode cX2_mixedIn 33 = .ok (.invokevirtual 80, 3) := by decide +kernel
theorem dX2_mixedIn_36 : decode cX2_mixedIn 36 = .ok (.ladd, 1) := by decide +kernel
theorem dX2_mixedIn_37 : decode cX2_mixedIn 37 = .ok (.lstore_n 3, 1) := by decide +kernel
theorem dX2_mixedIn_38 : decode cX2_mixedIn 38 = .ok (.iinc 6 1, 3) := by decide +kernel
theorem dX2_mixedIn_41 : decode cX2_mixedIn 41 = .ok (.goto (-24), 3) := by decide +kernel
theorem dX2_mixedIn_44 : decode cX2_mixedIn 44 = .ok (.iinc 5 1, 3) := by decide +kernel
theorem dX2_mixedIn_47 : decode cX2_mixedIn 47 = .ok (.goto (-42), 3) := by decide +kernel
theorem dX2_mixedIn_50 : decode cX2_mixedIn 50 = .ok (.lload_n 3, 1) := by decide +kernel
theorem dX2_mixedIn_51 : decode cX2_mixedIn 51 = .ok (.lreturn, 1) := by decide +kernel
theorem dX2_isLeaf_0 : decode cX2_isLeaf 0 = .ok (.iload_n 0, 1) := by decide +kernel
theorem dX2_isLeaf_1 : decode cX2_isLeaf 1 = .ok (.ifCond .lt 24, 3) := by decide +kernel
theorem dX2_isLeaf_4 : decode cX2_isLeaf 4 = .ok (.iload_n 0, 1) := by decide +kernel
theorem dX2_isLeaf_5 : decode cX2_isLeaf 5 = .ok (.bipush 23, 2) := by decide +kernel
theorem dX2_isLeaf_7 : decode cX2_isLeaf 7 = .ok (.if_icmp .gt 18, 3) := by decide +kernel
theorem dX2_isLeaf_10 : decode cX2_isLeaf 10 = .ok (.iload_n 1, 1) := by decide +kernel
theorem dX2_isLeaf_11 : decode cX2_isLeaf 11 = .ok (.ifCond .lt 14, 3) := by decide +kernel
theorem dX2_isLeaf_14 : decode cX2_isLeaf 14 = .ok (.iload_n 1, 1) := by decide +kernel
theorem dX2_isLeaf_15 : decode cX2_isLeaf 15 = .ok (.iconst 1, 1) := by decide +kernel
theorem dX2_isLeaf_16 : decode cX2_isLeaf 16 = .ok (.iload_n 0, 1) := by decide +kernel
theorem dX2_isLeaf_17 : decode cX2_isLeaf 17 = .ok (.ishl, 1) := by decide +kernel
theorem dX2_isLeaf_18 : decode cX2_isLeaf 18 = .ok (.if_icmp .ge 7, 3) := by decide +kernel
theorem dX2_isLeaf_21 : decode cX2_isLeaf 21 = .ok (.iconst 1, 1) := by decide +kernel
theorem dX2_isLeaf_22 : decode cX2_isLeaf 22 = .ok (.goto 4, 3) := by decide +kernel
theorem dX2_isLeaf_25 : decode cX2_isLeaf 25 = .ok (.iconst 0, 1) := by decide +kernel
theorem dX2_isLeaf_26 : decode cX2_isLeaf 26 = .ok (.ireturn, 1) := by decide +kernel
theorem dX2_isNumber_0 : decode cX2_isNumber 0 = .ok (.iload_n 0, 1) := by decide +kernel
theorem dX2_isNumber_1 : decode cX2_isNumber 1 = .ok (.ifCond .lt 13, 3) := by decide +kernel
theorem dX2_isNumber_4 : decode cX2_isNumber 4 = .ok (.iload_n 0, 1) := by decide +kernel
theorem dX2_isNumber_5 : decode cX2_isNumber 5 = .ok (.bipush 12, 2) := by decide +kernel
theorem dX2_isNumber_7 : decode cX2_isNumber 7 = .ok (.if_icmp .ge 7, 3) := by decide +kernel
theorem dX2_isNumber_10 : decode cX2_isNumber 10 = .ok (.iconst 1, 1) := by decide +kernel
theorem dX2_isNumber_11 : decode cX2_isNumber 11 = .ok (.goto 4, 3) := by decide +kernel
theorem dX2_isNumber_14 : decode cX2_isNumber 14 = .ok (.iconst 0, 1) := by decide +kernel
theorem dX2_isNumber_15 : decode cX2_isNumber 15 = .ok (.ireturn, 1) := by decide +kernel
theorem dX2_isThere_0 : decode cX2_isThere 0 = .ok (.iload_n 1, 1) := by decide +kernel
theorem dX2_isThere_1 : decode cX2_isThere 1 = .ok (.invokestatic 43, 3) := by decide +kernel
theorem dX2_isThere_4 : decode cX2_isThere 4 = .ok (.ifCond .eq 19, 3) := by decide +kernel
theorem dX2_isThere_7 : decode cX2_isThere 7 = .ok (.aload_n 0, 1) := by decide +kernel
theorem dX2_isThere_8 : decode cX2_isThere 8 = .ok (.getfield 11, 3) := by decide +kernel
theorem dX2_isThere_11 : decode cX2_isThere 11 = .ok (.iload_n 1, 1) := by decide +kernel
theorem dX2_isThere_12 : decode cX2_isThere 12 = .ok (.aaload, 1) := by decide +kernel
theorem dX2_isThere_13 : decode cX2_isThere 13 = .ok (.getfield 35, 3) := by decide +kernel
theorem dX2_isThere_16 : decode cX2_isThere 16 = .ok (.ifCond .le 7, 3) := by decide +kernel
theorem dX2_isThere_19 : decode cX2_isThere 19 = .ok (.iconst 1, 1) := by decide +kernel
theorem dX2_isThere_20 : decode cX2_isThere 20 = .ok (.goto 4, 3) := by decide +kernel
theorem dX2_isThere_23 : decode cX2_isThere 23 = .ok (.iconst 0, 1) := by decide +kernel
theorem dX2_isThere_24 : decode cX2_isThere 24 = .ok (.ireturn, 1) := by decide +kernel
theorem dX2_mapsOfKind_0 : decode cX2_mapsOfKind 0 = .ok (.iconst 0, 1) := by decide +kernel
theorem dX2_mapsOfKind_1 : decode cX2_mapsOfKind 1 = .ok (.istore_n 2, 1) := by decide +kernel
theorem dX2_mapsOfKind_2 : decode cX2_mapsOfKind 2 = .ok (.iconst 0, 1) := by decide +kernel
theorem dX2_mapsOfKind_3 : decode cX2_mapsOfKind 3 = .ok (.istore_n 3, 1) := by decide +kernel
theorem dX2_mapsOfKind_4 : decode cX2_mapsOfKind 4 = .ok (.iload_n 3, 1) := by decide +kernel
theorem dX2_mapsOfKind_5 : decode cX2_mapsOfKind 5 = .ok (.bipush 12, 2) := by decide +kernel
theorem dX2_mapsOfKind_7 : decode cX2_mapsOfKind 7 = .ok (.if_icmp .ge 33, 3) := by decide +kernel
theorem dX2_mapsOfKind_10 : decode cX2_mapsOfKind 10 = .ok (.aload_n 0, 1) := by decide +kernel
theorem dX2_mapsOfKind_11 : decode cX2_mapsOfKind 11 = .ok (.iload_n 3, 1) := by decide +kernel
theorem dX2_mapsOfKind_12 : decode cX2_mapsOfKind 12 = .ok (.invokevirtual 62, 3) := by decide +kernel
theorem dX2_mapsOfKind_15 : decode cX2_mapsOfKind 15 = .ok (.ifCond .eq 19, 3) := by decide +kernel
theorem dX2_mapsOfKind_18 : decode cX2_mapsOfKind 18 = .ok (.aload_n 0, 1) := by decide +kernel
theorem dX2_mapsOfKind_19 : decode cX2_mapsOfKind 19 = .ok (.getfield 11, 3) := by decide +kernel
theorem dX2_mapsOfKind_22 : decode cX2_mapsOfKind 22 = .ok (.iload_n 3, 1) := by decide +kernel
theorem dX2_mapsOfKind_23 : decode cX2_mapsOfKind 23 = .ok (.aaload, 1) := by decide +kernel
theorem dX2_mapsOfKind_24 : decode cX2_mapsOfKind 24 = .ok (.invokestatic 76, 3) := by decide +kernel
theorem dX2_mapsOfKind_27 : decode cX2_mapsOfKind 27 = .ok (.iload_n 1, 1) := by decide +kernel
theorem dX2_mapsOfKind_28 : decode cX2_mapsOfKind 28 = .ok (.if_icmp .ne 6, 3) := by decide +kernel
theorem dX2_mapsOfKind_31 : decode cX2_mapsOfKind 31 = .ok (.iinc 2 1, 3) := by decide +kernel
theorem dX2_mapsOfKind_34 : decode cX2_mapsOfKind 34 = .ok (.iinc 3 1, 3) := by decide +kernel
theorem dX2_mapsOfKind_37 : decode cX2_mapsOfKind 37 = .ok (.goto (-33), 3) := by decide +kernel
theorem dX2_mapsOfKind_40 : decode cX2_mapsOfKind 40 = .ok (.iload_n 2, 1) := by decide +kernel
theorem dX2_mapsOfKind_41 : decode cX2_mapsOfKind 41 = .ok (.ireturn, 1) := by decide +kernel
theorem dX2_kindOf_0 : decode cX2_kindOf 0 = .ok (.iconst 1, 1) := by decide +kernel
theorem dX2_kindOf_1 : decode cX2_kindOf 1 = .ok (.istore_n 1, 1) := by decide +kernel
theorem dX2_kindOf_2 : decode cX2_kindOf 2 = .ok (.iconst 1, 1) := by decide +kernel
theorem dX2_kindOf_3 : decode cX2_kindOf 3 = .ok (.istore_n 2, 1) := by decide +kernel
theorem dX2_kindOf_4 : decode cX2_kindOf 4 = .ok (.iconst 1, 1) := by decide +kernel
theorem dX2_kindOf_5 : decode cX2_kindOf 5 = .ok (.istore_n 3, 1) := by decide +kernel
theorem dX2_kindOf_6 : decode cX2_kindOf 6 = .ok (.iload_n 3, 1) := by decide +kernel
theorem dX2_kindOf_7 : decode cX2_kindOf 7 = .ok (.aload_n 0, 1) := by decide +kernel
theorem dX2_kindOf_8 : decode cX2_kindOf 8 = .ok (.getfield 35, 3) := by decide +kernel
theorem dX2_kindOf_11 : decode cX2_kindOf 11 = .ok (.if_icmp .ge 76, 3) := by decide +kernel
theorem dX2_kindOf_14 : decode cX2_kindOf 14 = .ok (.aload_n 0, 1) := by decide +kernel
theorem dX2_kindOf_15 : decode cX2_kindOf 15 = .ok (.iload_n 3, 1) := by decide +kernel
theorem dX2_kindOf_16 : decode cX2_kindOf 16 = .ok (.iconst 1, 1) := by decide +kernel
theorem dX2_kindOf_17 : decode cX2_kindOf 17 = .ok (.isub, 1) := by decide +kernel
theorem dX2_kindOf_18 : decode cX2_kindOf 18 = .ok (.invokevirtual 163, 3) := by decide +kernel
theorem dX2_kindOf_21 : decode cX2_kindOf 21 = .ok (.lstore 4, 2) := by decide +kernel
theorem dX2_kindOf_23 : decode cX2_kindOf 23 = .ok (.aload_n 0, 1) := by decide +kernel
theorem dX2_kindOf_24 : decode cX2_kindOf 24 = .ok (.iload_n 3, 1) := by decide +kernel
theorem dX2_kindOf_25 : decode cX2_kindOf 25 = .ok (.invokevirtual 167, 3) := by decide +kernel
theorem dX2_kindOf_28 : decode cX2_kindOf 28 = .ok (.lstore 6, 2) := by decide +kernel
theorem dX2_kindOf_30 : decode cX2_kindOf 30 = .ok (.iload_n 1, 1) := by decide +kernel
theorem dX2_kindOf_31 : decode cX2_kindOf 31 = .ok (.ifCond .eq 15, 3) := by decide +kernel
theorem dX2_kindOf_34 : decode cX2_kindOf 34 = .ok (.lload 6, 2) := by decide +kernel
theorem dX2_kindOf_36 : decode cX2_kindOf 36 = .ok (.lload 4, 2) := by decide +kernel
theorem dX2_kindOf_38 : decode cX2_kindOf 38 = .ok (.lcmp, 1) := by decide +kernel
theorem dX2_kindOf_39 : decode cX2_kindOf 39 = .ok (.ifCond .ne 7, 3) := by decide +kernel
theorem dX2_kindOf_42 : decode cX2_kindOf 42 = .ok (.iconst 1, 1) := by decide +kernel
theorem dX2_kindOf_43 : decode cX2_kindOf 43 = .ok (.goto 4, 3) := by decide +kernel
theorem dX2_kindOf_46 : decode cX2_kindOf 46 = .ok (.iconst 0, 1) := by decide +kernel
theorem dX2_kindOf_47 : decode cX2_kindOf 47 = .ok (.istore_n 1, 1) := by decide +kernel
theorem dX2_kindOf_48 : decode cX2_kindOf 48 = .ok (.iload_n 2, 1) := by decide +kernel
theorem dX2_kindOf_49 : decode cX2_kindOf 49 = .ok (.ifCond .eq 30, 3) := by decide +kernel
theorem dX2_kindOf_52 : decode cX2_kindOf 52 = .ok (.lload 6, 2) := by decide +kernel
theorem dX2_kindOf_54 : decode cX2_kindOf 54 = .ok (.lload 4, 2) := by decide +kernel
theorem dX2_kindOf_56 : decode cX2_kindOf 56 = .ok (.iconst 0, 1) := by decide +kernel
theorem dX2_kindOf_57 : decode cX2_kindOf 57 = .ok (.lconst 1, 1) := by decide +kernel
theorem dX2_kindOf_58 : decode cX2_kindOf 58 = .ok (.invokestatic 170, 3) := by decide +kernel
theorem dX2_kindOf_61 : decode cX2_kindOf 61 = .ok (.lcmp, 1) := by decide +kernel
theorem dX2_kindOf_62 : decode cX2_kindOf 62 = .ok (.ifCond .ne 7, 3) := by decide +kernel
theorem dX2_kindOf_65 : decode cX2_kindOf 65 = .ok (.lconst 0, 1) := by decide +kernel
theorem dX2_kindOf_66 : decode cX2_kindOf 66 = .ok (.goto 5, 3) := by decide +kernel
theorem dX2_kindOf_69 : decode cX2_kindOf 69 = .ok (.lload 4, 2) := by decide +kernel
theorem dX2_kindOf_71 : decode cX2_kindOf 71 = .ok (.lcmp, 1) := by decide +kernel
theorem dX2_kindOf_72 : decode cX2_kindOf 72 = .ok (.ifCond .ne 7, 3) := by decide +kernel
theorem dX2_kindOf_75 : decode cX2_kindOf 75 = .ok (.iconst 1, 1) := by decide +kernel
theorem dX2_kindOf_76 : decode cX2_kindOf 76 = .ok (.goto 4, 3) := by decide +kernel
theorem dX2_kindOf_79 : decode cX2_kindOf 79 = .ok (.iconst 0, 1) := by decide +kernel
theorem dX2_kindOf_80 : decode cX2_kindOf 80 = .ok (.istore_n 2, 1) := by decide +kernel
theorem dX2_kindOf_81 : decode cX2_kindOf 81 = .ok (.iinc 3 1, 3) := by decide +kernel
theorem dX2_kindOf_84 : decode cX2_kindOf 84 = .ok (.goto (-78), 3) := by decide +kernel
theorem dX2_kindOf_87 : decode cX2_kindOf 87 = .ok (.iload_n 1, 1) := by decide +kernel
theorem dX2_kindOf_88 : decode cX2_kindOf 88 = .ok (.ifCond .eq 5, 3) := by decide +kernel
theorem dX2_kindOf_91 : decode cX2_kindOf 91 = .ok (.iconst 0, 1) := by decide +kernel
theorem dX2_kindOf_92 : decode cX2_kindOf 92 = .ok (.ireturn, 1) := by decide +kernel
theorem dX2_kindOf_93 : decode cX2_kindOf 93 = .ok (.iload_n 2, 1) := by decide +kernel
theorem dX2_kindOf_94 : decode cX2_kindOf 94 = .ok (.ifCond .eq 7, 3) := by decide +kernel
theorem dX2_kindOf_97 : decode cX2_kindOf 97 = .ok (.iconst 1, 1) := by decide +kernel
theorem dX2_kindOf_98 : decode cX2_kindOf 98 = .ok (.goto 4, 3) := by decide +kernel
theorem dX2_kindOf_101 : decode cX2_kindOf 101 = .ok (.iconst 2, 1) := by decide +kernel
theorem dX2_kindOf_102 : decode cX2_kindOf 102 = .ok (.ireturn, 1) := by decide +kernel
theorem dX2_startOf_0 : decode cX2_startOf 0 = .ok (.lload_n 1, 1) := by decide +kernel
theorem dX2_startOf_1 : decode cX2_startOf 1 = .ok (.bipush 23, 2) := by decide +kernel
theorem dX2_startOf_3 : decode cX2_startOf 3 = .ok (.iload_n 0, 1) := by decide +kernel
theorem dX2_startOf_4 : decode cX2_startOf 4 = .ok (.isub, 1) := by decide +kernel
theorem dX2_startOf_5 : decode cX2_startOf 5 = .ok (.lshl, 1) := by decide +kernel
theorem dX2_startOf_6 : decode cX2_startOf 6 = .ok (.lreturn, 1) := by decide +kernel
theorem dX2_isCut_0 : decode cX2_isCut 0 = .ok (.lconst 0, 1) := by decide +kernel
theorem dX2_isCut_1 : decode cX2_isCut 1 = .ok (.lstore_n 1, 1) := by decide +kernel
theorem dX2_isCut_2 : decode cX2_isCut 2 = .ok (.iconst 0, 1) := by decide +kernel
theorem dX2_isCut_3 : decode cX2_isCut 3 = .ok (.istore_n 3, 1) := by decide +kernel
theorem dX2_isCut_4 : decode cX2_isCut 4 = .ok (.iload_n 3, 1) := by decide +kernel
theorem dX2_isCut_5 : decode cX2_isCut 5 = .ok (.aload_n 0, 1) := by decide +kernel
theorem dX2_isCut_6 : decode cX2_isCut 6 = .ok (.getfield 35, 3) := by decide +kernel
theorem dX2_isCut_9 : decode cX2_isCut 9 = .ok (.if_icmp .ge 39, 3) := by decide +kernel
theorem dX2_isCut_12 : decode cX2_isCut 12 = .ok (.aload_n 0, 1) := by decide +kernel
theorem dX2_isCut_13 : decode cX2_isCut 13 = .ok (.iload_n 3, 1) := by decide +kernel
theorem dX2_isCut_14 : decode cX2_isCut 14 = .ok (.invokevirtual 174, 3) := by decide +kernel
theorem dX2_isCut_17 : decode cX2_isCut 17 = .ok (.lload_n 1, 1) := by decide +kernel
theorem dX2_isCut_18 : decode cX2_isCut 18 = .ok (.lcmp, 1) := by decide +kernel
theorem dX2_isCut_19 : decode cX2_isCut 19 = .ok (.ifCond .eq 5, 3) := by decide +kernel
theorem dX2_isCut_22 : decode cX2_isCut 22 = .ok (.iconst 0, 1) := by decide +kernel
theorem dX2_isCut_23 : decode cX2_isCut 23 = .ok (.ireturn, 1) := by decide +kernel
theorem dX2_isCut_24 : decode cX2_isCut 24 = .ok (.aload_n 0, 1) := by decide +kernel
theorem dX2_isCut_25 : decode cX2_isCut 25 = .ok (.getfield 111, 3) := by decide +kernel
theorem dX2_isCut_28 : decode cX2_isCut 28 = .ok (.iload_n 3, 1) := by decide +kernel
theorem dX2_isCut_29 : decode cX2_isCut 29 = .ok (.iaload, 1) := by decide +kernel
theorem dX2_isCut_30 : decode cX2_isCut 30 = .ok (.aload_n 0, 1) := by decide +kernel
theorem dX2_isCut_31 : decode cX2_isCut 31 = .ok (.getfield 117, 3) := by decide +kernel
theorem dX2_isCut_34 : decode cX2_isCut 34 = .ok (.iload_n 3, 1) := by decide +kernel
theorem dX2_isCut_35 : decode cX2_isCut 35 = .ok (.laload, 1) := by decide +kernel
theorem dX2_isCut_36 : decode cX2_isCut 36 = .ok (.lconst 1, 1) := by decide +kernel
theorem dX2_isCut_37 : decode cX2_isCut 37 = .ok (.ladd, 1) := by decide +kernel
theorem dX2_isCut_38 : decode cX2_isCut 38 = .ok (.invokestatic 170, 3) := by decide +kernel
theorem dX2_isCut_41 : decode cX2_isCut 41 = .ok (.lstore_n 1, 1) := by decide +kernel
theorem dX2_isCut_42 : decode cX2_isCut 42 = .ok (.iinc 3 1, 3) := by decide +kernel
theorem dX2_isCut_45 : decode cX2_isCut 45 = .ok (.goto (-41), 3) := by decide +kernel
theorem dX2_isCut_48 : decode cX2_isCut 48 = .ok (.lload_n 1, 1) := by decide +kernel
theorem dX2_isCut_49 : decode cX2_isCut 49 = .ok (.iconst 0, 1) := by decide +kernel
theorem dX2_isCut_50 : decode cX2_isCut 50 = .ok (.lconst 1, 1) := by decide +kernel
theorem dX2_isCut_51 : decode cX2_isCut 51 = .ok (.invokestatic 170, 3) := by decide +kernel
theorem dX2_isCut_54 : decode cX2_isCut 54 = .ok (.lcmp, 1) := by decide +kernel
theorem dX2_isCut_55 : decode cX2_isCut 55 = .ok (.ifCond .ne 7, 3) := by decide +kernel
theorem dX2_isCut_58 : decode cX2_isCut 58 = .ok (.iconst 1, 1) := by decide +kernel
theorem dX2_isCut_59 : decode cX2_isCut 59 = .ok (.goto 4, 3) := by decide +kernel
theorem dX2_isCut_62 : decode cX2_isCut 62 = .ok (.iconst 0, 1) := by decide +kernel
theorem dX2_isCut_63 : decode cX2_isCut 63 = .ok (.ireturn, 1) := by decide +kernel
theorem dX2_areAlike_0 : decode cX2_areAlike 0 = .ok (.aload_n 0, 1) := by decide +kernel
theorem dX2_areAlike_1 : decode cX2_areAlike 1 = .ok (.getfield 35, 3) := by decide +kernel
theorem dX2_areAlike_4 : decode cX2_areAlike 4 = .ok (.aload_n 1, 1) := by decide +kernel
theorem dX2_areAlike_5 : decode cX2_areAlike 5 = .ok (.getfield 35, 3) := by decide +kernel
theorem dX2_areAlike_8 : decode cX2_areAlike 8 = .ok (.if_icmp .eq 5, 3) := by decide +kernel
theorem dX2_areAlike_11 : decode cX2_areAlike 11 = .ok (.iconst 0, 1) := by decide +kernel
theorem dX2_areAlike_12 : decode cX2_areAlike 12 = .ok (.ireturn, 1) := by decide +kernel
theorem dX2_areAlike_13 : decode cX2_areAlike 13 = .ok (.iconst 0, 1) := by decide +kernel
theorem dX2_areAlike_14 : decode cX2_areAlike 14 = .ok (.istore_n 2, 1) := by decide +kernel
theorem dX2_areAlike_15 : decode cX2_areAlike 15 = .ok (.iload_n 2, 1) := by decide +kernel
theorem dX2_areAlike_16 : decode cX2_areAlike 16 = .ok (.aload_n 0, 1) := by decide +kernel
theorem dX2_areAlike_17 : decode cX2_areAlike 17 = .ok (.getfield 35, 3) := by decide +kernel
theorem dX2_areAlike_20 : decode cX2_areAlike 20 = .ok (.if_icmp .ge 40, 3) := by decide +kernel
theorem dX2_areAlike_23 : decode cX2_areAlike 23 = .ok (.iconst 0, 1) := by decide +kernel
theorem dX2_areAlike_24 : decode cX2_areAlike 24 = .ok (.istore_n 3, 1) := by decide +kernel
theorem dX2_areAlike_25 : decode cX2_areAlike 25 = .ok (.iload_n 3, 1) := by decide +kernel
theorem dX2_areAlike_26 : decode cX2_areAlike 26 = .ok (.iconst 4, 1) := by decide +kernel
theorem dX2_areAlike_27 : decode cX2_areAlike 27 = .ok (.if_icmp .ge 27, 3) := by decide +kernel
theorem dX2_areAlike_30 : decode cX2_areAlike 30 = .ok (.aload_n 0, 1) := by decide +kernel
theorem dX2_areAlike_31 : decode cX2_areAlike 31 = .ok (.iload_n 2, 1) := by decide +kernel
theorem dX2_areAlike_32 : decode cX2_areAlike 32 = .ok (.iload_n 3, 1) := by decide +kernel
theorem dX2_areAlike_33 : decode cX2_areAlike 33 = .ok (.invokevirtual 80, 3) := by decide +kernel
theorem dX2_areAlike_36 : decode cX2_areAlike 36 = .ok (.aload_n 1, 1) := by decide +kernel
theorem dX2_areAlike_37 : decode cX2_areAlike 37 = .ok (.iload_n 2, 1) := by decide +kernel
theorem dX2_areAlike_38 : decode cX2_areAlike 38 = .ok (.iload_n 3, 1) := by decide +kernel
theorem dX2_areAlike_39 : decode cX2_areAlike 39 = .ok (.invokevirtual 80, 3) := by decide +kernel
theorem dX2_areAlike_42 : decode cX2_areAlike 42 = .ok (.lcmp, 1) := by decide +kernel
theorem dX2_areAlike_43 : decode cX2_areAlike 43 = .ok (.ifCond .eq 5, 3) := by decide +kernel
theorem dX2_areAlike_46 : decode cX2_areAlike 46 = .ok (.iconst 0, 1) := by decide +kernel
theorem dX2_areAlike_47 : decode cX2_areAlike 47 = .ok (.ireturn, 1) := by decide +kernel
theorem dX2_areAlike_48 : decode cX2_areAlike 48 = .ok (.iinc 3 1, 3) := by decide +kernel
theorem dX2_areAlike_51 : decode cX2_areAlike 51 = .ok (.goto (-26), 3) := by decide +kernel
theorem dX2_areAlike_54 : decode cX2_areAlike 54 = .ok (.iinc 2 1, 3) := by decide +kernel
theorem dX2_areAlike_57 : decode cX2_areAlike 57 = .ok (.goto (-42), 3) := by decide +kernel
theorem dX2_areAlike_60 : decode cX2_areAlike 60 = .ok (.iconst 1, 1) := by decide +kernel
theorem dX2_areAlike_61 : decode cX2_areAlike 61 = .ok (.ireturn, 1) := by decide +kernel
theorem dX2_putCopy_0 : decode cX2_putCopy 0 = .ok (.aload_n 1, 1) := by decide +kernel
theorem dX2_putCopy_1 : decode cX2_putCopy 1 = .ok (.iconst 0, 1) := by decide +kernel
theorem dX2_putCopy_2 : decode cX2_putCopy 2 = .ok (.putfield 35, 3) := by decide +kernel
theorem dX2_putCopy_5 : decode cX2_putCopy 5 = .ok (.iconst 0, 1) := by decide +kernel
theorem dX2_putCopy_6 : decode cX2_putCopy 6 = .ok (.istore_n 2, 1) := by decide +kernel
theorem dX2_putCopy_7 : decode cX2_putCopy 7 = .ok (.iload_n 2, 1) := by decide +kernel
theorem dX2_putCopy_8 : decode cX2_putCopy 8 = .ok (.aload_n 0, 1) := by decide +kernel
theorem dX2_putCopy_9 : decode cX2_putCopy 9 = .ok (.getfield 35, 3) := by decide +kernel
theorem dX2_putCopy_12 : decode cX2_putCopy 12 = .ok (.if_icmp .ge 37, 3) := by decide +kernel
theorem dX2_putCopy_15 : decode cX2_putCopy 15 = .ok (.aload_n 1, 1) := by decide +kernel
theorem dX2_putCopy_16 : decode cX2_putCopy 16 = .ok (.aload_n 0, 1) := by decide +kernel
theorem dX2_putCopy_17 : decode cX2_putCopy 17 = .ok (.getfield 111, 3) := by decide +kernel
theorem dX2_putCopy_20 : decode cX2_putCopy 20 = .ok (.iload_n 2, 1) := by decide +kernel
theorem dX2_putCopy_21 : decode cX2_putCopy 21 = .ok (.iaload, 1) := by decide +kernel
theorem dX2_putCopy_22 : decode cX2_putCopy 22 = .ok (.aload_n 0, 1) := by decide +kernel
theorem dX2_putCopy_23 : decode cX2_putCopy 23 = .ok (.getfield 117, 3) := by decide +kernel
theorem dX2_putCopy_26 : decode cX2_putCopy 26 = .ok (.iload_n 2, 1) := by decide +kernel
theorem dX2_putCopy_27 : decode cX2_putCopy 27 = .ok (.laload, 1) := by decide +kernel
theorem dX2_putCopy_28 : decode cX2_putCopy 28 = .ok (.aload_n 0, 1) := by decide +kernel
theorem dX2_putCopy_29 : decode cX2_putCopy 29 = .ok (.getfield 114, 3) := by decide +kernel
theorem dX2_putCopy_32 : decode cX2_putCopy 32 = .ok (.iload_n 2, 1) := by decide +kernel
theorem dX2_putCopy_33 : decode cX2_putCopy 33 = .ok (.iaload, 1) := by decide +kernel
theorem dX2_putCopy_34 : decode cX2_putCopy 34 = .ok (.aload_n 0, 1) := by decide +kernel
theorem dX2_putCopy_35 : decode cX2_putCopy 35 = .ok (.getfield 121, 3) := by decide +kernel
theorem dX2_putCopy_38 : decode cX2_putCopy 38 = .ok (.iload_n 2, 1) := by decide +kernel
theorem dX2_putCopy_39 : decode cX2_putCopy 39 = .ok (.laload, 1) := by decide +kernel
theorem dX2_putCopy_40 : decode cX2_putCopy 40 = .ok (.invokevirtual 39, 3) := by decide +kernel
theorem dX2_putCopy_43 : decode cX2_putCopy 43 = .ok (.iinc 2 1, 3) := by decide +kernel
theorem dX2_putCopy_46 : decode cX2_putCopy 46 = .ok (.goto (-39), 3) := by decide +kernel
theorem dX2_putCopy_49 : decode cX2_putCopy 49 = .ok (.return_, 1) := by decide +kernel
theorem dX2_putReduced_0 : decode cX2_putReduced 0 = .ok (.aload_n 1, 1) := by decide +kernel
theorem dX2_putReduced_1 : decode cX2_putReduced 1 = .ok (.iconst 0, 1) := by decide +kernel
theorem dX2_putReduced_2 : decode cX2_putReduced 2 = .ok (.putfield 35, 3) := by decide +kernel
theorem dX2_putReduced_5 : decode cX2_putReduced 5 = .ok (.iconst 0, 1) := by decide +kernel
theorem dX2_putReduced_6 : decode cX2_putReduced 6 = .ok (.istore_n 2, 1) := by decide +kernel
theorem dX2_putReduced_7 : decode cX2_putReduced 7 = .ok (.iload_n 2, 1) := by decide +kernel
theorem dX2_putReduced_8 : decode cX2_putReduced 8 = .ok (.aload_n 0, 1) := by decide +kernel
theorem dX2_putReduced_9 : decode cX2_putReduced 9 = .ok (.getfield 35, 3) := by decide +kernel
theorem dX2_putReduced_12 : decode cX2_putReduced 12 = .ok (.if_icmp .ge 37, 3) := by decide +kernel
theorem dX2_putReduced_15 : decode cX2_putReduced 15 = .ok (.aload_n 1, 1) := by decide +kernel
theorem dX2_putReduced_16 : decode cX2_putReduced 16 = .ok (.aload_n 0, 1) := by decide +kernel
theorem dX2_putReduced_17 : decode cX2_putReduced 17 = .ok (.getfield 111, 3) := by decide +kernel
theorem dX2_putReduced_20 : decode cX2_putReduced 20 = .ok (.iload_n 2, 1) := by decide +kernel
theorem dX2_putReduced_21 : decode cX2_putReduced 21 = .ok (.iaload, 1) := by decide +kernel
theorem dX2_putReduced_22 : decode cX2_putReduced 22 = .ok (.aload_n 0, 1) := by decide +kernel
theorem dX2_putReduced_23 : decode cX2_putReduced 23 = .ok (.getfield 117, 3) := by decide +kernel
theorem dX2_putReduced_26 : decode cX2_putReduced 26 = .ok (.iload_n 2, 1) := by decide +kernel
theorem dX2_putReduced_27 : decode cX2_putReduced 27 = .ok (.laload, 1) := by decide +kernel
theorem dX2_putReduced_28 : decode cX2_putReduced 28 = .ok (.aload_n 0, 1) := by decide +kernel
theorem dX2_putReduced_29 : decode cX2_putReduced 29 = .ok (.getfield 114, 3) := by decide +kernel
theorem dX2_putReduced_32 : decode cX2_putReduced 32 = .ok (.iload_n 2, 1) := by decide +kernel
theorem dX2_putReduced_33 : decode cX2_putReduced 33 = .ok (.iaload, 1) := by decide +kernel
theorem dX2_putReduced_34 : decode cX2_putReduced 34 = .ok (.aload_n 0, 1) := by decide +kernel
theorem dX2_putReduced_35 : decode cX2_putReduced 35 = .ok (.getfield 121, 3) := by decide +kernel
theorem dX2_putReduced_38 : decode cX2_putReduced 38 = .ok (.iload_n 2, 1) := by decide +kernel
theorem dX2_putReduced_39 : decode cX2_putReduced 39 = .ok (.laload, 1) := by decide +kernel
theorem dX2_putReduced_40 : decode cX2_putReduced 40 = .ok (.invokevirtual 177, 3) := by decide +kernel
theorem dX2_putReduced_43 : decode cX2_putReduced 43 = .ok (.iinc 2 1, 3) := by decide +kernel
theorem dX2_putReduced_46 : decode cX2_putReduced 46 = .ok (.goto (-39), 3) := by decide +kernel
theorem dX2_putReduced_49 : decode cX2_putReduced 49 = .ok (.return_, 1) := by decide +kernel
theorem dX2_putTurned_0 : decode cX2_putTurned 0 = .ok (.aload_n 1, 1) := by decide +kernel
theorem dX2_putTurned_1 : decode cX2_putTurned 1 = .ok (.iconst 0, 1) := by decide +kernel
theorem dX2_putTurned_2 : decode cX2_putTurned 2 = .ok (.putfield 35, 3) := by decide +kernel
theorem dX2_putTurned_5 : decode cX2_putTurned 5 = .ok (.iconst 0, 1) := by decide +kernel
theorem dX2_putTurned_6 : decode cX2_putTurned 6 = .ok (.istore_n 2, 1) := by decide +kernel
theorem dX2_putTurned_7 : decode cX2_putTurned 7 = .ok (.iload_n 2, 1) := by decide +kernel
theorem dX2_putTurned_8 : decode cX2_putTurned 8 = .ok (.aload_n 0, 1) := by decide +kernel
theorem dX2_putTurned_9 : decode cX2_putTurned 9 = .ok (.getfield 35, 3) := by decide +kernel
theorem dX2_putTurned_12 : decode cX2_putTurned 12 = .ok (.if_icmp .ge 41, 3) := by decide +kernel
theorem dX2_putTurned_15 : decode cX2_putTurned 15 = .ok (.aload_n 1, 1) := by decide +kernel
theorem dX2_putTurned_16 : decode cX2_putTurned 16 = .ok (.aload_n 0, 1) := by decide +kernel
theorem dX2_putTurned_17 : decode cX2_putTurned 17 = .ok (.getfield 114, 3) := by decide +kernel
theorem dX2_putTurned_20 : decode cX2_putTurned 20 = .ok (.iload_n 2, 1) := by decide +kernel
theorem dX2_putTurned_21 : decode cX2_putTurned 21 = .ok (.iaload, 1) := by decide +kernel
theorem dX2_putTurned_22 : decode cX2_putTurned 22 = .ok (.aload_n 0, 1) := by decide +kernel
theorem dX2_putTurned_23 : decode cX2_putTurned 23 = .ok (.getfield 121, 3) := by decide +kernel
theorem dX2_putTurned_26 : decode cX2_putTurned 26 = .ok (.iload_n 2, 1) := by decide +kernel
theorem dX2_putTurned_27 : decode cX2_putTurned 27 = .ok (.laload, 1) := by decide +kernel
theorem dX2_putTurned_28 : decode cX2_putTurned 28 = .ok (.aload_n 0, 1) := by decide +kernel
theorem dX2_putTurned_29 : decode cX2_putTurned 29 = .ok (.getfield 111, 3) := by decide +kernel
theorem dX2_putTurned_32 : decode cX2_putTurned 32 = .ok (.iload_n 2, 1) := by decide +kernel
theorem dX2_putTurned_33 : decode cX2_putTurned 33 = .ok (.iaload, 1) := by decide +kernel
theorem dX2_putTurned_34 : decode cX2_putTurned 34 = .ok (.aload_n 0, 1) := by decide +kernel
theorem dX2_putTurned_35 : decode cX2_putTurned 35 = .ok (.getfield 117, 3) := by decide +kernel
theorem dX2_putTurned_38 : decode cX2_putTurned 38 = .ok (.iload_n 2, 1) := by decide +kernel
theorem dX2_putTurned_39 : decode cX2_putTurned 39 = .ok (.laload, 1) := by decide +kernel
theorem dX2_putTurned_40 : decode cX2_putTurned 40 = .ok (.invokevirtual 39, 3) := by decide +kernel
theorem dX2_putTurned_43 : decode cX2_putTurned 43 = .ok (.aload_n 1, 1) := by decide +kernel
theorem dX2_putTurned_44 : decode cX2_putTurned 44 = .ok (.invokevirtual 180, 3) := by decide +kernel
theorem dX2_putTurned_47 : decode cX2_putTurned 47 = .ok (.iinc 2 1, 3) := by decide +kernel
theorem dX2_putTurned_50 : decode cX2_putTurned 50 = .ok (.goto (-43), 3) := by decide +kernel
theorem dX2_putTurned_53 : decode cX2_putTurned 53 = .ok (.return_, 1) := by decide +kernel
theorem dX2_putStrong_0 : decode cX2_putStrong 0 = .ok (.aload_n 1, 1) := by decide +kernel
theorem dX2_putStrong_1 : decode cX2_putStrong 1 = .ok (.iconst 0, 1) := by decide +kernel
theorem dX2_putStrong_2 : decode cX2_putStrong 2 = .ok (.putfield 35, 3) := by decide +kernel
theorem dX2_putStrong_5 : decode cX2_putStrong 5 = .ok (.iconst 1, 1) := by decide +kernel
theorem dX2_putStrong_6 : decode cX2_putStrong 6 = .ok (.istore_n 2, 1) := by decide +kernel
theorem dX2_putStrong_7 : decode cX2_putStrong 7 = .ok (.iload_n 2, 1) := by decide +kernel
theorem dX2_putStrong_8 : decode cX2_putStrong 8 = .ok (.iload_n 0, 1) := by decide +kernel
theorem dX2_putStrong_9 : decode cX2_putStrong 9 = .ok (.if_icmp .gt 25, 3) := by decide +kernel
theorem dX2_putStrong_12 : decode cX2_putStrong 12 = .ok (.lconst 1, 1) := by decide +kernel
theorem dX2_putStrong_13 : decode cX2_putStrong 13 = .ok (.iload_n 2, 1) := by decide +kernel
theorem dX2_putStrong_14 : decode cX2_putStrong 14 = .ok (.lshl, 1) := by decide +kernel
theorem dX2_putStrong_15 : decode cX2_putStrong 15 = .ok (.ldc2_w 183, 3) := by decide +kernel
theorem dX2_putStrong_18 : decode cX2_putStrong 18 = .ok (.lsub, 1) := by decide +kernel
theorem dX2_putStrong_19 : decode cX2_putStrong 19 = .ok (.lstore_n 3, 1) := by decide +kernel
theorem dX2_putStrong_20 : decode cX2_putStrong 20 = .ok (.aload_n 1, 1) := by decide +kernel
theorem dX2_putStrong_21 : decode cX2_putStrong 21 = .ok (.iload_n 2, 1) := by decide +kernel
theorem dX2_putStrong_22 : decode cX2_putStrong 22 = .ok (.lload_n 3, 1) := by decide +kernel
theorem dX2_putStrong_23 : decode cX2_putStrong 23 = .ok (.iload_n 2, 1) := by decide +kernel
theorem dX2_putStrong_24 : decode cX2_putStrong 24 = .ok (.lload_n 3, 1) := by decide +kernel
theorem dX2_putStrong_25 : decode cX2_putStrong 25 = .ok (.invokevirtual 39, 3) := by decide +kernel
theorem dX2_putStrong_28 : decode cX2_putStrong 28 = .ok (.iinc 2 1, 3) := by decide +kernel
theorem dX2_putStrong_31 : decode cX2_putStrong 31 = .ok (.goto (-24), 3) := by decide +kernel
theorem dX2_putStrong_34 : decode cX2_putStrong 34 = .ok (.lconst 1, 1) := by decide +kernel
theorem dX2_putStrong_35 : decode cX2_putStrong 35 = .ok (.iload_n 0, 1) := by decide +kernel
theorem dX2_putStrong_36 : decode cX2_putStrong 36 = .ok (.lshl, 1) := by decide +kernel
theorem dX2_putStrong_37 : decode cX2_putStrong 37 = .ok (.lconst 1, 1) := by decide +kernel
theorem dX2_putStrong_38 : decode cX2_putStrong 38 = .ok (.lsub, 1) := by decide +kernel
theorem dX2_putStrong_39 : decode cX2_putStrong 39 = .ok (.lstore_n 2, 1) := by decide +kernel
theorem dX2_putStrong_40 : decode cX2_putStrong 40 = .ok (.aload_n 1, 1) := by decide +kernel
theorem dX2_putStrong_41 : decode cX2_putStrong 41 = .ok (.iload_n 0, 1) := by decide +kernel
theorem dX2_putStrong_42 : decode cX2_putStrong 42 = .ok (.iconst 1, 1) := by decide +kernel
theorem dX2_putStrong_43 : decode cX2_putStrong 43 = .ok (.iadd, 1) := by decide +kernel
theorem dX2_putStrong_44 : decode cX2_putStrong 44 = .ok (.ldc2_w 183, 3) := by decide +kernel
theorem dX2_putStrong_47 : decode cX2_putStrong 47 = .ok (.lload_n 2, 1) := by decide +kernel
theorem dX2_putStrong_48 : decode cX2_putStrong 48 = .ok (.lmul, 1) := by decide +kernel
theorem dX2_putStrong_49 : decode cX2_putStrong 49 = .ok (.iload_n 0, 1) := by decide +kernel
theorem dX2_putStrong_50 : decode cX2_putStrong 50 = .ok (.iconst 2, 1) := by decide +kernel
theorem dX2_putStrong_51 : decode cX2_putStrong 51 = .ok (.iadd, 1) := by decide +kernel
theorem dX2_putStrong_52 : decode cX2_putStrong 52 = .ok (.ldc2_w 185, 3) := by decide +kernel
theorem dX2_putStrong_55 : decode cX2_putStrong 55 = .ok (.lload_n 2, 1) := by decide +kernel
theorem dX2_putStrong_56 : decode cX2_putStrong 56 = .ok (.lmul, 1) := by decide +kernel
theorem dX2_putStrong_57 : decode cX2_putStrong 57 = .ok (.invokevirtual 39, 3) := by decide +kernel
theorem dX2_putStrong_60 : decode cX2_putStrong 60 = .ok (.aload_n 1, 1) := by decide +kernel
theorem dX2_putStrong_61 : decode cX2_putStrong 61 = .ok (.iload_n 0, 1) := by decide +kernel
theorem dX2_putStrong_62 : decode cX2_putStrong 62 = .ok (.iconst 2, 1) := by decide +kernel
theorem dX2_putStrong_63 : decode cX2_putStrong 63 = .ok (.iadd, 1) := by decide +kernel
theorem dX2_putStrong_64 : decode cX2_putStrong 64 = .ok (.ldc2_w 185, 3) := by decide +kernel
theorem dX2_putStrong_67 : decode cX2_putStrong 67 = .ok (.lload_n 2, 1) := by decide +kernel
theorem dX2_putStrong_68 : decode cX2_putStrong 68 = .ok (.lmul, 1) := by decide +kernel
theorem dX2_putStrong_69 : decode cX2_putStrong 69 = .ok (.ldc2_w 183, 3) := by decide +kernel
theorem dX2_putStrong_72 : decode cX2_putStrong 72 = .ok (.ladd, 1) := by decide +kernel
theorem dX2_putStrong_73 : decode cX2_putStrong 73 = .ok (.iload_n 0, 1) := by decide +kernel
theorem dX2_putStrong_74 : decode cX2_putStrong 74 = .ok (.iconst 2, 1) := by decide +kernel
theorem dX2_putStrong_75 : decode cX2_putStrong 75 = .ok (.iadd, 1) := by decide +kernel
theorem dX2_putStrong_76 : decode cX2_putStrong 76 = .ok (.ldc2_w 185, 3) := by decide +kernel
theorem dX2_putStrong_79 : decode cX2_putStrong 79 = .ok (.lload_n 2, 1) := by decide +kernel
theorem dX2_putStrong_80 : decode cX2_putStrong 80 = .ok (.lmul, 1) := by decide +kernel
theorem dX2_putStrong_81 : decode cX2_putStrong 81 = .ok (.lconst 1, 1) := by decide +kernel
theorem dX2_putStrong_82 : decode cX2_putStrong 82 = .ok (.ladd, 1) := by decide +kernel
theorem dX2_putStrong_83 : decode cX2_putStrong 83 = .ok (.invokevirtual 39, 3) := by decide +kernel
theorem dX2_putStrong_86 : decode cX2_putStrong 86 = .ok (.aload_n 1, 1) := by decide +kernel
theorem dX2_putStrong_87 : decode cX2_putStrong 87 = .ok (.iload_n 0, 1) := by decide +kernel
theorem dX2_putStrong_88 : decode cX2_putStrong 88 = .ok (.iconst 2, 1) := by decide +kernel
theorem dX2_putStrong_89 : decode cX2_putStrong 89 = .ok (.iadd, 1) := by decide +kernel
theorem dX2_putStrong_90 : decode cX2_putStrong 90 = .ok (.ldc2_w 185, 3) := by decide +kernel
theorem dX2_putStrong_93 : decode cX2_putStrong 93 = .ok (.lload_n 2, 1) := by decide +kernel
theorem dX2_putStrong_94 : decode cX2_putStrong 94 = .ok (.lmul, 1) := by decide +kernel
theorem dX2_putStrong_95 : decode cX2_putStrong 95 = .ok (.ldc2_w 187, 3) := by decide +kernel
theorem dX2_putStrong_98 : decode cX2_putStrong 98 = .ok (.ladd, 1) := by decide +kernel
theorem dX2_putStrong_99 : decode cX2_putStrong 99 = .ok (.iload_n 0, 1) := by decide +kernel
theorem dX2_putStrong_100 : decode cX2_putStrong 100 = .ok (.iconst 1, 1) := by decide +kernel
theorem dX2_putStrong_101 : decode cX2_putStrong 101 = .ok (.iadd, 1) := by decide +kernel
theorem dX2_putStrong_102 : decode cX2_putStrong 102 = .ok (.ldc2_w 183, 3) := by decide +kernel
theorem dX2_putStrong_105 : decode cX2_putStrong 105 = .ok (.lload_n 2, 1) := by decide +kernel
theorem dX2_putStrong_106 : decode cX2_putStrong 106 = .ok (.lmul, 1) := by decide +kernel
theorem dX2_putStrong_107 : decode cX2_putStrong 107 = .ok (.lconst 1, 1) := by decide +kernel
theorem dX2_putStrong_108 : decode cX2_putStrong 108 = .ok (.ladd, 1) := by decide +kernel
theorem dX2_putStrong_109 : decode cX2_putStrong 109 = .ok (.invokevirtual 39, 3) := by decide +kernel
theorem dX2_putStrong_112 : decode cX2_putStrong 112 = .ok (.return_, 1) := by decide +kernel
theorem dX2_putBehind_0 : decode cX2_putBehind 0 = .ok (.aload_n 2, 1) := by decide +kernel
theorem dX2_putBehind_1 : decode cX2_putBehind 1 = .ok (.iconst 0, 1) := by decide +kernel
theorem dX2_putBehind_2 : decode cX2_putBehind 2 = .ok (.putfield 35, 3) := by decide +kernel
theorem dX2_putBehind_5 : decode cX2_putBehind 5 = .ok (.iconst 0, 1) := by decide +kernel
theorem dX2_putBehind_6 : decode cX2_putBehind 6 = .ok (.istore_n 3, 1) := by decide +kernel
theorem dX2_putBehind_7 : decode cX2_putBehind 7 = .ok (.iload_n 3, 1) := by decide +kernel
theorem dX2_putBehind_8 : decode cX2_putBehind 8 = .ok (.aload_n 0, 1) := by decide +kernel
theorem dX2_putBehind_9 : decode cX2_putBehind 9 = .ok (.getfield 35, 3) := by decide +kernel
theorem dX2_putBehind_12 : decode cX2_putBehind 12 = .ok (.if_icmp .ge 67, 3) := by decide +kernel
theorem dX2_putBehind_15 : decode cX2_putBehind 15 = .ok (.aload_n 0, 1) := by decide +kernel
theorem dX2_putBehind_16 : decode cX2_putBehind 16 = .ok (.iload_n 3, 1) := by decide +kernel
theorem dX2_putBehind_17 : decode cX2_putBehind 17 = .ok (.invokevirtual 163, 3) := by decide +kernel
theorem dX2_putBehind_20 : decode cX2_putBehind 20 = .ok (.lstore 4, 2) := by decide +kernel
theorem dX2_putBehind_22 : decode cX2_putBehind 22 = .ok (.aload_n 1, 1) := by decide +kernel
theorem dX2_putBehind_23 : decode cX2_putBehind 23 = .ok (.aload_n 0, 1) := by decide +kernel
theorem dX2_putBehind_24 : decode cX2_putBehind 24 = .ok (.iload_n 3, 1) := by decide +kernel
theorem dX2_putBehind_25 : decode cX2_putBehind 25 = .ok (.invokevirtual 167, 3) := by decide +kernel
theorem dX2_putBehind_28 : decode cX2_putBehind 28 = .ok (.invokevirtual 107, 3) := by decide +kernel
theorem dX2_putBehind_31 : decode cX2_putBehind 31 = .ok (.istore 6, 2) := by decide +kernel
theorem dX2_putBehind_33 : decode cX2_putBehind 33 = .ok (.iload 6, 2) := by decide +kernel
theorem dX2_putBehind_35 : decode cX2_putBehind 35 = .ok (.istore 7, 2) := by decide +kernel
theorem dX2_putBehind_37 : decode cX2_putBehind 37 = .ok (.iload 7, 2) := by decide +kernel
theorem dX2_putBehind_39 : decode cX2_putBehind 39 = .ok (.aload_n 1, 1) := by decide +kernel
theorem dX2_putBehind_40 : decode cX2_putBehind 40 = .ok (.getfield 35, 3) := by decide +kernel
theorem dX2_putBehind_43 : decode cX2_putBehind 43 = .ok (.if_icmp .ge 30, 3) := by decide +kernel
theorem dX2_putBehind_46 : decode cX2_putBehind 46 = .ok (.aload_n 1, 1) := by decide +kernel
theorem dX2_putBehind_47 : decode cX2_putBehind 47 = .ok (.iload 7, 2) := by decide +kernel
theorem dX2_putBehind_49 : decode cX2_putBehind 49 = .ok (.invokevirtual 174, 3) := by decide +kernel
theorem dX2_putBehind_52 : decode cX2_putBehind 52 = .ok (.lload 4, 2) := by decide +kernel
theorem dX2_putBehind_54 : decode cX2_putBehind 54 = .ok (.lcmp, 1) := by decide +kernel
theorem dX2_putBehind_55 : decode cX2_putBehind 55 = .ok (.ifCond .ge 18, 3) := by decide +kernel
theorem dX2_putBehind_58 : decode cX2_putBehind 58 = .ok (.aload_n 0, 1) := by decide +kernel
theorem dX2_putBehind_59 : decode cX2_putBehind 59 = .ok (.iload_n 3, 1) := by decide +kernel
theorem dX2_putBehind_60 : decode cX2_putBehind 60 = .ok (.aload_n 1, 1) := by decide +kernel
theorem dX2_putBehind_61 : decode cX2_putBehind 61 = .ok (.iload 7, 2) := by decide +kernel
theorem dX2_putBehind_63 : decode cX2_putBehind 63 = .ok (.aload_n 2, 1) := by decide +kernel
theorem dX2_putBehind_64 : decode cX2_putBehind 64 = .ok (.invokestatic 189, 3) := by decide +kernel
theorem dX2_putBehind_67 : decode cX2_putBehind 67 = .ok (.iinc 7 1, 3) := by decide +kernel
theorem dX2_putBehind_70 : decode cX2_putBehind 70 = .ok (.goto (-33), 3) := by decide +kernel
theorem dX2_putBehind_73 : decode cX2_putBehind 73 = .ok (.iinc 3 1, 3) := by decide +kernel
theorem dX2_putBehind_76 : decode cX2_putBehind 76 = .ok (.goto (-69), 3) := by decide +kernel
theorem dX2_putBehind_79 : decode cX2_putBehind 79 = .ok (.return_, 1) := by decide +kernel
theorem dX2_putPiece_0 : decode cX2_putPiece 0 = .ok (.aload_n 2, 1) := by decide +kernel
theorem dX2_putPiece_1 : decode cX2_putPiece 1 = .ok (.getfield 111, 3) := by decide +kernel
theorem dX2_putPiece_4 : decode cX2_putPiece 4 = .ok (.iload_n 3, 1) := by decide +kernel
theorem dX2_putPiece_5 : decode cX2_putPiece 5 = .ok (.iaload, 1) := by decide +kernel
theorem dX2_putPiece_6 : decode cX2_putPiece 6 = .ok (.aload_n 0, 1) := by decide +kernel
theorem dX2_putPiece_7 : decode cX2_putPiece 7 = .ok (.getfield 114, 3) := by decide +kernel
theorem dX2_putPiece_10 : decode cX2_putPiece 10 = .ok (.iload_n 1, 1) := by decide +kernel
theorem dX2_putPiece_11 : decode cX2_putPiece 11 = .ok (.iaload, 1) := by decide +kernel
theorem dX2_putPiece_12 : decode cX2_putPiece 12 = .ok (.isub, 1) := by decide +kernel
theorem dX2_putPiece_13 : decode cX2_putPiece 13 = .ok (.istore 5, 2) := by decide +kernel
theorem dX2_putPiece_15 : decode cX2_putPiece 15 = .ok (.iload 5, 2) := by decide +kernel
theorem dX2_putPiece_17 : decode cX2_putPiece 17 = .ok (.ifCond .lt 62, 3) := by decide +kernel
theorem dX2_putPiece_20 : decode cX2_putPiece 20 = .ok (.aload_n 2, 1) := by decide +kernel
theorem dX2_putPiece_21 : decode cX2_putPiece 21 = .ok (.getfield 117, 3) := by decide +kernel
theorem dX2_putPiece_24 : decode cX2_putPiece 24 = .ok (.iload_n 3, 1) := by decide +kernel
theorem dX2_putPiece_25 : decode cX2_putPiece 25 = .ok (.laload, 1) := by decide +kernel
theorem dX2_putPiece_26 : decode cX2_putPiece 26 = .ok (.aload_n 0, 1) := by decide +kernel
theorem dX2_putPiece_27 : decode cX2_putPiece 27 = .ok (.getfield 121, 3) := by decide +kernel
theorem dX2_putPiece_30 : decode cX2_putPiece 30 = .ok (.iload_n 1, 1) := by decide +kernel
theorem dX2_putPiece_31 : decode cX2_putPiece 31 = .ok (.laload, 1) := by decide +kernel
theorem dX2_putPiece_32 : decode cX2_putPiece 32 = .ok (.iload 5, 2) := by decide +kernel
theorem dX2_putPiece_34 : decode cX2_putPiece 34 = .ok (.lshl, 1) := by decide +kernel
theorem dX2_putPiece_35 : decode cX2_putPiece 35 = .ok (.lsub, 1) := by decide +kernel
theorem dX2_putPiece_36 : decode cX2_putPiece 36 = .ok (.lstore 6, 2) := by decide +kernel
theorem dX2_putPiece_38 : decode cX2_putPiece 38 = .ok (.aload 4, 2) := by decide +kernel
theorem dX2_putPiece_40 : decode cX2_putPiece 40 = .ok (.aload_n 0, 1) := by decide +kernel
theorem dX2_putPiece_41 : decode cX2_putPiece 41 = .ok (.getfield 111, 3) := by decide +kernel
theorem dX2_putPiece_44 : decode cX2_putPiece 44 = .ok (.iload_n 1, 1) := by decide +kernel
theorem dX2_putPiece_45 : decode cX2_putPiece 45 = .ok (.iaload, 1) := by decide +kernel
theorem dX2_putPiece_46 : decode cX2_putPiece 46 = .ok (.iload 5, 2) := by decide +kernel
theorem dX2_putPiece_48 : decode cX2_putPiece 48 = .ok (.iadd, 1) := by decide +kernel
theorem dX2_putPiece_49 : decode cX2_putPiece 49 = .ok (.aload_n 0, 1) := by decide +kernel
theorem dX2_putPiece_50 : decode cX2_putPiece 50 = .ok (.getfield 117, 3) := by decide +kernel
theorem dX2_putPiece_53 : decode cX2_putPiece 53 = .ok (.iload_n 1, 1) := by decide +kernel
theorem dX2_putPiece_54 : decode cX2_putPiece 54 = .ok (.laload, 1) := by decide +kernel
theorem dX2_putPiece_55 : decode cX2_putPiece 55 = .ok (.iload 5, 2) := by decide +kernel
theorem dX2_putPiece_57 : decode cX2_putPiece 57 = .ok (.lshl, 1) := by decide +kernel
theorem dX2_putPiece_58 : decode cX2_putPiece 58 = .ok (.lload 6, 2) := by decide +kernel
theorem dX2_putPiece_60 : decode cX2_putPiece 60 = .ok (.ladd, 1) := by decide +kernel
theorem dX2_putPiece_61 : decode cX2_putPiece 61 = .ok (.aload_n 2, 1) := by decide +kernel
theorem dX2_putPiece_62 : decode cX2_putPiece 62 = .ok (.getfield 114, 3) := by decide +kernel
theorem dX2_putPiece_65 : decode cX2_putPiece 65 = .ok (.iload_n 3, 1) := by decide +kernel
theorem dX2_putPiece_66 : decode cX2_putPiece 66 = .ok (.iaload, 1) := by decide +kernel
theorem dX2_putPiece_67 : decode cX2_putPiece 67 = .ok (.aload_n 2, 1) := by decide +kernel
theorem dX2_putPiece_68 : decode cX2_putPiece 68 = .ok (.getfield 121, 3) := by decide +kernel
theorem dX2_putPiece_71 : decode cX2_putPiece 71 = .ok (.iload_n 3, 1) := by decide +kernel
theorem dX2_putPiece_72 : decode cX2_putPiece 72 = .ok (.laload, 1) := by decide +kernel
theorem dX2_putPiece_73 : decode cX2_putPiece 73 = .ok (.invokevirtual 177, 3) := by decide +kernel
theorem dX2_putPiece_76 : decode cX2_putPiece 76 = .ok (.goto 61, 3) := by decide +kernel
theorem dX2_putPiece_79 : decode cX2_putPiece 79 = .ok (.aload_n 0, 1) := by decide +kernel
theorem dX2_putPiece_80 : decode cX2_putPiece 80 = .ok (.getfield 121, 3) := by decide +kernel
theorem dX2_putPiece_83 : decode cX2_putPiece 83 = .ok (.iload_n 1, 1) := by decide +kernel
theorem dX2_putPiece_84 : decode cX2_putPiece 84 = .ok (.laload, 1) := by decide +kernel
theorem dX2_putPiece_85 : decode cX2_putPiece 85 = .ok (.aload_n 2, 1) := by decide +kernel
theorem dX2_putPiece_86 : decode cX2_putPiece 86 = .ok (.getfield 117, 3) := by decide +kernel
theorem dX2_putPiece_89 : decode cX2_putPiece 89 = .ok (.iload_n 3, 1) := by decide +kernel
theorem dX2_putPiece_90 : decode cX2_putPiece 90 = .ok (.laload, 1) := by decide +kernel
theorem dX2_putPiece_91 : decode cX2_putPiece 91 = .ok (.iload 5, 2) := by decide +kernel
theorem dX2_putPiece_93 : decode cX2_putPiece 93 = .ok (.ineg, 1) := by decide +kernel
theorem dX2_putPiece_94 : decode cX2_putPiece 94 = .ok (.lshl, 1) := by decide +kernel
theorem dX2_putPiece_95 : decode cX2_putPiece 95 = .ok (.lsub, 1) := by decide +kernel
theorem dX2_putPiece_96 : decode cX2_putPiece 96 = .ok (.lstore 6, 2) := by decide +kernel
theorem dX2_putPiece_98 : decode cX2_putPiece 98 = .ok (.aload 4, 2) := by decide +kernel
theorem dX2_putPiece_100 : decode cX2_putPiece 100 = .ok (.aload_n 0, 1) := by decide +kernel
theorem dX2_putPiece_101 : decode cX2_putPiece 101 = .ok (.getfield 111, 3) := by decide +kernel
theorem dX2_putPiece_104 : decode cX2_putPiece 104 = .ok (.iload_n 1, 1) := by decide +kernel
theorem dX2_putPiece_105 : decode cX2_putPiece 105 = .ok (.iaload, 1) := by decide +kernel
theorem dX2_putPiece_106 : decode cX2_putPiece 106 = .ok (.aload_n 0, 1) := by decide +kernel
theorem dX2_putPiece_107 : decode cX2_putPiece 107 = .ok (.getfield 117, 3) := by decide +kernel
theorem dX2_putPiece_110 : decode cX2_putPiece 110 = .ok (.iload_n 1, 1) := by decide +kernel
theorem dX2_putPiece_111 : decode cX2_putPiece 111 = .ok (.laload, 1) := by decide +kernel
theorem dX2_putPiece_112 : decode cX2_putPiece 112 = .ok (.aload_n 2, 1) := by decide +kernel
theorem dX2_putPiece_113 : decode cX2_putPiece 113 = .ok (.getfield 114, 3) := by decide +kernel
theorem dX2_putPiece_116 : decode cX2_putPiece 116 = .ok (.iload_n 3, 1) := by decide +kernel
theorem dX2_putPiece_117 : decode cX2_putPiece 117 = .ok (.iaload, 1) := by decide +kernel
theorem dX2_putPiece_118 : decode cX2_putPiece 118 = .ok (.iload 5, 2) := by decide +kernel
theorem dX2_putPiece_120 : decode cX2_putPiece 120 = .ok (.isub, 1) := by decide +kernel
theorem dX2_putPiece_121 : decode cX2_putPiece 121 = .ok (.aload_n 2, 1) := by decide +kernel
theorem dX2_putPiece_122 : decode cX2_putPiece 122 = .ok (.getfield 121, 3) := by decide +kernel
theorem dX2_putPiece_125 : decode cX2_putPiece 125 = .ok (.iload_n 3, 1) := by decide +kernel
theorem dX2_putPiece_126 : decode cX2_putPiece 126 = .ok (.laload, 1) := by decide +kernel
theorem dX2_putPiece_127 : decode cX2_putPiece 127 = .ok (.iload 5, 2) := by decide +kernel
theorem dX2_putPiece_129 : decode cX2_putPiece 129 = .ok (.ineg, 1) := by decide +kernel
theorem dX2_putPiece_130 : decode cX2_putPiece 130 = .ok (.lshl, 1) := by decide +kernel
theorem dX2_putPiece_131 : decode cX2_putPiece 131 = .ok (.lload 6, 2) := by decide +kernel
theorem dX2_putPiece_133 : decode cX2_putPiece 133 = .ok (.ladd, 1) := by decide +kernel
theorem dX2_putPiece_134 : decode cX2_putPiece 134 = .ok (.invokevirtual 177, 3) := by decide +kernel
theorem dX2_putPiece_137 : decode cX2_putPiece 137 = .ok (.return_, 1) := by decide +kernel
theorem dX2_isRaised_0 : decode cX2_isRaised 0 = .ok (.aload_n 1, 1) := by decide +kernel
theorem dX2_isRaised_1 : decode cX2_isRaised 1 = .ok (.astore_n 3, 1) := by decide +kernel
theorem dX2_isRaised_2 : decode cX2_isRaised 2 = .ok (.iload_n 2, 1) := by decide +kernel
theorem dX2_isRaised_3 : decode cX2_isRaised 3 = .ok (.ifCond .ge 16, 3) := by decide +kernel
theorem dX2_isRaised_6 : decode cX2_isRaised 6 = .ok (.aload_n 1, 1) := by decide +kernel
theorem dX2_isRaised_7 : decode cX2_isRaised 7 = .ok (.aload_n 0, 1) := by decide +kernel
theorem dX2_isRaised_8 : decode cX2_isRaised 8 = .ok (.getfield 28, 3) := by decide +kernel
theorem dX2_isRaised_11 : decode cX2_isRaised 11 = .ok (.invokestatic 47, 3) := by decide +kernel
theorem dX2_isRaised_14 : decode cX2_isRaised 14 = .ok (.aload_n 0, 1) := by decide +kernel
theorem dX2_isRaised_15 : decode cX2_isRaised 15 = .ok (.getfield 28, 3) := by decide +kernel
theorem dX2_isRaised_18 : decode cX2_isRaised 18 = .ok (.astore_n 3, 1) := by decide +kernel
theorem dX2_isRaised_19 : decode cX2_isRaised 19 = .ok (.aload_n 0, 1) := by decide +kernel
theorem dX2_isRaised_20 : decode cX2_isRaised 20 = .ok (.getfield 25, 3) := by decide +kernel
theorem dX2_isRaised_23 : decode cX2_isRaised 23 = .ok (.invokevirtual 88, 3) := by decide +kernel
theorem dX2_isRaised_26 : decode cX2_isRaised 26 = .ok (.iload_n 2, 1) := by decide +kernel
theorem dX2_isRaised_27 : decode cX2_isRaised 27 = .ok (.invokestatic 193, 3) := by decide +kernel
theorem dX2_isRaised_30 : decode cX2_isRaised 30 = .ok (.istore 4, 2) := by decide +kernel
theorem dX2_isRaised_32 : decode cX2_isRaised 32 = .ok (.iconst 0, 1) := by decide +kernel
theorem dX2_isRaised_33 : decode cX2_isRaised 33 = .ok (.istore 5, 2) := by decide +kernel
theorem dX2_isRaised_35 : decode cX2_isRaised 35 = .ok (.iload 5, 2) := by decide +kernel
theorem dX2_isRaised_37 : decode cX2_isRaised 37 = .ok (.iload 4, 2) := by decide +kernel
theorem dX2_isRaised_39 : decode cX2_isRaised 39 = .ok (.if_icmp .ge 19, 3) := by decide +kernel
theorem dX2_isRaised_42 : decode cX2_isRaised 42 = .ok (.aload_n 0, 1) := by decide +kernel
theorem dX2_isRaised_43 : decode cX2_isRaised 43 = .ok (.aload_n 3, 1) := by decide +kernel
theorem dX2_isRaised_44 : decode cX2_isRaised 44 = .ok (.invokevirtual 91, 3) := by decide +kernel
theorem dX2_isRaised_47 : decode cX2_isRaised 47 = .ok (.ifCond .ne 5, 3) := by decide +kernel
theorem dX2_isRaised_50 : decode cX2_isRaised 50 = .ok (.iconst 0, 1) := by decide +kernel
theorem dX2_isRaised_51 : decode cX2_isRaised 51 = .ok (.ireturn, 1) := by decide +kernel
theorem dX2_isRaised_52 : decode cX2_isRaised 52 = .ok (.iinc 5 1, 3) := by decide +kernel
theorem dX2_isRaised_55 : decode cX2_isRaised 55 = .ok (.goto (-20), 3) := by decide +kernel
theorem dX2_isRaised_58 : decode cX2_isRaised 58 = .ok (.iconst 1, 1) := by decide +kernel
theorem dX2_isRaised_59 : decode cX2_isRaised 59 = .ok (.ireturn, 1) := by decide +kernel
theorem dX2_isOneMore_0 : decode cX2_isOneMore 0 = .ok (.aload_n 0, 1) := by decide +kernel
theorem dX2_isOneMore_1 : decode cX2_isOneMore 1 = .ok (.getfield 25, 3) := by decide +kernel
theorem dX2_isOneMore_4 : decode cX2_isOneMore 4 = .ok (.aload_n 1, 1) := by decide +kernel
theorem dX2_isOneMore_5 : decode cX2_isOneMore 5 = .ok (.aload_n 0, 1) := by decide +kernel
theorem dX2_isOneMore_6 : decode cX2_isOneMore 6 = .ok (.getfield 22, 3) := by decide +kernel
theorem dX2_isOneMore_9 : decode cX2_isOneMore 9 = .ok (.invokestatic 65, 3) := by decide +kernel
theorem dX2_isOneMore_12 : decode cX2_isOneMore 12 = .ok (.aload_n 0, 1) := by decide +kernel
theorem dX2_isOneMore_13 : decode cX2_isOneMore 13 = .ok (.getfield 22, 3) := by decide +kernel
theorem dX2_isOneMore_16 : decode cX2_isOneMore 16 = .ok (.getfield 35, 3) := by decide +kernel
theorem dX2_isOneMore_19 : decode cX2_isOneMore 19 = .ok (.bipush 24, 2) := by decide +kernel
theorem dX2_isOneMore_21 : decode cX2_isOneMore 21 = .ok (.if_icmp .le 5, 3) := by decide +kernel
theorem dX2_isOneMore_24 : decode cX2_isOneMore 24 = .ok (.iconst 0, 1) := by decide +kernel
theorem dX2_isOneMore_25 : decode cX2_isOneMore 25 = .ok (.ireturn, 1) := by decide +kernel
theorem dX2_isOneMore_26 : decode cX2_isOneMore 26 = .ok (.aload_n 0, 1) := by decide +kernel
theorem dX2_isOneMore_27 : decode cX2_isOneMore 27 = .ok (.getfield 22, 3) := by decide +kernel
theorem dX2_isOneMore_30 : decode cX2_isOneMore 30 = .ok (.aload_n 0, 1) := by decide +kernel
theorem dX2_isOneMore_31 : decode cX2_isOneMore 31 = .ok (.getfield 25, 3) := by decide +kernel
theorem dX2_isOneMore_34 : decode cX2_isOneMore 34 = .ok (.invokestatic 69, 3) := by decide +kernel
theorem dX2_isOneMore_37 : decode cX2_isOneMore 37 = .ok (.iconst 1, 1) := by decide +kernel
theorem dX2_isOneMore_38 : decode cX2_isOneMore 38 = .ok (.ireturn, 1) := by decide +kernel
theorem dX2_nearOnes_0 : decode cX2_nearOnes 0 = .ok (.aload_n 0, 1) := by decide +kernel
theorem dX2_nearOnes_1 : decode cX2_nearOnes 1 = .ok (.getfield 198, 3) := by decide +kernel
theorem dX2_nearOnes_4 : decode cX2_nearOnes 4 = .ok (.ifnonnull 11, 3) := by decide +kernel
theorem dX2_nearOnes_7 : decode cX2_nearOnes 7 = .ok (.aload_n 0, 1) := by decide +kernel
theorem dX2_nearOnes_8 : decode cX2_nearOnes 8 = .ok (.aload_n 0, 1) := by decide +kernel
theorem dX2_nearOnes_9 : decode cX2_nearOnes 9 = .ok (.invokevirtual 202, 3) := by decide +kernel
theorem dX2_nearOnes_12 : decode cX2_nearOnes 12 = .ok (.putfield 198, 3) := by decide +kernel
theorem dX2_nearOnes_15 : decode cX2_nearOnes 15 = .ok (.aload_n 0, 1) := by decide +kernel
theorem dX2_nearOnes_16 : decode cX2_nearOnes 16 = .ok (.getfield 198, 3) := by decide +kernel
theorem dX2_nearOnes_19 : decode cX2_nearOnes 19 = .ok (.areturn, 1) := by decide +kernel
theorem dX2_grownBall_0 : decode cX2_grownBall 0 = .ok (.new 99, 3) := by decide +kernel
theorem dX2_grownBall_3 : decode cX2_grownBall 3 = .ok (.dup, 1) := by decide +kernel
theorem dX2_grownBall_4 : decode cX2_grownBall 4 = .ok (.invokespecial 205, 3) := by decide +kernel
theorem dX2_grownBall_7 : decode cX2_grownBall 7 = .ok (.astore_n 1, 1) := by decide +kernel
theorem dX2_grownBall_8 : decode cX2_grownBall 8 = .ok (.invokestatic 206, 3) := by decide +kernel
theorem dX2_grownBall_11 : decode cX2_grownBall 11 = .ok (.astore_n 2, 1) := by decide +kernel
theorem dX2_grownBall_12 : decode cX2_grownBall 12 = .ok (.aload_n 0, 1) := by decide +kernel
theorem dX2_grownBall_13 : decode cX2_grownBall 13 = .ok (.getfield 25, 3) := by decide +kernel
theorem dX2_grownBall_16 : decode cX2_grownBall 16 = .ok (.invokevirtual 88, 3) := by decide +kernel
theorem dX2_grownBall_19 : decode cX2_grownBall 19 = .ok (.aload_n 1, 1) := by decide +kernel
theorem dX2_grownBall_20 : decode cX2_grownBall 20 = .ok (.aload_n 0, 1) := by decide +kernel
theorem dX2_grownBall_21 : decode cX2_grownBall 21 = .ok (.getfield 25, 3) := by decide +kernel
theorem dX2_grownBall_24 : decode cX2_grownBall 24 = .ok (.invokevirtual 210, 3) := by decide +kernel
theorem dX2_grownBall_27 : decode cX2_grownBall 27 = .ok (.aload_n 1, 1) := by decide +kernel
theorem dX2_grownBall_28 : decode cX2_grownBall 28 = .ok (.getfield 103, 3) := by decide +kernel
theorem dX2_grownBall_31 : decode cX2_grownBall 31 = .ok (.iconst 0, 1) := by decide +kernel
theorem dX2_grownBall_32 : decode cX2_grownBall 32 = .ok (.iconst 1, 1) := by decide +kernel
theorem dX2_grownBall_33 : decode cX2_grownBall 33 = .ok (.iastore, 1) := by decide +kernel
theorem dX2_grownBall_34 : decode cX2_grownBall 34 = .ok (.iconst 0, 1) := by decide +kernel
theorem dX2_grownBall_35 : decode cX2_grownBall 35 = .ok (.istore_n 3, 1) := by decide +kernel
theorem dX2_grownBall_36 : decode cX2_grownBall 36 = .ok (.iconst 1, 1) := by decide +kernel
theorem dX2_grownBall_37 : decode cX2_grownBall 37 = .ok (.istore 4, 2) := by decide +kernel
theorem dX2_grownBall_39 : decode cX2_grownBall 39 = .ok (.iload 4, 2) := by decide +kernel
theorem dX2_grownBall_41 : decode cX2_grownBall 41 = .ok (.iconst 4, 1) := by decide +kernel
theorem dX2_grownBall_42 : decode cX2_grownBall 42 = .ok (.if_icmp .gt 104, 3) := by decide +kernel
theorem dX2_grownBall_45 : decode cX2_grownBall 45 = .ok (.aload_n 1, 1) := by decide +kernel
theorem dX2_grownBall_46 : decode cX2_grownBall 46 = .ok (.getfield 103, 3) := by decide +kernel
theorem dX2_grownBall_49 : decode cX2_grownBall 49 = .ok (.iload 4, 2) := by decide +kernel
theorem dX2_grownBall_51 : decode cX2_grownBall 51 = .ok (.iconst 1, 1) := by decide +kernel
theorem dX2_grownBall_52 : decode cX2_grownBall 52 = .ok (.isub, 1) := by decide +kernel
theorem dX2_grownBall_53 : decode cX2_grownBall 53 = .ok (.iaload, 1) := by decide +kernel
theorem dX2_grownBall_54 : decode cX2_grownBall 54 = .ok (.istore 5, 2) := by decide +kernel
theorem dX2_grownBall_56 : decode cX2_grownBall 56 = .ok (.iload_n 3, 1) := by decide +kernel
theorem dX2_grownBall_57 : decode cX2_grownBall 57 = .ok (.istore 6, 2) := by decide +kernel
theorem dX2_grownBall_59 : decode cX2_grownBall 59 = .ok (.iload 6, 2) := by decide +kernel
theorem dX2_grownBall_61 : decode cX2_grownBall 61 = .ok (.iload 5, 2) := by decide +kernel
theorem dX2_grownBall_63 : decode cX2_grownBall 63 = .ok (.if_icmp .ge 58, 3) := by decide +kernel
theorem dX2_grownBall_66 : decode cX2_grownBall 66 = .ok (.iconst 0, 1) := by decide +kernel
theorem dX2_grownBall_67 : decode cX2_grownBall 67 = .ok (.istore 7, 2) := by decide +kernel
theorem dX2_grownBall_69 : decode cX2_grownBall 69 = .ok (.iload 7, 2) := by decide +kernel
theorem dX2_grownBall_71 : decode cX2_grownBall 71 = .ok (.aload_n 2, 1) := by decide +kernel
theorem dX2_grownBall_72 : decode cX2_grownBall 72 = .ok (.arraylength, 1) := by decide +kernel
theorem dX2_grownBall_73 : decode cX2_grownBall 73 = .ok (.if_icmp .ge 42, 3) := by decide +kernel
theorem dX2_grownBall_76 : decode cX2_grownBall 76 = .ok (.aload_n 1, 1) := by decide +kernel
theorem dX2_grownBall_77 : decode cX2_grownBall 77 = .ok (.getfield 214, 3) := by decide +kernel
theorem dX2_grownBall_80 : decode cX2_grownBall 80 = .ok (.iload 6, 2) := by decide +kernel
theorem dX2_grownBall_82 : decode cX2_grownBall 82 = .ok (.invokeinterface 218 2, 5) := by decide +kernel
theorem dX2_grownBall_87 : decode cX2_grownBall 87 = .ok (.checkcast 9, 3) := by decide +kernel
theorem dX2_grownBall_90 : decode cX2_grownBall 90 = .ok (.aload_n 2, 1) := by decide +kernel
theorem dX2_grownBall_91 : decode cX2_grownBall 91 = .ok (.iload 7, 2) := by decide +kernel
theorem dX2_grownBall_93 : decode cX2_grownBall 93 = .ok (.aaload, 1) := by decide +kernel
theorem dX2_grownBall_94 : decode cX2_grownBall 94 = .ok (.aload_n 0, 1) := by decide +kernel
theorem dX2_grownBall_95 : decode cX2_grownBall 95 = .ok (.getfield 22, 3) := by decide +kernel
theorem dX2_grownBall_98 : decode cX2_grownBall 98 = .ok (.invokestatic 65, 3) := by decide +kernel
theorem dX2_grownBall_101 : decode cX2_grownBall 101 = .ok (.aload_n 1, 1) := by decide +kernel
theorem dX2_grownBall_102 : decode cX2_grownBall 102 = .ok (.aload_n 0, 1) := by decide +kernel
theorem dX2_grownBall_103 : decode cX2_grownBall 103 = .ok (.getfield 22, 3) := by decide +kernel
theorem dX2_grownBall_106 : decode cX2_grownBall 106 = .ok (.invokevirtual 210, 3) := by decide +kernel
theorem dX2_grownBall_109 : decode cX2_grownBall 109 = .ok (.iinc 7 1, 3) := by decide +kernel
theorem dX2_grownBall_112 : decode cX2_grownBall 112 = .ok (.goto (-43), 3) := by decide +kernel
theorem dX2_grownBall_115 : decode cX2_grownBall 115 = .ok (.iinc 6 1, 3) := by decide +kernel
theorem dX2_grownBall_118 : decode cX2_grownBall 118 = .ok (.goto (-59), 3) := by decide +kernel
theorem dX2_grownBall_121 : decode cX2_grownBall 121 = .ok (.iload 5, 2) := by decide +kernel
theorem dX2_grownBall_123 : decode cX2_grownBall 123 = .ok (.istore_n 3, 1) := by decide +kernel
theorem dX2_grownBall_124 : decode cX2_grownBall 124 = .ok (.aload_n 1, 1) := by decide +kernel
theorem dX2_grownBall_125 : decode cX2_grownBall 125 = .ok (.getfield 103, 3) := by decide +kernel
theorem dX2_grownBall_128 : decode cX2_grownBall 128 = .ok (.iload 4, 2) := by decide +kernel
theorem dX2_grownBall_130 : decode cX2_grownBall 130 = .ok (.aload_n 1, 1) := by decide +kernel
theorem dX2_grownBall_131 : decode cX2_grownBall 131 = .ok (.getfield 214, 3) := by decide +kernel
theorem dX2_grownBall_134 : decode cX2_grownBall 134 = .ok (.invokeinterface 224 1, 5) := by decide +kernel
theorem dX2_grownBall_139 : decode cX2_grownBall 139 = .ok (.iastore, 1) := by decide +kernel
theorem dX2_grownBall_140 : decode cX2_grownBall 140 = .ok (.iinc 4 1, 3) := by decide +kernel
theorem dX2_grownBall_143 : decode cX2_grownBall 143 = .ok (.goto (-104), 3) := by decide +kernel
theorem dX2_grownBall_146 : decode cX2_grownBall 146 = .ok (.aload_n 1, 1) := by decide +kernel
theorem dX2_grownBall_147 : decode cX2_grownBall 147 = .ok (.areturn, 1) := by decide +kernel
theorem dX2_stepsOfLength_0 : decode cX2_stepsOfLength 0 = .ok (.iconst 4, 1) := by decide +kernel
theorem dX2_stepsOfLength_1 : decode cX2_stepsOfLength 1 = .ok (.anewarray 9, 3) := by decide +kernel
theorem dX2_stepsOfLength_4 : decode cX2_stepsOfLength 4 = .ok (.astore_n 0, 1) := by decide +kernel
theorem dX2_stepsOfLength_5 : decode cX2_stepsOfLength 5 = .ok (.iconst 0, 1) := by decide +kernel
theorem dX2_stepsOfLength_6 : decode cX2_stepsOfLength 6 = .ok (.istore_n 1, 1) := by decide +kernel
theorem dX2_stepsOfLength_7 : decode cX2_stepsOfLength 7 = .ok (.iload_n 1, 1) := by decide +kernel
theorem dX2_stepsOfLength_8 : decode cX2_stepsOfLength 8 = .ok (.iconst 2, 1) := by decide +kernel
theorem dX2_stepsOfLength_9 : decode cX2_stepsOfLength 9 = .ok (.if_icmp .ge 63, 3) := by decide +kernel
theorem dX2_stepsOfLength_12 : decode cX2_stepsOfLength 12 = .ok (.aload_n 0, 1) := by decide +kernel
theorem dX2_stepsOfLength_13 : decode cX2_stepsOfLength 13 = .ok (.iconst 2, 1) := by decide +kernel
theorem dX2_stepsOfLength_14 : decode cX2_stepsOfLength 14 = .ok (.iload_n 1, 1) := by decide +kernel
theorem dX2_stepsOfLength_15 : decode cX2_stepsOfLength 15 = .ok (.imul, 1) := by decide +kernel
theorem dX2_stepsOfLength_16 : decode cX2_stepsOfLength 16 = .ok (.new 9, 3) := by decide +kernel
theorem dX2_stepsOfLength_19 : decode cX2_stepsOfLength 19 = .ok (.dup, 1) := by decide +kernel
theorem dX2_stepsOfLength_20 : decode cX2_stepsOfLength 20 = .ok (.bipush 24, 2) := by decide +kernel
theorem dX2_stepsOfLength_22 : decode cX2_stepsOfLength 22 = .ok (.invokespecial 15, 3) := by decide +kernel
theorem dX2_stepsOfLength_25 : decode cX2_stepsOfLength 25 = .ok (.aastore, 1) := by decide +kernel
theorem dX2_stepsOfLength_26 : decode cX2_stepsOfLength 26 = .ok (.aload_n 0, 1) := by decide +kernel
theorem dX2_stepsOfLength_27 : decode cX2_stepsOfLength 27 = .ok (.iconst 2, 1) := by decide +kernel
theorem dX2_stepsOfLength_28 : decode cX2_stepsOfLength 28 = .ok (.iload_n 1, 1) := by decide +kernel
theorem dX2_stepsOfLength_29 : decode cX2_stepsOfLength 29 = .ok (.imul, 1) := by decide +kernel
theorem dX2_stepsOfLength_30 : decode cX2_stepsOfLength 30 = .ok (.iconst 1, 1) := by decide +kernel
theorem dX2_stepsOfLength_31 : decode cX2_stepsOfLength 31 = .ok (.iadd, 1) := by decide +kernel
theorem dX2_stepsOfLength_32 : decode cX2_stepsOfLength 32 = .ok (.new 9, 3) := by decide +kernel
theorem dX2_stepsOfLength_35 : decode cX2_stepsOfLength 35 = .ok (.dup, 1) := by decide +kernel
theorem dX2_stepsOfLength_36 : decode cX2_stepsOfLength 36 = .ok (.bipush 24, 2) := by decide +kernel
theorem dX2_stepsOfLength_38 : decode cX2_stepsOfLength 38 = .ok (.invokespecial 15, 3) := by decide +kernel
theorem dX2_stepsOfLength_41 : decode cX2_stepsOfLength 41 = .ok (.aastore, 1) := by decide +kernel
theorem dX2_stepsOfLength_42 : decode cX2_stepsOfLength 42 = .ok (.iload_n 1, 1) := by decide +kernel
theorem dX2_stepsOfLength_43 : decode cX2_stepsOfLength 43 = .ok (.aload_n 0, 1) := by decide +kernel
theorem dX2_stepsOfLength_44 : decode cX2_stepsOfLength 44 = .ok (.iconst 2, 1) := by decide +kernel
theorem dX2_stepsOfLength_45 : decode cX2_stepsOfLength 45 = .ok (.iload_n 1, 1) := by decide +kernel
theorem dX2_stepsOfLength_46 : decode cX2_stepsOfLength 46 = .ok (.imul, 1) := by decide +kernel
theorem dX2_stepsOfLength_47 : decode cX2_stepsOfLength 47 = .ok (.aaload, 1) := by decide +kernel
theorem dX2_stepsOfLength_48 : decode cX2_stepsOfLength 48 = .ok (.invokestatic 58, 3) := by decide +kernel
theorem dX2_stepsOfLength_51 : decode cX2_stepsOfLength 51 = .ok (.aload_n 0, 1) := by decide +kernel
theorem dX2_stepsOfLength_52 : decode cX2_stepsOfLength 52 = .ok (.iconst 2, 1) := by decide +kernel
theorem dX2_stepsOfLength_53 : decode cX2_stepsOfLength 53 = .ok (.iload_n 1, 1) := by decide +kernel
theorem dX2_stepsOfLength_54 : decode cX2_stepsOfLength 54 = .ok (.imul, 1) := by decide +kernel
theorem dX2_stepsOfLength_55 : decode cX2_stepsOfLength 55 = .ok (.aaload, 1) := by decide +kernel
theorem dX2_stepsOfLength_56 : decode cX2_stepsOfLength 56 = .ok (.aload_n 0, 1) := by decide +kernel
theorem dX2_stepsOfLength_57 : decode cX2_stepsOfLength 57 = .ok (.iconst 2, 1) := by decide +kernel
theorem dX2_stepsOfLength_58 : decode cX2_stepsOfLength 58 = .ok (.iload_n 1, 1) := by decide +kernel
theorem dX2_stepsOfLength_59 : decode cX2_stepsOfLength 59 = .ok (.imul, 1) := by decide +kernel
theorem dX2_stepsOfLength_60 : decode cX2_stepsOfLength 60 = .ok (.iconst 1, 1) := by decide +kernel
theorem dX2_stepsOfLength_61 : decode cX2_stepsOfLength 61 = .ok (.iadd, 1) := by decide +kernel
theorem dX2_stepsOfLength_62 : decode cX2_stepsOfLength 62 = .ok (.aaload, 1) := by decide +kernel
theorem dX2_stepsOfLength_63 : decode cX2_stepsOfLength 63 = .ok (.invokestatic 47, 3) := by decide +kernel
theorem dX2_stepsOfLength_66 : decode cX2_stepsOfLength 66 = .ok (.iinc 1 1, 3) := by decide +kernel
theorem dX2_stepsOfLength_69 : decode cX2_stepsOfLength 69 = .ok (.goto (-62), 3) := by decide +kernel
theorem dX2_stepsOfLength_72 : decode cX2_stepsOfLength 72 = .ok (.aload_n 0, 1) := by decide +kernel
theorem dX2_stepsOfLength_73 : decode cX2_stepsOfLength 73 = .ok (.areturn, 1) := by decide +kernel
theorem dX2_see_0 : decode cX2_see 0 = .ok (.iload_n 1, 1) := by decide +kernel
theorem dX2_see_1 : decode cX2_see 1 = .ok (.istore 4, 2) := by decide +kernel
theorem dX2_see_3 : decode cX2_see 3 = .ok (.lload_n 2, 1) := by decide +kernel
theorem dX2_see_4 : decode cX2_see 4 = .ok (.lstore 5, 2) := by decide +kernel
theorem dX2_see_6 : decode cX2_see 6 = .ok (.iload 4, 2) := by decide +kernel
theorem dX2_see_8 : decode cX2_see 8 = .ok (.ifCond .le 28, 3) := by decide +kernel
theorem dX2_see_11 : decode cX2_see 11 = .ok (.lload 5, 2) := by decide +kernel
theorem dX2_see_13 : decode cX2_see 13 = .ok (.ldc2_w 183, 3) := by decide +kernel
theorem dX2_see_16 : decode cX2_see 16 = .ok (.lrem, 1) := by decide +kernel
theorem dX2_see_17 : decode cX2_see 17 = .ok (.lconst 0, 1) := by decide +kernel
theorem dX2_see_18 : decode cX2_see 18 = .ok (.lcmp, 1) := by decide +kernel
theorem dX2_see_19 : decode cX2_see 19 = .ok (.ifCond .ne 17, 3) := by decide +kernel
theorem dX2_see_22 : decode cX2_see 22 = .ok (.lload 5, 2) := by decide +kernel
theorem dX2_see_24 : decode cX2_see 24 = .ok (.ldc2_w 183, 3) := by decide +kernel
theorem dX2_see_27 : decode cX2_see 27 = .ok (.ldiv, 1) := by decide +kernel
theorem dX2_see_28 : decode cX2_see 28 = .ok (.lstore 5, 2) := by decide +kernel
theorem dX2_see_30 : decode cX2_see 30 = .ok (.iinc 4 (-1), 3) := by decide +kernel
theorem dX2_see_33 : decode cX2_see 33 = .ok (.goto (-27), 3) := by decide +kernel
theorem dX2_see_36 : decode cX2_see 36 = .ok (.aload_n 0, 1) := by decide +kernel
theorem dX2_see_37 : decode cX2_see 37 = .ok (.iload 4, 2) := by decide +kernel
theorem dX2_see_39 : decode cX2_see 39 = .ok (.putfield 128, 3) := by decide +kernel
theorem dX2_see_42 : decode cX2_see 42 = .ok (.aload_n 0, 1) := by decide +kernel
theorem dX2_see_43 : decode cX2_see 43 = .ok (.lload 5, 2) := by decide +kernel
theorem dX2_see_45 : decode cX2_see 45 = .ok (.putfield 131, 3) := by decide +kernel
theorem dX2_see_48 : decode cX2_see 48 = .ok (.return_, 1) := by decide +kernel
theorem dX2_hasSingle_0 : decode cX2_hasSingle 0 = .ok (.aload_n 0, 1) := by decide +kernel
theorem dX2_hasSingle_1 : decode cX2_hasSingle 1 = .ok (.getfield 111, 3) := by decide +kernel
theorem dX2_hasSingle_4 : decode cX2_hasSingle 4 = .ok (.iload_n 1, 1) := by decide +kernel
theorem dX2_hasSingle_5 : decode cX2_hasSingle 5 = .ok (.iaload, 1) := by decide +kernel
theorem dX2_hasSingle_6 : decode cX2_hasSingle 6 = .ok (.istore_n 2, 1) := by decide +kernel
theorem dX2_hasSingle_7 : decode cX2_hasSingle 7 = .ok (.aload_n 0, 1) := by decide +kernel
theorem dX2_hasSingle_8 : decode cX2_hasSingle 8 = .ok (.getfield 117, 3) := by decide +kernel
theorem dX2_hasSingle_11 : decode cX2_hasSingle 11 = .ok (.iload_n 1, 1) := by decide +kernel
theorem dX2_hasSingle_12 : decode cX2_hasSingle 12 = .ok (.laload, 1) := by decide +kernel
theorem dX2_hasSingle_13 : decode cX2_hasSingle 13 = .ok (.lstore_n 3, 1) := by decide +kernel
theorem dX2_hasSingle_14 : decode cX2_hasSingle 14 = .ok (.iload_n 2, 1) := by decide +kernel
theorem dX2_hasSingle_15 : decode cX2_hasSingle 15 = .ok (.aload_n 0, 1) := by decide +kernel
theorem dX2_hasSingle_16 : decode cX2_hasSingle 16 = .ok (.getfield 114, 3) := by decide +kernel
theorem dX2_hasSingle_19 : decode cX2_hasSingle 19 = .ok (.iload_n 1, 1) := by decide +kernel
theorem dX2_hasSingle_20 : decode cX2_hasSingle 20 = .ok (.iaload, 1) := by decide +kernel
theorem dX2_hasSingle_21 : decode cX2_hasSingle 21 = .ok (.if_icmp .ne 5, 3) := by decide +kernel
theorem dX2_hasSingle_24 : decode cX2_hasSingle 24 = .ok (.iconst 0, 1) := by decide +kernel
theorem dX2_hasSingle_25 : decode cX2_hasSingle 25 = .ok (.ireturn, 1) := by decide +kernel
theorem dX2_hasSingle_26 : decode cX2_hasSingle 26 = .ok (.aload_n 0, 1) := by decide +kernel
theorem dX2_hasSingle_27 : decode cX2_hasSingle 27 = .ok (.iload_n 1, 1) := by decide +kernel
theorem dX2_hasSingle_28 : decode cX2_hasSingle 28 = .ok (.invokestatic 227, 3) := by decide +kernel
theorem dX2_hasSingle_31 : decode cX2_hasSingle 31 = .ok (.iload_n 2, 1) := by decide +kernel
theorem dX2_hasSingle_32 : decode cX2_hasSingle 32 = .ok (.lshl, 1) := by decide +kernel
theorem dX2_hasSingle_33 : decode cX2_hasSingle 33 = .ok (.lstore 5, 2) := by decide +kernel
theorem dX2_hasSingle_35 : decode cX2_hasSingle 35 = .ok (.aload_n 0, 1) := by decide +kernel
theorem dX2_hasSingle_36 : decode cX2_hasSingle 36 = .ok (.iload_n 1, 1) := by decide +kernel
theorem dX2_hasSingle_37 : decode cX2_hasSingle 37 = .ok (.invokestatic 231, 3) := by decide +kernel
theorem dX2_hasSingle_40 : decode cX2_hasSingle 40 = .ok (.lstore 7, 2) := by decide +kernel
theorem dX2_hasSingle_42 : decode cX2_hasSingle 42 = .ok (.lload 5, 2) := by decide +kernel
theorem dX2_hasSingle_44 : decode cX2_hasSingle 44 = .ok (.lload_n 3, 1) := by decide +kernel
theorem dX2_hasSingle_45 : decode cX2_hasSingle 45 = .ok (.lload 7, 2) := by decide +kernel
theorem dX2_hasSingle_47 : decode cX2_hasSingle 47 = .ok (.lmul, 1) := by decide +kernel
theorem dX2_hasSingle_48 : decode cX2_hasSingle 48 = .ok (.lcmp, 1) := by decide +kernel
theorem dX2_hasSingle_49 : decode cX2_hasSingle 49 = .ok (.ifCond .lt 19, 3) := by decide +kernel
theorem dX2_hasSingle_52 : decode cX2_hasSingle 52 = .ok (.lload 5, 2) := by decide +kernel
theorem dX2_hasSingle_54 : decode cX2_hasSingle 54 = .ok (.lload_n 3, 1) := by decide +kernel
theorem dX2_hasSingle_55 : decode cX2_hasSingle 55 = .ok (.lconst 1, 1) := by decide +kernel
theorem dX2_hasSingle_56 : decode cX2_hasSingle 56 = .ok (.ladd, 1) := by decide +kernel
theorem dX2_hasSingle_57 : decode cX2_hasSingle 57 = .ok (.lload 7, 2) := by decide +kernel
theorem dX2_hasSingle_59 : decode cX2_hasSingle 59 = .ok (.lmul, 1) := by decide +kernel
theorem dX2_hasSingle_60 : decode cX2_hasSingle 60 = .ok (.lcmp, 1) := by decide +kernel
theorem dX2_hasSingle_61 : decode cX2_hasSingle 61 = .ok (.ifCond .ge 7, 3) := by decide +kernel
theorem dX2_hasSingle_64 : decode cX2_hasSingle 64 = .ok (.iconst 1, 1) := by decide +kernel
theorem dX2_hasSingle_65 : decode cX2_hasSingle 65 = .ok (.goto 4, 3) := by decide +kernel
theorem dX2_hasSingle_68 : decode cX2_hasSingle 68 = .ok (.iconst 0, 1) := by decide +kernel
theorem dX2_hasSingle_69 : decode cX2_hasSingle 69 = .ok (.ireturn, 1) := by decide +kernel
theorem dX2_singleAbove_0 : decode cX2_singleAbove 0 = .ok (.aload_n 0, 1) := by decide +kernel
theorem dX2_singleAbove_1 : decode cX2_singleAbove 1 = .ok (.getfield 121, 3) := by decide +kernel
theorem dX2_singleAbove_4 : decode cX2_singleAbove 4 = .ok (.iload_n 1, 1) := by decide +kernel
theorem dX2_singleAbove_5 : decode cX2_singleAbove 5 = .ok (.laload, 1) := by decide +kernel
theorem dX2_singleAbove_6 : decode cX2_singleAbove 6 = .ok (.aload_n 0, 1) := by decide +kernel
theorem dX2_singleAbove_7 : decode cX2_singleAbove 7 = .ok (.getfield 117, 3) := by decide +kernel
theorem dX2_singleAbove_10 : decode cX2_singleAbove 10 = .ok (.iload_n 1, 1) := by decide +kernel
theorem dX2_singleAbove_11 : decode cX2_singleAbove 11 = .ok (.laload, 1) := by decide +kernel
theorem dX2_singleAbove_12 : decode cX2_singleAbove 12 = .ok (.lsub, 1) := by decide +kernel
theorem dX2_singleAbove_13 : decode cX2_singleAbove 13 = .ok (.lstore_n 2, 1) := by decide +kernel
theorem dX2_singleAbove_14 : decode cX2_singleAbove 14 = .ok (.aload_n 0, 1) := by decide +kernel
theorem dX2_singleAbove_15 : decode cX2_singleAbove 15 = .ok (.getfield 114, 3) := by decide +kernel
theorem dX2_singleAbove_18 : decode cX2_singleAbove 18 = .ok (.iload_n 1, 1) := by decide +kernel
theorem dX2_singleAbove_19 : decode cX2_singleAbove 19 = .ok (.iaload, 1) := by decide +kernel
theorem dX2_singleAbove_20 : decode cX2_singleAbove 20 = .ok (.aload_n 0, 1) := by decide +kernel
theorem dX2_singleAbove_21 : decode cX2_singleAbove 21 = .ok (.getfield 111, 3) := by decide +kernel
theorem dX2_singleAbove_24 : decode cX2_singleAbove 24 = .ok (.iload_n 1, 1) := by decide +kernel
theorem dX2_singleAbove_25 : decode cX2_singleAbove 25 = .ok (.iaload, 1) := by decide +kernel
theorem dX2_singleAbove_26 : decode cX2_singleAbove 26 = .ok (.if_icmp .le 7, 3) := by decide +kernel
theorem dX2_singleAbove_29 : decode cX2_singleAbove 29 = .ok (.lload_n 2, 1) := by decide +kernel
theorem dX2_singleAbove_30 : decode cX2_singleAbove 30 = .ok (.goto 5, 3) := by decide +kernel
theorem dX2_singleAbove_33 : decode cX2_singleAbove 33 = .ok (.lload_n 2, 1) := by decide +kernel
theorem dX2_singleAbove_34 : decode cX2_singleAbove 34 = .ok (.lneg, 1) := by decide +kernel
theorem dX2_singleAbove_35 : decode cX2_singleAbove 35 = .ok (.lreturn, 1) := by decide +kernel
theorem dX2_singleBelow_0 : decode cX2_singleBelow 0 = .ok (.lconst 1, 1) := by decide +kernel
theorem dX2_singleBelow_1 : decode cX2_singleBelow 1 = .ok (.aload_n 0, 1) := by decide +kernel
theorem dX2_singleBelow_2 : decode cX2_singleBelow 2 = .ok (.getfield 114, 3) := by decide +kernel
theorem dX2_singleBelow_5 : decode cX2_singleBelow 5 = .ok (.iload_n 1, 1) := by decide +kernel
theorem dX2_singleBelow_6 : decode cX2_singleBelow 6 = .ok (.iaload, 1) := by decide +kernel
theorem dX2_singleBelow_7 : decode cX2_singleBelow 7 = .ok (.lshl, 1) := by decide +kernel
theorem dX2_singleBelow_8 : decode cX2_singleBelow 8 = .ok (.lconst 1, 1) := by decide +kernel
theorem dX2_singleBelow_9 : decode cX2_singleBelow 9 = .ok (.aload_n 0, 1) := by decide +kernel
theorem dX2_singleBelow_10 : decode cX2_singleBelow 10 = .ok (.getfield 111, 3) := by decide +kernel
theorem dX2_singleBelow_13 : decode cX2_singleBelow 13 = .ok (.iload_n 1, 1) := by decide +kernel
theorem dX2_singleBelow_14 : decode cX2_singleBelow 14 = .ok (.iaload, 1) := by decide +kernel
theorem dX2_singleBelow_15 : decode cX2_singleBelow 15 = .ok (.lshl, 1) := by decide +kernel
theorem dX2_singleBelow_16 : decode cX2_singleBelow 16 = .ok (.lsub, 1) := by decide +kernel
theorem dX2_singleBelow_17 : decode cX2_singleBelow 17 = .ok (.invokestatic 234, 3) := by decide +kernel
theorem dX2_singleBelow_20 : decode cX2_singleBelow 20 = .ok (.lreturn, 1) := by decide +kernel
theorem dX2_partOfSingle_0 : decode cX2_partOfSingle 0 = .ok (.aload_n 0, 1) := by decide +kernel
theorem dX2_partOfSingle_1 : decode cX2_partOfSingle 1 = .ok (.iload_n 1, 1) := by decide +kernel
theorem dX2_partOfSingle_2 : decode cX2_partOfSingle 2 = .ok (.invokestatic 227, 3) := by decide +kernel
theorem dX2_partOfSingle_5 : decode cX2_partOfSingle 5 = .ok (.lstore_n 3, 1) := by decide +kernel
theorem dX2_partOfSingle_6 : decode cX2_partOfSingle 6 = .ok (.aload_n 0, 1) := by decide +kernel
theorem dX2_partOfSingle_7 : decode cX2_partOfSingle 7 = .ok (.iload_n 1, 1) := by decide +kernel
theorem dX2_partOfSingle_8 : decode cX2_partOfSingle 8 = .ok (.invokestatic 231, 3) := by decide +kernel
theorem dX2_partOfSingle_11 : decode cX2_partOfSingle 11 = .ok (.lstore 5, 2) := by decide +kernel
theorem dX2_partOfSingle_13 : decode cX2_partOfSingle 13 = .ok (.lload_n 3, 1) := by decide +kernel
theorem dX2_partOfSingle_14 : decode cX2_partOfSingle 14 = .ok (.lload 5, 2) := by decide +kernel
theorem dX2_partOfSingle_16 : decode cX2_partOfSingle 16 = .ok (.invokestatic 237, 3) := by decide +kernel
theorem dX2_partOfSingle_19 : decode cX2_partOfSingle 19 = .ok (.lstore 7, 2) := by decide +kernel
theorem dX2_partOfSingle_21 : decode cX2_partOfSingle 21 = .ok (.lload 7, 2) := by decide +kernel
theorem dX2_partOfSingle_23 : decode cX2_partOfSingle 23 = .ok (.lconst 0, 1) := by decide +kernel
theorem dX2_partOfSingle_24 : decode cX2_partOfSingle 24 = .ok (.lcmp, 1) := by decide +kernel
theorem dX2_partOfSingle_25 : decode cX2_partOfSingle 25 = .ok (.ifCond .ne 7, 3) := by decide +kernel
theorem dX2_partOfSingle_28 : decode cX2_partOfSingle 28 = .ok (.ldc2_w 150, 3) := by decide +kernel
theorem dX2_partOfSingle_31 : decode cX2_partOfSingle 31 = .ok (.lreturn, 1) := by decide +kernel
theorem dX2_partOfSingle_32 : decode cX2_partOfSingle 32 = .ok (.iload_n 2, 1) := by decide +kernel
theorem dX2_partOfSingle_33 : decode cX2_partOfSingle 33 = .ok (.ifCond .ne 7, 3) := by decide +kernel
theorem dX2_partOfSingle_36 : decode cX2_partOfSingle 36 = .ok (.lload_n 3, 1) := by decide +kernel
theorem dX2_partOfSingle_37 : decode cX2_partOfSingle 37 = .ok (.goto 5, 3) := by decide +kernel
theorem dX2_partOfSingle_40 : decode cX2_partOfSingle 40 = .ok (.lload 5, 2) := by decide +kernel
theorem dX2_partOfSingle_42 : decode cX2_partOfSingle 42 = .ok (.lload 7, 2) := by decide +kernel
theorem dX2_partOfSingle_44 : decode cX2_partOfSingle 44 = .ok (.ldiv, 1) := by decide +kernel
theorem dX2_partOfSingle_45 : decode cX2_partOfSingle 45 = .ok (.lreturn, 1) := by decide +kernel
theorem dX2_commonOf_0 : decode cX2_commonOf 0 = .ok (.lload_n 0, 1) := by decide +kernel
theorem dX2_commonOf_1 : decode cX2_commonOf 1 = .ok (.lstore 4, 2) := by decide +kernel
theorem dX2_commonOf_3 : decode cX2_commonOf 3 = .ok (.lload_n 2, 1) := by decide +kernel
theorem dX2_commonOf_4 : decode cX2_commonOf 4 = .ok (.lstore 6, 2) := by decide +kernel
theorem dX2_commonOf_6 : decode cX2_commonOf 6 = .ok (.iconst 0, 1) := by decide +kernel
theorem dX2_commonOf_7 : decode cX2_commonOf 7 = .ok (.istore 8, 2) := by decide +kernel
theorem dX2_commonOf_9 : decode cX2_commonOf 9 = .ok (.iload 8, 2) := by decide +kernel
theorem dX2_commonOf_11 : decode cX2_commonOf 11 = .ok (.bipush 100, 2) := by decide +kernel
theorem dX2_commonOf_13 : decode cX2_commonOf 13 = .ok (.if_icmp .ge 31, 3) := by decide +kernel
theorem dX2_commonOf_16 : decode cX2_commonOf 16 = .ok (.lload 6, 2) := by decide +kernel
theorem dX2_commonOf_18 : decode cX2_commonOf 18 = .ok (.lconst 0, 1) := by decide +kernel
theorem dX2_commonOf_19 : decode cX2_commonOf 19 = .ok (.lcmp, 1) := by decide +kernel
theorem dX2_commonOf_20 : decode cX2_commonOf 20 = .ok (.ifCond .eq 24, 3) := by decide +kernel
theorem dX2_commonOf_23 : decode cX2_commonOf 23 = .ok (.lload 4, 2) := by decide +kernel
theorem dX2_commonOf_25 : decode cX2_commonOf 25 = .ok (.lload 6, 2) := by decide +kernel
theorem dX2_commonOf_27 : decode cX2_commonOf 27 = .ok (.lrem, 1) := by decide +kernel
theorem dX2_commonOf_28 : decode cX2_commonOf 28 = .ok (.lstore 9, 2) := by decide +kernel
theorem dX2_commonOf_30 : decode cX2_commonOf 30 = .ok (.lload 6, 2) := by decide +kernel
theorem dX2_commonOf_32 : decode cX2_commonOf 32 = .ok (.lstore 4, 2) := by decide +kernel
theorem dX2_commonOf_34 : decode cX2_commonOf 34 = .ok (.lload 9, 2) := by decide +kernel
theorem dX2_commonOf_36 : decode cX2_commonOf 36 = .ok (.lstore 6, 2) := by decide +kernel
theorem dX2_commonOf_38 : decode cX2_commonOf 38 = .ok (.iinc 8 1, 3) := by decide +kernel
theorem dX2_commonOf_41 : decode cX2_commonOf 41 = .ok (.goto (-32), 3) := by decide +kernel
theorem dX2_commonOf_44 : decode cX2_commonOf 44 = .ok (.lload 4, 2) := by decide +kernel
theorem dX2_commonOf_46 : decode cX2_commonOf 46 = .ok (.lreturn, 1) := by decide +kernel
