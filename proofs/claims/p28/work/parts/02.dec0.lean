theorem dX0_init_0 : decode cX0_init 0 = .ok (.aload_n 0, 1) := by decide +kernel
theorem dX0_init_1 : decode cX0_init 1 = .ok (.invokespecial 3, 3) := by decide +kernel
theorem dX0_init_4 : decode cX0_init 4 = .ok (.aload_n 0, 1) := by decide +kernel
theorem dX0_init_5 : decode cX0_init 5 = .ok (.new 9, 3) := by decide +kernel
theorem dX0_init_8 : decode cX0_init 8 = .ok (.dup, 1) := by decide +kernel
theorem dX0_init_9 : decode cX0_init 9 = .ok (.invokespecial 11, 3) := by decide +kernel
theorem dX0_init_12 : decode cX0_init 12 = .ok (.putfield 12, 3) := by decide +kernel
theorem dX0_init_15 : decode cX0_init 15 = .ok (.aload_n 0, 1) := by decide +kernel
theorem dX0_init_16 : decode cX0_init 16 = .ok (.bipush 7, 2) := by decide +kernel
theorem dX0_init_18 : decode cX0_init 18 = .ok (.newarray .int, 2) := by decide +kernel
theorem dX0_init_20 : decode cX0_init 20 = .ok (.putfield 18, 3) := by decide +kernel
theorem dX0_init_23 : decode cX0_init 23 = .ok (.aload_n 0, 1) := by decide +kernel
theorem dX0_init_24 : decode cX0_init 24 = .ok (.bipush 7, 2) := by decide +kernel
theorem dX0_init_26 : decode cX0_init 26 = .ok (.bipush 7, 2) := by decide +kernel
theorem dX0_init_28 : decode cX0_init 28 = .ok (.multianewarray 22 2, 4) := by decide +kernel
theorem dX0_init_32 : decode cX0_init 32 = .ok (.putfield 24, 3) := by decide +kernel
theorem dX0_init_35 : decode cX0_init 35 = .ok (.aload_n 0, 1) := by decide +kernel
theorem dX0_init_36 : decode cX0_init 36 = .ok (.sipush 128, 3) := by decide +kernel
theorem dX0_init_39 : decode cX0_init 39 = .ok (.newarray .int, 2) := by decide +kernel
theorem dX0_init_41 : decode cX0_init 41 = .ok (.putfield 27, 3) := by decide +kernel
theorem dX0_init_44 : decode cX0_init 44 = .ok (.return_, 1) := by decide +kernel
theorem dX0_postageOfPair_0 : decode cX0_postageOfPair 0 = .ok (.aload_n 2, 1) := by decide +kernel
theorem dX0_postageOfPair_1 : decode cX0_postageOfPair 1 = .ok (.getfield 30, 3) := by decide +kernel
theorem dX0_postageOfPair_4 : decode cX0_postageOfPair 4 = .ok (.aload_n 3, 1) := by decide +kernel
theorem dX0_postageOfPair_5 : decode cX0_postageOfPair 5 = .ok (.getfield 30, 3) := by decide +kernel
theorem dX0_postageOfPair_8 : decode cX0_postageOfPair 8 = .ok (.if_icmp .ne 19, 3) := by decide +kernel
theorem dX0_postageOfPair_11 : decode cX0_postageOfPair 11 = .ok (.aload_n 1, 1) := by decide +kernel
theorem dX0_postageOfPair_12 : decode cX0_postageOfPair 12 = .ok (.aload_n 2, 1) := by decide +kernel
theorem dX0_postageOfPair_13 : decode cX0_postageOfPair 13 = .ok (.invokevirtual 34, 3) := by decide +kernel
theorem dX0_postageOfPair_16 : decode cX0_postageOfPair 16 = .ok (.ifCond .eq 11, 3) := by decide +kernel
theorem dX0_postageOfPair_19 : decode cX0_postageOfPair 19 = .ok (.aload_n 1, 1) := by decide +kernel
theorem dX0_postageOfPair_20 : decode cX0_postageOfPair 20 = .ok (.aload_n 3, 1) := by decide +kernel
theorem dX0_postageOfPair_21 : decode cX0_postageOfPair 21 = .ok (.invokevirtual 34, 3) := by decide +kernel
theorem dX0_postageOfPair_24 : decode cX0_postageOfPair 24 = .ok (.ifCond .ne 5, 3) := by decide +kernel
theorem dX0_postageOfPair_27 : decode cX0_postageOfPair 27 = .ok (.iconst (-1), 1) := by decide +kernel
theorem dX0_postageOfPair_28 : decode cX0_postageOfPair 28 = .ok (.ireturn, 1) := by decide +kernel
theorem dX0_postageOfPair_29 : decode cX0_postageOfPair 29 = .ok (.aload_n 0, 1) := by decide +kernel
theorem dX0_postageOfPair_30 : decode cX0_postageOfPair 30 = .ok (.getfield 12, 3) := by decide +kernel
theorem dX0_postageOfPair_33 : decode cX0_postageOfPair 33 = .ok (.aload_n 2, 1) := by decide +kernel
theorem dX0_postageOfPair_34 : decode cX0_postageOfPair 34 = .ok (.aload_n 3, 1) := by decide +kernel
theorem dX0_postageOfPair_35 : decode cX0_postageOfPair 35 = .ok (.invokevirtual 40, 3) := by decide +kernel
theorem dX0_postageOfPair_38 : decode cX0_postageOfPair 38 = .ok (.aload_n 0, 1) := by decide +kernel
theorem dX0_postageOfPair_39 : decode cX0_postageOfPair 39 = .ok (.getfield 12, 3) := by decide +kernel
theorem dX0_postageOfPair_42 : decode cX0_postageOfPair 42 = .ok (.getfield 44, 3) := by decide +kernel
theorem dX0_postageOfPair_45 : decode cX0_postageOfPair 45 = .ok (.bipush 99, 2) := by decide +kernel
theorem dX0_postageOfPair_47 : decode cX0_postageOfPair 47 = .ok (.if_icmp .gt 14, 3) := by decide +kernel
theorem dX0_postageOfPair_50 : decode cX0_postageOfPair 50 = .ok (.aload_n 1, 1) := by decide +kernel
theorem dX0_postageOfPair_51 : decode cX0_postageOfPair 51 = .ok (.aload_n 0, 1) := by decide +kernel
theorem dX0_postageOfPair_52 : decode cX0_postageOfPair 52 = .ok (.getfield 12, 3) := by decide +kernel
theorem dX0_postageOfPair_55 : decode cX0_postageOfPair 55 = .ok (.invokevirtual 34, 3) := by decide +kernel
theorem dX0_postageOfPair_58 : decode cX0_postageOfPair 58 = .ok (.ifCond .ne 5, 3) := by decide +kernel
theorem dX0_postageOfPair_61 : decode cX0_postageOfPair 61 = .ok (.iconst (-1), 1) := by decide +kernel
theorem dX0_postageOfPair_62 : decode cX0_postageOfPair 62 = .ok (.ireturn, 1) := by decide +kernel
theorem dX0_postageOfPair_63 : decode cX0_postageOfPair 63 = .ok (.aload_n 1, 1) := by decide +kernel
theorem dX0_postageOfPair_64 : decode cX0_postageOfPair 64 = .ok (.aload_n 0, 1) := by decide +kernel
theorem dX0_postageOfPair_65 : decode cX0_postageOfPair 65 = .ok (.getfield 12, 3) := by decide +kernel
theorem dX0_postageOfPair_68 : decode cX0_postageOfPair 68 = .ok (.aload_n 1, 1) := by decide +kernel
theorem dX0_postageOfPair_69 : decode cX0_postageOfPair 69 = .ok (.aload_n 0, 1) := by decide +kernel
theorem dX0_postageOfPair_70 : decode cX0_postageOfPair 70 = .ok (.getfield 12, 3) := by decide +kernel
theorem dX0_postageOfPair_73 : decode cX0_postageOfPair 73 = .ok (.aload_n 0, 1) := by decide +kernel
theorem dX0_postageOfPair_74 : decode cX0_postageOfPair 74 = .ok (.getfield 12, 3) := by decide +kernel
theorem dX0_postageOfPair_77 : decode cX0_postageOfPair 77 = .ok (.getfield 47, 3) := by decide +kernel
theorem dX0_postageOfPair_80 : decode cX0_postageOfPair 80 = .ok (.invokevirtual 50, 3) := by decide +kernel
theorem dX0_postageOfPair_83 : decode cX0_postageOfPair 83 = .ok (.invokevirtual 54, 3) := by decide +kernel
theorem dX0_postageOfPair_86 : decode cX0_postageOfPair 86 = .ok (.ireturn, 1) := by decide +kernel
theorem dX0_weigh_0 : decode cX0_weigh 0 = .ok (.aload_n 0, 1) := by decide +kernel
theorem dX0_weigh_1 : decode cX0_weigh 1 = .ok (.aload_n 1, 1) := by decide +kernel
theorem dX0_weigh_2 : decode cX0_weigh 2 = .ok (.getfield 57, 3) := by decide +kernel
theorem dX0_weigh_5 : decode cX0_weigh 5 = .ok (.bipush 7, 2) := by decide +kernel
theorem dX0_weigh_7 : decode cX0_weigh 7 = .ok (.invokestatic 60, 3) := by decide +kernel
theorem dX0_weigh_10 : decode cX0_weigh 10 = .ok (.putfield 66, 3) := by decide +kernel
theorem dX0_weigh_13 : decode cX0_weigh 13 = .ok (.iconst 0, 1) := by decide +kernel
theorem dX0_weigh_14 : decode cX0_weigh 14 = .ok (.istore_n 2, 1) := by decide +kernel
theorem dX0_weigh_15 : decode cX0_weigh 15 = .ok (.iload_n 2, 1) := by decide +kernel
theorem dX0_weigh_16 : decode cX0_weigh 16 = .ok (.aload_n 0, 1) := by decide +kernel
theorem dX0_weigh_17 : decode cX0_weigh 17 = .ok (.getfield 66, 3) := by decide +kernel
theorem dX0_weigh_20 : decode cX0_weigh 20 = .ok (.if_icmp .ge 104, 3) := by decide +kernel
theorem dX0_weigh_23 : decode cX0_weigh 23 = .ok (.aload_n 1, 1) := by decide +kernel
theorem dX0_weigh_24 : decode cX0_weigh 24 = .ok (.getfield 67, 3) := by decide +kernel
theorem dX0_weigh_27 : decode cX0_weigh 27 = .ok (.iload_n 2, 1) := by decide +kernel
theorem dX0_weigh_28 : decode cX0_weigh 28 = .ok (.aaload, 1) := by decide +kernel
theorem dX0_weigh_29 : decode cX0_weigh 29 = .ok (.astore_n 3, 1) := by decide +kernel
theorem dX0_weigh_30 : decode cX0_weigh 30 = .ok (.aload_n 1, 1) := by decide +kernel
theorem dX0_weigh_31 : decode cX0_weigh 31 = .ok (.aload_n 3, 1) := by decide +kernel
theorem dX0_weigh_32 : decode cX0_weigh 32 = .ok (.invokevirtual 34, 3) := by decide +kernel
theorem dX0_weigh_35 : decode cX0_weigh 35 = .ok (.istore 4, 2) := by decide +kernel
theorem dX0_weigh_37 : decode cX0_weigh 37 = .ok (.aload_n 0, 1) := by decide +kernel
theorem dX0_weigh_38 : decode cX0_weigh 38 = .ok (.getfield 18, 3) := by decide +kernel
theorem dX0_weigh_41 : decode cX0_weigh 41 = .ok (.iload_n 2, 1) := by decide +kernel
theorem dX0_weigh_42 : decode cX0_weigh 42 = .ok (.iload 4, 2) := by decide +kernel
theorem dX0_weigh_44 : decode cX0_weigh 44 = .ok (.ifCond .eq 20, 3) := by decide +kernel
theorem dX0_weigh_47 : decode cX0_weigh 47 = .ok (.aload_n 1, 1) := by decide +kernel
theorem dX0_weigh_48 : decode cX0_weigh 48 = .ok (.aload_n 3, 1) := by decide +kernel
theorem dX0_weigh_49 : decode cX0_weigh 49 = .ok (.aload_n 1, 1) := by decide +kernel
theorem dX0_weigh_50 : decode cX0_weigh 50 = .ok (.aload_n 3, 1) := by decide +kernel
theorem dX0_weigh_51 : decode cX0_weigh 51 = .ok (.aload_n 3, 1) := by decide +kernel
theorem dX0_weigh_52 : decode cX0_weigh 52 = .ok (.getfield 47, 3) := by decide +kernel
theorem dX0_weigh_55 : decode cX0_weigh 55 = .ok (.invokevirtual 50, 3) := by decide +kernel
theorem dX0_weigh_58 : decode cX0_weigh 58 = .ok (.invokevirtual 54, 3) := by decide +kernel
theorem dX0_weigh_61 : decode cX0_weigh 61 = .ok (.goto 4, 3) := by decide +kernel
theorem dX0_weigh_64 : decode cX0_weigh 64 = .ok (.iconst 0, 1) := by decide +kernel
theorem dX0_weigh_65 : decode cX0_weigh 65 = .ok (.iastore, 1) := by decide +kernel
theorem dX0_weigh_66 : decode cX0_weigh 66 = .ok (.iconst 0, 1) := by decide +kernel
theorem dX0_weigh_67 : decode cX0_weigh 67 = .ok (.istore 5, 2) := by decide +kernel
theorem dX0_weigh_69 : decode cX0_weigh 69 = .ok (.iload 5, 2) := by decide +kernel
theorem dX0_weigh_71 : decode cX0_weigh 71 = .ok (.iload_n 2, 1) := by decide +kernel
theorem dX0_weigh_72 : decode cX0_weigh 72 = .ok (.if_icmp .ge 46, 3) := by decide +kernel
theorem dX0_weigh_75 : decode cX0_weigh 75 = .ok (.aload_n 0, 1) := by decide +kernel
theorem dX0_weigh_76 : decode cX0_weigh 76 = .ok (.aload_n 1, 1) := by decide +kernel
theorem dX0_weigh_77 : decode cX0_weigh 77 = .ok (.aload_n 3, 1) := by decide +kernel
theorem dX0_weigh_78 : decode cX0_weigh 78 = .ok (.aload_n 1, 1) := by decide +kernel
theorem dX0_weigh_79 : decode cX0_weigh 79 = .ok (.getfield 67, 3) := by decide +kernel
theorem dX0_weigh_82 : decode cX0_weigh 82 = .ok (.iload 5, 2) := by decide +kernel
theorem dX0_weigh_84 : decode cX0_weigh 84 = .ok (.aaload, 1) := by decide +kernel
theorem dX0_weigh_85 : decode cX0_weigh 85 = .ok (.invokevirtual 71, 3) := by decide +kernel
theorem dX0_weigh_88 : decode cX0_weigh 88 = .ok (.istore 6, 2) := by decide +kernel
theorem dX0_weigh_90 : decode cX0_weigh 90 = .ok (.aload_n 0, 1) := by decide +kernel
theorem dX0_weigh_91 : decode cX0_weigh 91 = .ok (.getfield 24, 3) := by decide +kernel
theorem dX0_weigh_94 : decode cX0_weigh 94 = .ok (.iload_n 2, 1) := by decide +kernel
theorem dX0_weigh_95 : decode cX0_weigh 95 = .ok (.aaload, 1) := by decide +kernel
theorem dX0_weigh_96 : decode cX0_weigh 96 = .ok (.iload 5, 2) := by decide +kernel
theorem dX0_weigh_98 : decode cX0_weigh 98 = .ok (.iload 6, 2) := by decide +kernel
theorem dX0_weigh_100 : decode cX0_weigh 100 = .ok (.iastore, 1) := by decide +kernel
theorem dX0_weigh_101 : decode cX0_weigh 101 = .ok (.aload_n 0, 1) := by decide +kernel
theorem dX0_weigh_102 : decode cX0_weigh 102 = .ok (.getfield 24, 3) := by decide +kernel
theorem dX0_weigh_105 : decode cX0_weigh 105 = .ok (.iload 5, 2) := by decide +kernel
theorem dX0_weigh_107 : decode cX0_weigh 107 = .ok (.aaload, 1) := by decide +kernel
theorem dX0_weigh_108 : decode cX0_weigh 108 = .ok (.iload_n 2, 1) := by decide +kernel
theorem dX0_weigh_109 : decode cX0_weigh 109 = .ok (.iload 6, 2) := by decide +kernel
theorem dX0_weigh_111 : decode cX0_weigh 111 = .ok (.iastore, 1) := by decide +kernel
theorem dX0_weigh_112 : decode cX0_weigh 112 = .ok (.iinc 5 1, 3) := by decide +kernel
theorem dX0_weigh_115 : decode cX0_weigh 115 = .ok (.goto (-46), 3) := by decide +kernel
theorem dX0_weigh_118 : decode cX0_weigh 118 = .ok (.iinc 2 1, 3) := by decide +kernel
theorem dX0_weigh_121 : decode cX0_weigh 121 = .ok (.goto (-106), 3) := by decide +kernel
theorem dX0_weigh_124 : decode cX0_weigh 124 = .ok (.return_, 1) := by decide +kernel
theorem dX0_costUnbundled_0 : decode cX0_costUnbundled 0 = .ok (.iconst 0, 1) := by decide +kernel
theorem dX0_costUnbundled_1 : decode cX0_costUnbundled 1 = .ok (.istore_n 1, 1) := by decide +kernel
theorem dX0_costUnbundled_2 : decode cX0_costUnbundled 2 = .ok (.iconst 0, 1) := by decide +kernel
theorem dX0_costUnbundled_3 : decode cX0_costUnbundled 3 = .ok (.istore_n 2, 1) := by decide +kernel
theorem dX0_costUnbundled_4 : decode cX0_costUnbundled 4 = .ok (.iload_n 2, 1) := by decide +kernel
theorem dX0_costUnbundled_5 : decode cX0_costUnbundled 5 = .ok (.aload_n 0, 1) := by decide +kernel
theorem dX0_costUnbundled_6 : decode cX0_costUnbundled 6 = .ok (.getfield 66, 3) := by decide +kernel
theorem dX0_costUnbundled_9 : decode cX0_costUnbundled 9 = .ok (.if_icmp .ge 18, 3) := by decide +kernel
theorem dX0_costUnbundled_12 : decode cX0_costUnbundled 12 = .ok (.iload_n 1, 1) := by decide +kernel
theorem dX0_costUnbundled_13 : decode cX0_costUnbundled 13 = .ok (.aload_n 0, 1) := by decide +kernel
theorem dX0_costUnbundled_14 : decode cX0_costUnbundled 14 = .ok (.getfield 18, 3) := by decide +kernel
theorem dX0_costUnbundled_17 : decode cX0_costUnbundled 17 = .ok (.iload_n 2, 1) := by decide +kernel
theorem dX0_costUnbundled_18 : decode cX0_costUnbundled 18 = .ok (.iaload, 1) := by decide +kernel
theorem dX0_costUnbundled_19 : decode cX0_costUnbundled 19 = .ok (.iadd, 1) := by decide +kernel
theorem dX0_costUnbundled_20 : decode cX0_costUnbundled 20 = .ok (.istore_n 1, 1) := by decide +kernel
theorem dX0_costUnbundled_21 : decode cX0_costUnbundled 21 = .ok (.iinc 2 1, 3) := by decide +kernel
theorem dX0_costUnbundled_24 : decode cX0_costUnbundled 24 = .ok (.goto (-20), 3) := by decide +kernel
theorem dX0_costUnbundled_27 : decode cX0_costUnbundled 27 = .ok (.iload_n 1, 1) := by decide +kernel
theorem dX0_costUnbundled_28 : decode cX0_costUnbundled 28 = .ok (.ireturn, 1) := by decide +kernel
theorem dX0_leastBySets_0 : decode cX0_leastBySets 0 = .ok (.aload_n 0, 1) := by decide +kernel
theorem dX0_leastBySets_1 : decode cX0_leastBySets 1 = .ok (.getfield 27, 3) := by decide +kernel
theorem dX0_leastBySets_4 : decode cX0_leastBySets 4 = .ok (.iconst 0, 1) := by decide +kernel
theorem dX0_leastBySets_5 : decode cX0_leastBySets 5 = .ok (.iconst 0, 1) := by decide +kernel
theorem dX0_leastBySets_6 : decode cX0_leastBySets 6 = .ok (.iastore, 1) := by decide +kernel
theorem dX0_leastBySets_7 : decode cX0_leastBySets 7 = .ok (.iconst 0, 1) := by decide +kernel
theorem dX0_leastBySets_8 : decode cX0_leastBySets 8 = .ok (.istore_n 1, 1) := by decide +kernel
theorem dX0_leastBySets_9 : decode cX0_leastBySets 9 = .ok (.iload_n 1, 1) := by decide +kernel
theorem dX0_leastBySets_10 : decode cX0_leastBySets 10 = .ok (.aload_n 0, 1) := by decide +kernel
theorem dX0_leastBySets_11 : decode cX0_leastBySets 11 = .ok (.getfield 66, 3) := by decide +kernel
theorem dX0_leastBySets_14 : decode cX0_leastBySets 14 = .ok (.if_icmp .ge 40, 3) := by decide +kernel
theorem dX0_leastBySets_17 : decode cX0_leastBySets 17 = .ok (.iconst 0, 1) := by decide +kernel
theorem dX0_leastBySets_18 : decode cX0_leastBySets 18 = .ok (.istore_n 2, 1) := by decide +kernel
theorem dX0_leastBySets_19 : decode cX0_leastBySets 19 = .ok (.iload_n 2, 1) := by decide +kernel
theorem dX0_leastBySets_20 : decode cX0_leastBySets 20 = .ok (.iconst 1, 1) := by decide +kernel
theorem dX0_leastBySets_21 : decode cX0_leastBySets 21 = .ok (.iload_n 1, 1) := by decide +kernel
theorem dX0_leastBySets_22 : decode cX0_leastBySets 22 = .ok (.ishl, 1) := by decide +kernel
theorem dX0_leastBySets_23 : decode cX0_leastBySets 23 = .ok (.if_icmp .ge 25, 3) := by decide +kernel
theorem dX0_leastBySets_26 : decode cX0_leastBySets 26 = .ok (.aload_n 0, 1) := by decide +kernel
theorem dX0_leastBySets_27 : decode cX0_leastBySets 27 = .ok (.getfield 27, 3) := by decide +kernel
theorem dX0_leastBySets_30 : decode cX0_leastBySets 30 = .ok (.iload_n 2, 1) := by decide +kernel
theorem dX0_leastBySets_31 : decode cX0_leastBySets 31 = .ok (.iconst 1, 1) := by decide +kernel
theorem dX0_leastBySets_32 : decode cX0_leastBySets 32 = .ok (.iload_n 1, 1) := by decide +kernel
theorem dX0_leastBySets_33 : decode cX0_leastBySets 33 = .ok (.ishl, 1) := by decide +kernel
theorem dX0_leastBySets_34 : decode cX0_leastBySets 34 = .ok (.ior, 1) := by decide +kernel
theorem dX0_leastBySets_35 : decode cX0_leastBySets 35 = .ok (.aload_n 0, 1) := by decide +kernel
theorem dX0_leastBySets_36 : decode cX0_leastBySets 36 = .ok (.iload_n 1, 1) := by decide +kernel
theorem dX0_leastBySets_37 : decode cX0_leastBySets 37 = .ok (.iload_n 2, 1) := by decide +kernel
theorem dX0_leastBySets_38 : decode cX0_leastBySets 38 = .ok (.invokevirtual 75, 3) := by decide +kernel
theorem dX0_leastBySets_41 : decode cX0_leastBySets 41 = .ok (.iastore, 1) := by decide +kernel
theorem dX0_leastBySets_42 : decode cX0_leastBySets 42 = .ok (.iinc 2 1, 3) := by decide +kernel
theorem dX0_leastBySets_45 : decode cX0_leastBySets 45 = .ok (.goto (-26), 3) := by decide +kernel
theorem dX0_leastBySets_48 : decode cX0_leastBySets 48 = .ok (.iinc 1 1, 3) := by decide +kernel
theorem dX0_leastBySets_51 : decode cX0_leastBySets 51 = .ok (.goto (-42), 3) := by decide +kernel
theorem dX0_leastBySets_54 : decode cX0_leastBySets 54 = .ok (.aload_n 0, 1) := by decide +kernel
theorem dX0_leastBySets_55 : decode cX0_leastBySets 55 = .ok (.getfield 27, 3) := by decide +kernel
theorem dX0_leastBySets_58 : decode cX0_leastBySets 58 = .ok (.iconst 1, 1) := by decide +kernel
theorem dX0_leastBySets_59 : decode cX0_leastBySets 59 = .ok (.aload_n 0, 1) := by decide +kernel
theorem dX0_leastBySets_60 : decode cX0_leastBySets 60 = .ok (.getfield 66, 3) := by decide +kernel
theorem dX0_leastBySets_63 : decode cX0_leastBySets 63 = .ok (.ishl, 1) := by decide +kernel
theorem dX0_leastBySets_64 : decode cX0_leastBySets 64 = .ok (.iconst 1, 1) := by decide +kernel
theorem dX0_leastBySets_65 : decode cX0_leastBySets 65 = .ok (.isub, 1) := by decide +kernel
theorem dX0_leastBySets_66 : decode cX0_leastBySets 66 = .ok (.iaload, 1) := by decide +kernel
theorem dX0_leastBySets_67 : decode cX0_leastBySets 67 = .ok (.ireturn, 1) := by decide +kernel
theorem dX0_leastWithLast_0 : decode cX0_leastWithLast 0 = .ok (.aload_n 0, 1) := by decide +kernel
theorem dX0_leastWithLast_1 : decode cX0_leastWithLast 1 = .ok (.getfield 27, 3) := by decide +kernel
theorem dX0_leastWithLast_4 : decode cX0_leastWithLast 4 = .ok (.iload_n 2, 1) := by decide +kernel
theorem dX0_leastWithLast_5 : decode cX0_leastWithLast 5 = .ok (.iaload, 1) := by decide +kernel
theorem dX0_leastWithLast_6 : decode cX0_leastWithLast 6 = .ok (.aload_n 0, 1) := by decide +kernel
theorem dX0_leastWithLast_7 : decode cX0_leastWithLast 7 = .ok (.getfield 18, 3) := by decide +kernel
theorem dX0_leastWithLast_10 : decode cX0_leastWithLast 10 = .ok (.iload_n 1, 1) := by decide +kernel
theorem dX0_leastWithLast_11 : decode cX0_leastWithLast 11 = .ok (.iaload, 1) := by decide +kernel
theorem dX0_leastWithLast_12 : decode cX0_leastWithLast 12 = .ok (.iadd, 1) := by decide +kernel
theorem dX0_leastWithLast_13 : decode cX0_leastWithLast 13 = .ok (.istore_n 3, 1) := by decide +kernel
theorem dX0_leastWithLast_14 : decode cX0_leastWithLast 14 = .ok (.iconst 0, 1) := by decide +kernel
theorem dX0_leastWithLast_15 : decode cX0_leastWithLast 15 = .ok (.istore 4, 2) := by decide +kernel
theorem dX0_leastWithLast_17 : decode cX0_leastWithLast 17 = .ok (.iload 4, 2) := by decide +kernel
theorem dX0_leastWithLast_19 : decode cX0_leastWithLast 19 = .ok (.iload_n 1, 1) := by decide +kernel
theorem dX0_leastWithLast_20 : decode cX0_leastWithLast 20 = .ok (.if_icmp .ge 58, 3) := by decide +kernel
theorem dX0_leastWithLast_23 : decode cX0_leastWithLast 23 = .ok (.iload_n 2, 1) := by decide +kernel
theorem dX0_leastWithLast_24 : decode cX0_leastWithLast 24 = .ok (.iload 4, 2) := by decide +kernel
theorem dX0_leastWithLast_26 : decode cX0_leastWithLast 26 = .ok (.ishr, 1) := by decide +kernel
theorem dX0_leastWithLast_27 : decode cX0_leastWithLast 27 = .ok (.iconst 1, 1) := by decide +kernel
theorem dX0_leastWithLast_28 : decode cX0_leastWithLast 28 = .ok (.iand, 1) := by decide +kernel
theorem dX0_leastWithLast_29 : decode cX0_leastWithLast 29 = .ok (.iconst 1, 1) := by decide +kernel
theorem dX0_leastWithLast_30 : decode cX0_leastWithLast 30 = .ok (.if_icmp .ne 42, 3) := by decide +kernel
theorem dX0_leastWithLast_33 : decode cX0_leastWithLast 33 = .ok (.aload_n 0, 1) := by decide +kernel
theorem dX0_leastWithLast_34 : decode cX0_leastWithLast 34 = .ok (.getfield 24, 3) := by decide +kernel
theorem dX0_leastWithLast_37 : decode cX0_leastWithLast 37 = .ok (.iload_n 1, 1) := by decide +kernel
theorem dX0_leastWithLast_38 : decode cX0_leastWithLast 38 = .ok (.aaload, 1) := by decide +kernel
theorem dX0_leastWithLast_39 : decode cX0_leastWithLast 39 = .ok (.iload 4, 2) := by decide +kernel
theorem dX0_leastWithLast_41 : decode cX0_leastWithLast 41 = .ok (.iaload, 1) := by decide +kernel
theorem dX0_leastWithLast_42 : decode cX0_leastWithLast 42 = .ok (.iconst (-1), 1) := by decide +kernel
theorem dX0_leastWithLast_43 : decode cX0_leastWithLast 43 = .ok (.if_icmp .eq 29, 3) := by decide +kernel
theorem dX0_leastWithLast_46 : decode cX0_leastWithLast 46 = .ok (.iload_n 3, 1) := by decide +kernel
theorem dX0_leastWithLast_47 : decode cX0_leastWithLast 47 = .ok (.aload_n 0, 1) := by decide +kernel
theorem dX0_leastWithLast_48 : decode cX0_leastWithLast 48 = .ok (.getfield 27, 3) := by decide +kernel
theorem dX0_leastWithLast_51 : decode cX0_leastWithLast 51 = .ok (.iload_n 2, 1) := by decide +kernel
theorem dX0_leastWithLast_52 : decode cX0_leastWithLast 52 = .ok (.iconst 1, 1) := by decide +kernel
theorem dX0_leastWithLast_53 : decode cX0_leastWithLast 53 = .ok (.iload 4, 2) := by decide +kernel
theorem dX0_leastWithLast_55 : decode cX0_leastWithLast 55 = .ok (.ishl, 1) := by decide +kernel
theorem dX0_leastWithLast_56 : decode cX0_leastWithLast 56 = .ok (.ixor, 1) := by decide +kernel
theorem dX0_leastWithLast_57 : decode cX0_leastWithLast 57 = .ok (.iaload, 1) := by decide +kernel
theorem dX0_leastWithLast_58 : decode cX0_leastWithLast 58 = .ok (.aload_n 0, 1) := by decide +kernel
theorem dX0_leastWithLast_59 : decode cX0_leastWithLast 59 = .ok (.getfield 24, 3) := by decide +kernel
theorem dX0_leastWithLast_62 : decode cX0_leastWithLast 62 = .ok (.iload_n 1, 1) := by decide +kernel
theorem dX0_leastWithLast_63 : decode cX0_leastWithLast 63 = .ok (.aaload, 1) := by decide +kernel
theorem dX0_leastWithLast_64 : decode cX0_leastWithLast 64 = .ok (.iload 4, 2) := by decide +kernel
theorem dX0_leastWithLast_66 : decode cX0_leastWithLast 66 = .ok (.iaload, 1) := by decide +kernel
theorem dX0_leastWithLast_67 : decode cX0_leastWithLast 67 = .ok (.iadd, 1) := by decide +kernel
theorem dX0_leastWithLast_68 : decode cX0_leastWithLast 68 = .ok (.invokestatic 60, 3) := by decide +kernel
theorem dX0_leastWithLast_71 : decode cX0_leastWithLast 71 = .ok (.istore_n 3, 1) := by decide +kernel
theorem dX0_leastWithLast_72 : decode cX0_leastWithLast 72 = .ok (.iinc 4 1, 3) := by decide +kernel
theorem dX0_leastWithLast_75 : decode cX0_leastWithLast 75 = .ok (.goto (-58), 3) := by decide +kernel
theorem dX0_leastWithLast_78 : decode cX0_leastWithLast 78 = .ok (.iload_n 3, 1) := by decide +kernel
theorem dX0_leastWithLast_79 : decode cX0_leastWithLast 79 = .ok (.ireturn, 1) := by decide +kernel
theorem dX0_leastByTrying_0 : decode cX0_leastByTrying 0 = .ok (.aload_n 0, 1) := by decide +kernel
theorem dX0_leastByTrying_1 : decode cX0_leastByTrying 1 = .ok (.iconst 0, 1) := by decide +kernel
theorem dX0_leastByTrying_2 : decode cX0_leastByTrying 2 = .ok (.iconst 0, 1) := by decide +kernel
theorem dX0_leastByTrying_3 : decode cX0_leastByTrying 3 = .ok (.invokestatic 78, 3) := by decide +kernel
theorem dX0_leastByTrying_6 : decode cX0_leastByTrying 6 = .ok (.ireturn, 1) := by decide +kernel
theorem dX0_leastFrom_0 : decode cX0_leastFrom 0 = .ok (.iload_n 1, 1) := by decide +kernel
theorem dX0_leastFrom_1 : decode cX0_leastFrom 1 = .ok (.aload_n 0, 1) := by decide +kernel
theorem dX0_leastFrom_2 : decode cX0_leastFrom 2 = .ok (.getfield 66, 3) := by decide +kernel
theorem dX0_leastFrom_5 : decode cX0_leastFrom 5 = .ok (.if_icmp .lt 5, 3) := by decide +kernel
theorem dX0_leastFrom_8 : decode cX0_leastFrom 8 = .ok (.iconst 0, 1) := by decide +kernel
theorem dX0_leastFrom_9 : decode cX0_leastFrom 9 = .ok (.ireturn, 1) := by decide +kernel
theorem dX0_leastFrom_10 : decode cX0_leastFrom 10 = .ok (.iload_n 2, 1) := by decide +kernel
theorem dX0_leastFrom_11 : decode cX0_leastFrom 11 = .ok (.iload_n 1, 1) := by decide +kernel
theorem dX0_leastFrom_12 : decode cX0_leastFrom 12 = .ok (.ishr, 1) := by decide +kernel
theorem dX0_leastFrom_13 : decode cX0_leastFrom 13 = .ok (.iconst 1, 1) := by decide +kernel
theorem dX0_leastFrom_14 : decode cX0_leastFrom 14 = .ok (.iand, 1) := by decide +kernel
theorem dX0_leastFrom_15 : decode cX0_leastFrom 15 = .ok (.iconst 1, 1) := by decide +kernel
theorem dX0_leastFrom_16 : decode cX0_leastFrom 16 = .ok (.if_icmp .ne 12, 3) := by decide +kernel
theorem dX0_leastFrom_19 : decode cX0_leastFrom 19 = .ok (.aload_n 0, 1) := by decide +kernel
theorem dX0_leastFrom_20 : decode cX0_leastFrom 20 = .ok (.iload_n 1, 1) := by decide +kernel
theorem dX0_leastFrom_21 : decode cX0_leastFrom 21 = .ok (.iconst 1, 1) := by decide +kernel
theorem dX0_leastFrom_22 : decode cX0_leastFrom 22 = .ok (.iadd, 1) := by decide +kernel
theorem dX0_leastFrom_23 : decode cX0_leastFrom 23 = .ok (.iload_n 2, 1) := by decide +kernel
theorem dX0_leastFrom_24 : decode cX0_leastFrom 24 = .ok (.invokestatic 78, 3) := by decide +kernel
theorem dX0_leastFrom_27 : decode cX0_leastFrom 27 = .ok (.ireturn, 1) := by decide +kernel
theorem dX0_leastFrom_28 : decode cX0_leastFrom 28 = .ok (.aload_n 0, 1) := by decide +kernel
theorem dX0_leastFrom_29 : decode cX0_leastFrom 29 = .ok (.getfield 18, 3) := by decide +kernel
theorem dX0_leastFrom_32 : decode cX0_leastFrom 32 = .ok (.iload_n 1, 1) := by decide +kernel
theorem dX0_leastFrom_33 : decode cX0_leastFrom 33 = .ok (.iaload, 1) := by decide +kernel
theorem dX0_leastFrom_34 : decode cX0_leastFrom 34 = .ok (.aload_n 0, 1) := by decide +kernel
theorem dX0_leastFrom_35 : decode cX0_leastFrom 35 = .ok (.iload_n 1, 1) := by decide +kernel
theorem dX0_leastFrom_36 : decode cX0_leastFrom 36 = .ok (.iconst 1, 1) := by decide +kernel
theorem dX0_leastFrom_37 : decode cX0_leastFrom 37 = .ok (.iadd, 1) := by decide +kernel
theorem dX0_leastFrom_38 : decode cX0_leastFrom 38 = .ok (.iload_n 2, 1) := by decide +kernel
theorem dX0_leastFrom_39 : decode cX0_leastFrom 39 = .ok (.invokestatic 78, 3) := by decide +kernel
theorem dX0_leastFrom_42 : decode cX0_leastFrom 42 = .ok (.iadd, 1) := by decide +kernel
theorem dX0_leastFrom_43 : decode cX0_leastFrom 43 = .ok (.istore_n 3, 1) := by decide +kernel
theorem dX0_leastFrom_44 : decode cX0_leastFrom 44 = .ok (.iload_n 1, 1) := by decide +kernel
theorem dX0_leastFrom_45 : decode cX0_leastFrom 45 = .ok (.iconst 1, 1) := by decide +kernel
theorem dX0_leastFrom_46 : decode cX0_leastFrom 46 = .ok (.iadd, 1) := by decide +kernel
theorem dX0_leastFrom_47 : decode cX0_leastFrom 47 = .ok (.istore 4, 2) := by decide +kernel
theorem dX0_leastFrom_49 : decode cX0_leastFrom 49 = .ok (.iload 4, 2) := by decide +kernel
theorem dX0_leastFrom_51 : decode cX0_leastFrom 51 = .ok (.aload_n 0, 1) := by decide +kernel
theorem dX0_leastFrom_52 : decode cX0_leastFrom 52 = .ok (.getfield 66, 3) := by decide +kernel
theorem dX0_leastFrom_55 : decode cX0_leastFrom 55 = .ok (.if_icmp .ge 56, 3) := by decide +kernel
theorem dX0_leastFrom_58 : decode cX0_leastFrom 58 = .ok (.aload_n 0, 1) := by decide +kernel
theorem dX0_leastFrom_59 : decode cX0_leastFrom 59 = .ok (.getfield 24, 3) := by decide +kernel
theorem dX0_leastFrom_62 : decode cX0_leastFrom 62 = .ok (.iload_n 1, 1) := by decide +kernel
theorem dX0_leastFrom_63 : decode cX0_leastFrom 63 = .ok (.aaload, 1) := by decide +kernel
theorem dX0_leastFrom_64 : decode cX0_leastFrom 64 = .ok (.iload 4, 2) := by decide +kernel
theorem dX0_leastFrom_66 : decode cX0_leastFrom 66 = .ok (.iaload, 1) := by decide +kernel
theorem dX0_leastFrom_67 : decode cX0_leastFrom 67 = .ok (.istore 5, 2) := by decide +kernel
theorem dX0_leastFrom_69 : decode cX0_leastFrom 69 = .ok (.iload_n 2, 1) := by decide +kernel
theorem dX0_leastFrom_70 : decode cX0_leastFrom 70 = .ok (.iload 4, 2) := by decide +kernel
theorem dX0_leastFrom_72 : decode cX0_leastFrom 72 = .ok (.ishr, 1) := by decide +kernel
theorem dX0_leastFrom_73 : decode cX0_leastFrom 73 = .ok (.iconst 1, 1) := by decide +kernel
theorem dX0_leastFrom_74 : decode cX0_leastFrom 74 = .ok (.iand, 1) := by decide +kernel
theorem dX0_leastFrom_75 : decode cX0_leastFrom 75 = .ok (.ifCond .ne 30, 3) := by decide +kernel
theorem dX0_leastFrom_78 : decode cX0_leastFrom 78 = .ok (.iload 5, 2) := by decide +kernel
theorem dX0_leastFrom_80 : decode cX0_leastFrom 80 = .ok (.iconst (-1), 1) := by decide +kernel
theorem dX0_leastFrom_81 : decode cX0_leastFrom 81 = .ok (.if_icmp .eq 24, 3) := by decide +kernel
theorem dX0_leastFrom_84 : decode cX0_leastFrom 84 = .ok (.iload_n 3, 1) := by decide +kernel
theorem dX0_leastFrom_85 : decode cX0_leastFrom 85 = .ok (.iload 5, 2) := by decide +kernel
theorem dX0_leastFrom_87 : decode cX0_leastFrom 87 = .ok (.aload_n 0, 1) := by decide +kernel
theorem dX0_leastFrom_88 : decode cX0_leastFrom 88 = .ok (.iload_n 1, 1) := by decide +kernel
theorem dX0_leastFrom_89 : decode cX0_leastFrom 89 = .ok (.iconst 1, 1) := by decide +kernel
theorem dX0_leastFrom_90 : decode cX0_leastFrom 90 = .ok (.iadd, 1) := by decide +kernel
theorem dX0_leastFrom_91 : decode cX0_leastFrom 91 = .ok (.iload_n 2, 1) := by decide +kernel
theorem dX0_leastFrom_92 : decode cX0_leastFrom 92 = .ok (.iconst 1, 1) := by decide +kernel
theorem dX0_leastFrom_93 : decode cX0_leastFrom 93 = .ok (.iload 4, 2) := by decide +kernel
theorem dX0_leastFrom_95 : decode cX0_leastFrom 95 = .ok (.ishl, 1) := by decide +kernel
theorem dX0_leastFrom_96 : decode cX0_leastFrom 96 = .ok (.ior, 1) := by decide +kernel
theorem dX0_leastFrom_97 : decode cX0_leastFrom 97 = .ok (.invokestatic 78, 3) := by decide +kernel
theorem dX0_leastFrom_100 : decode cX0_leastFrom 100 = .ok (.iadd, 1) := by decide +kernel
theorem dX0_leastFrom_101 : decode cX0_leastFrom 101 = .ok (.invokestatic 60, 3) := by decide +kernel
theorem dX0_leastFrom_104 : decode cX0_leastFrom 104 = .ok (.istore_n 3, 1) := by decide +kernel
theorem dX0_leastFrom_105 : decode cX0_leastFrom 105 = .ok (.iinc 4 1, 3) := by decide +kernel
theorem dX0_leastFrom_108 : decode cX0_leastFrom 108 = .ok (.goto (-59), 3) := by decide +kernel
theorem dX0_leastFrom_111 : decode cX0_leastFrom 111 = .ok (.iload_n 3, 1) := by decide +kernel
theorem dX0_leastFrom_112 : decode cX0_leastFrom 112 = .ok (.ireturn, 1) := by decide +kernel
theorem dX1_init_0 : decode cX1_init 0 = .ok (.aload_n 0, 1) := by decide +kernel
theorem dX1_init_1 : decode cX1_init 1 = .ok (.invokespecial 3, 3) := by decide +kernel
theorem dX1_init_4 : decode cX1_init 4 = .ok (.aload_n 0, 1) := by decide +kernel
theorem dX1_init_5 : decode cX1_init 5 = .ok (.bipush 7, 2) := by decide +kernel
theorem dX1_init_7 : decode cX1_init 7 = .ok (.anewarray 9, 3) := by decide +kernel
theorem dX1_init_10 : decode cX1_init 10 = .ok (.putfield 11, 3) := by decide +kernel
theorem dX1_init_13 : decode cX1_init 13 = .ok (.aload_n 0, 1) := by decide +kernel
theorem dX1_init_14 : decode cX1_init 14 = .ok (.bipush 12, 2) := by decide +kernel
theorem dX1_init_16 : decode cX1_init 16 = .ok (.newarray .int, 2) := by decide +kernel
theorem dX1_init_18 : decode cX1_init 18 = .ok (.putfield 17, 3) := by decide +kernel
theorem dX1_init_21 : decode cX1_init 21 = .ok (.aload_n 0, 1) := by decide +kernel
theorem dX1_init_22 : decode cX1_init 22 = .ok (.iconst 4, 1) := by decide +kernel
theorem dX1_init_23 : decode cX1_init 23 = .ok (.newarray .int, 2) := by decide +kernel
theorem dX1_init_25 : decode cX1_init 25 = .ok (.putfield 21, 3) := by decide +kernel
theorem dX1_init_28 : decode cX1_init 28 = .ok (.aload_n 0, 1) := by decide +kernel
theorem dX1_init_29 : decode cX1_init 29 = .ok (.iconst 4, 1) := by decide +kernel
theorem dX1_init_30 : decode cX1_init 30 = .ok (.newarray .int, 2) := by decide +kernel
theorem dX1_init_32 : decode cX1_init 32 = .ok (.putfield 24, 3) := by decide +kernel
theorem dX1_init_35 : decode cX1_init 35 = .ok (.iconst 0, 1) := by decide +kernel
theorem dX1_init_36 : decode cX1_init 36 = .ok (.istore_n 1, 1) := by decide +kernel
theorem dX1_init_37 : decode cX1_init 37 = .ok (.iload_n 1, 1) := by decide +kernel
theorem dX1_init_38 : decode cX1_init 38 = .ok (.aload_n 0, 1) := by decide +kernel
theorem dX1_init_39 : decode cX1_init 39 = .ok (.getfield 11, 3) := by decide +kernel
theorem dX1_init_42 : decode cX1_init 42 = .ok (.arraylength, 1) := by decide +kernel
theorem dX1_init_43 : decode cX1_init 43 = .ok (.if_icmp .ge 22, 3) := by decide +kernel
theorem dX1_init_46 : decode cX1_init 46 = .ok (.aload_n 0, 1) := by decide +kernel
theorem dX1_init_47 : decode cX1_init 47 = .ok (.getfield 11, 3) := by decide +kernel
theorem dX1_init_50 : decode cX1_init 50 = .ok (.iload_n 1, 1) := by decide +kernel
theorem dX1_init_51 : decode cX1_init 51 = .ok (.new 9, 3) := by decide +kernel
theorem dX1_init_54 : decode cX1_init 54 = .ok (.dup, 1) := by decide +kernel
theorem dX1_init_55 : decode cX1_init 55 = .ok (.invokespecial 27, 3) := by decide +kernel
theorem dX1_init_58 : decode cX1_init 58 = .ok (.aastore, 1) := by decide +kernel
theorem dX1_init_59 : decode cX1_init 59 = .ok (.iinc 1 1, 3) := by decide +kernel
theorem dX1_init_62 : decode cX1_init 62 = .ok (.goto (-25), 3) := by decide +kernel
theorem dX1_init_65 : decode cX1_init 65 = .ok (.iconst 0, 1) := by decide +kernel
theorem dX1_init_66 : decode cX1_init 66 = .ok (.istore_n 1, 1) := by decide +kernel
theorem dX1_init_67 : decode cX1_init 67 = .ok (.iload_n 1, 1) := by decide +kernel
theorem dX1_init_68 : decode cX1_init 68 = .ok (.aload_n 0, 1) := by decide +kernel
theorem dX1_init_69 : decode cX1_init 69 = .ok (.getfield 17, 3) := by decide +kernel
theorem dX1_init_72 : decode cX1_init 72 = .ok (.arraylength, 1) := by decide +kernel
theorem dX1_init_73 : decode cX1_init 73 = .ok (.if_icmp .ge 20, 3) := by decide +kernel
theorem dX1_init_76 : decode cX1_init 76 = .ok (.aload_n 0, 1) := by decide +kernel
theorem dX1_init_77 : decode cX1_init 77 = .ok (.getfield 17, 3) := by decide +kernel
theorem dX1_init_80 : decode cX1_init 80 = .ok (.iload_n 1, 1) := by decide +kernel
theorem dX1_init_81 : decode cX1_init 81 = .ok (.iconst 5, 1) := by decide +kernel
theorem dX1_init_82 : decode cX1_init 82 = .ok (.iload_n 1, 1) := by decide +kernel
theorem dX1_init_83 : decode cX1_init 83 = .ok (.imul, 1) := by decide +kernel
theorem dX1_init_84 : decode cX1_init 84 = .ok (.iconst 5, 1) := by decide +kernel
theorem dX1_init_85 : decode cX1_init 85 = .ok (.iadd, 1) := by decide +kernel
theorem dX1_init_86 : decode cX1_init 86 = .ok (.iastore, 1) := by decide +kernel
theorem dX1_init_87 : decode cX1_init 87 = .ok (.iinc 1 1, 3) := by decide +kernel
theorem dX1_init_90 : decode cX1_init 90 = .ok (.goto (-23), 3) := by decide +kernel
theorem dX1_init_93 : decode cX1_init 93 = .ok (.iconst 0, 1) := by decide +kernel
theorem dX1_init_94 : decode cX1_init 94 = .ok (.istore_n 1, 1) := by decide +kernel
theorem dX1_init_95 : decode cX1_init 95 = .ok (.iload_n 1, 1) := by decide +kernel
theorem dX1_init_96 : decode cX1_init 96 = .ok (.aload_n 0, 1) := by decide +kernel
theorem dX1_init_97 : decode cX1_init 97 = .ok (.getfield 21, 3) := by decide +kernel
theorem dX1_init_100 : decode cX1_init 100 = .ok (.arraylength, 1) := by decide +kernel
theorem dX1_init_101 : decode cX1_init 101 = .ok (.if_icmp .ge 18, 3) := by decide +kernel
theorem dX1_init_104 : decode cX1_init 104 = .ok (.aload_n 0, 1) := by decide +kernel
theorem dX1_init_105 : decode cX1_init 105 = .ok (.getfield 21, 3) := by decide +kernel
theorem dX1_init_108 : decode cX1_init 108 = .ok (.iload_n 1, 1) := by decide +kernel
theorem dX1_init_109 : decode cX1_init 109 = .ok (.iload_n 1, 1) := by decide +kernel
theorem dX1_init_110 : decode cX1_init 110 = .ok (.iconst 1, 1) := by decide +kernel
theorem dX1_init_111 : decode cX1_init 111 = .ok (.iadd, 1) := by decide +kernel
theorem dX1_init_112 : decode cX1_init 112 = .ok (.iastore, 1) := by decide +kernel
theorem dX1_init_113 : decode cX1_init 113 = .ok (.iinc 1 1, 3) := by decide +kernel
theorem dX1_init_116 : decode cX1_init 116 = .ok (.goto (-21), 3) := by decide +kernel
theorem dX1_init_119 : decode cX1_init 119 = .ok (.iconst 0, 1) := by decide +kernel
theorem dX1_init_120 : decode cX1_init 120 = .ok (.istore_n 1, 1) := by decide +kernel
theorem dX1_init_121 : decode cX1_init 121 = .ok (.iload_n 1, 1) := by decide +kernel
theorem dX1_init_122 : decode cX1_init 122 = .ok (.aload_n 0, 1) := by decide +kernel
theorem dX1_init_123 : decode cX1_init 123 = .ok (.getfield 24, 3) := by decide +kernel
theorem dX1_init_126 : decode cX1_init 126 = .ok (.arraylength, 1) := by decide +kernel
theorem dX1_init_127 : decode cX1_init 127 = .ok (.if_icmp .ge 28, 3) := by decide +kernel
theorem dX1_init_130 : decode cX1_init 130 = .ok (.iload_n 1, 1) := by decide +kernel
theorem dX1_init_131 : decode cX1_init 131 = .ok (.getstatic 28, 3) := by decide +kernel
theorem dX1_init_134 : decode cX1_init 134 = .ok (.arraylength, 1) := by decide +kernel
theorem dX1_init_135 : decode cX1_init 135 = .ok (.if_icmp .ge 20, 3) := by decide +kernel
theorem dX1_init_138 : decode cX1_init 138 = .ok (.aload_n 0, 1) := by decide +kernel
theorem dX1_init_139 : decode cX1_init 139 = .ok (.getfield 24, 3) := by decide +kernel
theorem dX1_init_142 : decode cX1_init 142 = .ok (.iload_n 1, 1) := by decide +kernel
theorem dX1_init_143 : decode cX1_init 143 = .ok (.getstatic 28, 3) := by decide +kernel
theorem dX1_init_146 : decode cX1_init 146 = .ok (.iload_n 1, 1) := by decide +kernel
theorem dX1_init_147 : decode cX1_init 147 = .ok (.iaload, 1) := by decide +kernel
theorem dX1_init_148 : decode cX1_init 148 = .ok (.iastore, 1) := by decide +kernel
theorem dX1_init_149 : decode cX1_init 149 = .ok (.iinc 1 1, 3) := by decide +kernel
theorem dX1_init_152 : decode cX1_init 152 = .ok (.goto (-31), 3) := by decide +kernel
theorem dX1_init_155 : decode cX1_init 155 = .ok (.return_, 1) := by decide +kernel
theorem dX1_copyFrom_0 : decode cX1_copyFrom 0 = .ok (.iconst 0, 1) := by decide +kernel
theorem dX1_copyFrom_1 : decode cX1_copyFrom 1 = .ok (.istore_n 2, 1) := by decide +kernel
theorem dX1_copyFrom_2 : decode cX1_copyFrom 2 = .ok (.iload_n 2, 1) := by decide +kernel
theorem dX1_copyFrom_3 : decode cX1_copyFrom 3 = .ok (.aload_n 1, 1) := by decide +kernel
theorem dX1_copyFrom_4 : decode cX1_copyFrom 4 = .ok (.getfield 31, 3) := by decide +kernel
theorem dX1_copyFrom_7 : decode cX1_copyFrom 7 = .ok (.if_icmp .ge 33, 3) := by decide +kernel
theorem dX1_copyFrom_10 : decode cX1_copyFrom 10 = .ok (.iload_n 2, 1) := by decide +kernel
theorem dX1_copyFrom_11 : decode cX1_copyFrom 11 = .ok (.aload_n 0, 1) := by decide +kernel
theorem dX1_copyFrom_12 : decode cX1_copyFrom 12 = .ok (.getfield 11, 3) := by decide +kernel
theorem dX1_copyFrom_15 : decode cX1_copyFrom 15 = .ok (.arraylength, 1) := by decide +kernel
theorem dX1_copyFrom_16 : decode cX1_copyFrom 16 = .ok (.if_icmp .ge 24, 3) := by decide +kernel
theorem dX1_copyFrom_19 : decode cX1_copyFrom 19 = .ok (.aload_n 0, 1) := by decide +kernel
theorem dX1_copyFrom_20 : decode cX1_copyFrom 20 = .ok (.getfield 11, 3) := by decide +kernel
theorem dX1_copyFrom_23 : decode cX1_copyFrom 23 = .ok (.iload_n 2, 1) := by decide +kernel
theorem dX1_copyFrom_24 : decode cX1_copyFrom 24 = .ok (.aaload, 1) := by decide +kernel
theorem dX1_copyFrom_25 : decode cX1_copyFrom 25 = .ok (.aload_n 1, 1) := by decide +kernel
theorem dX1_copyFrom_26 : decode cX1_copyFrom 26 = .ok (.getfield 11, 3) := by decide +kernel
theorem dX1_copyFrom_29 : decode cX1_copyFrom 29 = .ok (.iload_n 2, 1) := by decide +kernel
theorem dX1_copyFrom_30 : decode cX1_copyFrom 30 = .ok (.aaload, 1) := by decide +kernel
theorem dX1_copyFrom_31 : decode cX1_copyFrom 31 = .ok (.invokevirtual 35, 3) := by decide +kernel
theorem dX1_copyFrom_34 : decode cX1_copyFrom 34 = .ok (.iinc 2 1, 3) := by decide +kernel
theorem dX1_copyFrom_37 : decode cX1_copyFrom 37 = .ok (.goto (-35), 3) := by decide +kernel
theorem dX1_copyFrom_40 : decode cX1_copyFrom 40 = .ok (.aload_n 1, 1) := by decide +kernel
theorem dX1_copyFrom_41 : decode cX1_copyFrom 41 = .ok (.getfield 17, 3) := by decide +kernel
theorem dX1_copyFrom_44 : decode cX1_copyFrom 44 = .ok (.iconst 0, 1) := by decide +kernel
theorem dX1_copyFrom_45 : decode cX1_copyFrom 45 = .ok (.aload_n 0, 1) := by decide +kernel
theorem dX1_copyFrom_46 : decode cX1_copyFrom 46 = .ok (.getfield 17, 3) := by decide +kernel
theorem dX1_copyFrom_49 : decode cX1_copyFrom 49 = .ok (.iconst 0, 1) := by decide +kernel
theorem dX1_copyFrom_50 : decode cX1_copyFrom 50 = .ok (.bipush 12, 2) := by decide +kernel
theorem dX1_copyFrom_52 : decode cX1_copyFrom 52 = .ok (.invokestatic 39, 3) := by decide +kernel
theorem dX1_copyFrom_55 : decode cX1_copyFrom 55 = .ok (.aload_n 1, 1) := by decide +kernel
theorem dX1_copyFrom_56 : decode cX1_copyFrom 56 = .ok (.getfield 21, 3) := by decide +kernel
theorem dX1_copyFrom_59 : decode cX1_copyFrom 59 = .ok (.iconst 0, 1) := by decide +kernel
theorem dX1_copyFrom_60 : decode cX1_copyFrom 60 = .ok (.aload_n 0, 1) := by decide +kernel
theorem dX1_copyFrom_61 : decode cX1_copyFrom 61 = .ok (.getfield 21, 3) := by decide +kernel
theorem dX1_copyFrom_64 : decode cX1_copyFrom 64 = .ok (.iconst 0, 1) := by decide +kernel
theorem dX1_copyFrom_65 : decode cX1_copyFrom 65 = .ok (.iconst 4, 1) := by decide +kernel
theorem dX1_copyFrom_66 : decode cX1_copyFrom 66 = .ok (.invokestatic 39, 3) := by decide +kernel
theorem dX1_copyFrom_69 : decode cX1_copyFrom 69 = .ok (.aload_n 1, 1) := by decide +kernel
theorem dX1_copyFrom_70 : decode cX1_copyFrom 70 = .ok (.getfield 24, 3) := by decide +kernel
theorem dX1_copyFrom_73 : decode cX1_copyFrom 73 = .ok (.iconst 0, 1) := by decide +kernel
theorem dX1_copyFrom_74 : decode cX1_copyFrom 74 = .ok (.aload_n 0, 1) := by decide +kernel
theorem dX1_copyFrom_75 : decode cX1_copyFrom 75 = .ok (.getfield 24, 3) := by decide +kernel
theorem dX1_copyFrom_78 : decode cX1_copyFrom 78 = .ok (.iconst 0, 1) := by decide +kernel
theorem dX1_copyFrom_79 : decode cX1_copyFrom 79 = .ok (.iconst 4, 1) := by decide +kernel
theorem dX1_copyFrom_80 : decode cX1_copyFrom 80 = .ok (.invokestatic 39, 3) := by decide +kernel
theorem dX1_copyFrom_83 : decode cX1_copyFrom 83 = .ok (.aload_n 0, 1) := by decide +kernel
theorem dX1_copyFrom_84 : decode cX1_copyFrom 84 = .ok (.aload_n 1, 1) := by decide +kernel
theorem dX1_copyFrom_85 : decode cX1_copyFrom 85 = .ok (.getfield 31, 3) := by decide +kernel
theorem dX1_copyFrom_88 : decode cX1_copyFrom 88 = .ok (.putfield 31, 3) := by decide +kernel
theorem dX1_copyFrom_91 : decode cX1_copyFrom 91 = .ok (.aload_n 0, 1) := by decide +kernel
theorem dX1_copyFrom_92 : decode cX1_copyFrom 92 = .ok (.aload_n 1, 1) := by decide +kernel
theorem dX1_copyFrom_93 : decode cX1_copyFrom 93 = .ok (.getfield 45, 3) := by decide +kernel
theorem dX1_copyFrom_96 : decode cX1_copyFrom 96 = .ok (.putfield 45, 3) := by decide +kernel
theorem dX1_copyFrom_99 : decode cX1_copyFrom 99 = .ok (.aload_n 0, 1) := by decide +kernel
theorem dX1_copyFrom_100 : decode cX1_copyFrom 100 = .ok (.aload_n 1, 1) := by decide +kernel
theorem dX1_copyFrom_101 : decode cX1_copyFrom 101 = .ok (.getfield 48, 3) := by decide +kernel
theorem dX1_copyFrom_104 : decode cX1_copyFrom 104 = .ok (.putfield 48, 3) := by decide +kernel
theorem dX1_copyFrom_107 : decode cX1_copyFrom 107 = .ok (.aload_n 0, 1) := by decide +kernel
theorem dX1_copyFrom_108 : decode cX1_copyFrom 108 = .ok (.aload_n 1, 1) := by decide +kernel
theorem dX1_copyFrom_109 : decode cX1_copyFrom 109 = .ok (.getfield 51, 3) := by decide +kernel
theorem dX1_copyFrom_112 : decode cX1_copyFrom 112 = .ok (.putfield 51, 3) := by decide +kernel
theorem dX1_copyFrom_115 : decode cX1_copyFrom 115 = .ok (.aload_n 0, 1) := by decide +kernel
theorem dX1_copyFrom_116 : decode cX1_copyFrom 116 = .ok (.aload_n 1, 1) := by decide +kernel
theorem dX1_copyFrom_117 : decode cX1_copyFrom 117 = .ok (.getfield 54, 3) := by decide +kernel
theorem dX1_copyFrom_120 : decode cX1_copyFrom 120 = .ok (.putfield 54, 3) := by decide +kernel
theorem dX1_copyFrom_123 : decode cX1_copyFrom 123 = .ok (.aload_n 0, 1) := by decide +kernel
theorem dX1_copyFrom_124 : decode cX1_copyFrom 124 = .ok (.aload_n 1, 1) := by decide +kernel
theorem dX1_copyFrom_125 : decode cX1_copyFrom 125 = .ok (.getfield 57, 3) := by decide +kernel
theorem dX1_copyFrom_128 : decode cX1_copyFrom 128 = .ok (.putfield 57, 3) := by decide +kernel
theorem dX1_copyFrom_131 : decode cX1_copyFrom 131 = .ok (.return_, 1) := by decide +kernel
theorem dX1_admit_0 : decode cX1_admit 0 = .ok (.aload_n 0, 1) := by decide +kernel
theorem dX1_admit_1 : decode cX1_admit 1 = .ok (.getfield 31, 3) := by decide +kernel
theorem dX1_admit_4 : decode cX1_admit 4 = .ok (.aload_n 0, 1) := by decide +kernel
theorem dX1_admit_5 : decode cX1_admit 5 = .ok (.getfield 11, 3) := by decide +kernel
theorem dX1_admit_8 : decode cX1_admit 8 = .ok (.arraylength, 1) := by decide +kernel
theorem dX1_admit_9 : decode cX1_admit 9 = .ok (.if_icmp .lt 15, 3) := by decide +kernel
theorem dX1_admit_12 : decode cX1_admit 12 = .ok (.aload_n 0, 1) := by decide +kernel
theorem dX1_admit_13 : decode cX1_admit 13 = .ok (.dup, 1) := by decide +kernel
theorem dX1_admit_14 : decode cX1_admit 14 = .ok (.getfield 57, 3) := by decide +kernel
theorem dX1_admit_17 : decode cX1_admit 17 = .ok (.iconst 1, 1) := by decide +kernel
theorem dX1_admit_18 : decode cX1_admit 18 = .ok (.iadd, 1) := by decide +kernel
theorem dX1_admit_19 : decode cX1_admit 19 = .ok (.putfield 57, 3) := by decide +kernel
theorem dX1_admit_22 : decode cX1_admit 22 = .ok (.iconst (-1), 1) := by decide +kernel
theorem dX1_admit_23 : decode cX1_admit 23 = .ok (.ireturn, 1) := by decide +kernel
theorem dX1_admit_24 : decode cX1_admit 24 = .ok (.aload_n 0, 1) := by decide +kernel
theorem dX1_admit_25 : decode cX1_admit 25 = .ok (.getfield 11, 3) := by decide +kernel
theorem dX1_admit_28 : decode cX1_admit 28 = .ok (.aload_n 0, 1) := by decide +kernel
theorem dX1_admit_29 : decode cX1_admit 29 = .ok (.getfield 31, 3) := by decide +kernel
theorem dX1_admit_32 : decode cX1_admit 32 = .ok (.aaload, 1) := by decide +kernel
theorem dX1_admit_33 : decode cX1_admit 33 = .ok (.iload_n 1, 1) := by decide +kernel
theorem dX1_admit_34 : decode cX1_admit 34 = .ok (.iload_n 2, 1) := by decide +kernel
theorem dX1_admit_35 : decode cX1_admit 35 = .ok (.iload_n 3, 1) := by decide +kernel
theorem dX1_admit_36 : decode cX1_admit 36 = .ok (.iload 4, 2) := by decide +kernel
theorem dX1_admit_38 : decode cX1_admit 38 = .ok (.iload 5, 2) := by decide +kernel
theorem dX1_admit_40 : decode cX1_admit 40 = .ok (.iload 6, 2) := by decide +kernel
theorem dX1_admit_42 : decode cX1_admit 42 = .ok (.invokevirtual 60, 3) := by decide +kernel
theorem dX1_admit_45 : decode cX1_admit 45 = .ok (.aload_n 0, 1) := by decide +kernel
theorem dX1_admit_46 : decode cX1_admit 46 = .ok (.dup, 1) := by decide +kernel
theorem dX1_admit_47 : decode cX1_admit 47 = .ok (.getfield 31, 3) := by decide +kernel
theorem dX1_admit_50 : decode cX1_admit 50 = .ok (.iconst 1, 1) := by decide +kernel
theorem dX1_admit_51 : decode cX1_admit 51 = .ok (.iadd, 1) := by decide +kernel
theorem dX1_admit_52 : decode cX1_admit 52 = .ok (.putfield 31, 3) := by decide +kernel
theorem dX1_admit_55 : decode cX1_admit 55 = .ok (.aload_n 0, 1) := by decide +kernel
theorem dX1_admit_56 : decode cX1_admit 56 = .ok (.getfield 31, 3) := by decide +kernel
theorem dX1_admit_59 : decode cX1_admit 59 = .ok (.iconst 1, 1) := by decide +kernel
theorem dX1_admit_60 : decode cX1_admit 60 = .ok (.isub, 1) := by decide +kernel
theorem dX1_admit_61 : decode cX1_admit 61 = .ok (.ireturn, 1) := by decide +kernel
theorem dX1_remove_0 : decode cX1_remove 0 = .ok (.aload_n 0, 1) := by decide +kernel
theorem dX1_remove_1 : decode cX1_remove 1 = .ok (.getfield 11, 3) := by decide +kernel
theorem dX1_remove_4 : decode cX1_remove 4 = .ok (.iload_n 1, 1) := by decide +kernel
theorem dX1_remove_5 : decode cX1_remove 5 = .ok (.aaload, 1) := by decide +kernel
theorem dX1_remove_6 : decode cX1_remove 6 = .ok (.astore_n 2, 1) := by decide +kernel
theorem dX1_remove_7 : decode cX1_remove 7 = .ok (.iload_n 1, 1) := by decide +kernel
theorem dX1_remove_8 : decode cX1_remove 8 = .ok (.istore_n 3, 1) := by decide +kernel
theorem dX1_remove_9 : decode cX1_remove 9 = .ok (.iload_n 1, 1) := by decide +kernel
theorem dX1_remove_10 : decode cX1_remove 10 = .ok (.iconst 1, 1) := by decide +kernel
theorem dX1_remove_11 : decode cX1_remove 11 = .ok (.iadd, 1) := by decide +kernel
theorem dX1_remove_12 : decode cX1_remove 12 = .ok (.istore 4, 2) := by decide +kernel
theorem dX1_remove_14 : decode cX1_remove 14 = .ok (.iload 4, 2) := by decide +kernel
theorem dX1_remove_16 : decode cX1_remove 16 = .ok (.aload_n 0, 1) := by decide +kernel
theorem dX1_remove_17 : decode cX1_remove 17 = .ok (.getfield 31, 3) := by decide +kernel
theorem dX1_remove_20 : decode cX1_remove 20 = .ok (.if_icmp .ge 38, 3) := by decide +kernel
theorem dX1_remove_23 : decode cX1_remove 23 = .ok (.iload 4, 2) := by decide +kernel
theorem dX1_remove_25 : decode cX1_remove 25 = .ok (.aload_n 0, 1) := by decide +kernel
theorem dX1_remove_26 : decode cX1_remove 26 = .ok (.getfield 11, 3) := by decide +kernel
theorem dX1_remove_29 : decode cX1_remove 29 = .ok (.arraylength, 1) := by decide +kernel
theorem dX1_remove_30 : decode cX1_remove 30 = .ok (.if_icmp .ge 28, 3) := by decide +kernel
theorem dX1_remove_33 : decode cX1_remove 33 = .ok (.aload_n 0, 1) := by decide +kernel
theorem dX1_remove_34 : decode cX1_remove 34 = .ok (.getfield 11, 3) := by decide +kernel
theorem dX1_remove_37 : decode cX1_remove 37 = .ok (.iload 4, 2) := by decide +kernel
theorem dX1_remove_39 : decode cX1_remove 39 = .ok (.iconst 1, 1) := by decide +kernel
theorem dX1_remove_40 : decode cX1_remove 40 = .ok (.isub, 1) := by decide +kernel
theorem dX1_remove_41 : decode cX1_remove 41 = .ok (.aload_n 0, 1) := by decide +kernel
theorem dX1_remove_42 : decode cX1_remove 42 = .ok (.getfield 11, 3) := by decide +kernel
theorem dX1_remove_45 : decode cX1_remove 45 = .ok (.iload 4, 2) := by decide +kernel
theorem dX1_remove_47 : decode cX1_remove 47 = .ok (.aaload, 1) := by decide +kernel
theorem dX1_remove_48 : decode cX1_remove 48 = .ok (.aastore, 1) := by decide +kernel
theorem dX1_remove_49 : decode cX1_remove 49 = .ok (.iload 4, 2) := by decide +kernel
theorem dX1_remove_51 : decode cX1_remove 51 = .ok (.istore_n 3, 1) := by decide +kernel
theorem dX1_remove_52 : decode cX1_remove 52 = .ok (.iinc 4 1, 3) := by decide +kernel
theorem dX1_remove_55 : decode cX1_remove 55 = .ok (.goto (-41), 3) := by decide +kernel
theorem dX1_remove_58 : decode cX1_remove 58 = .ok (.aload_n 0, 1) := by decide +kernel
theorem dX1_remove_59 : decode cX1_remove 59 = .ok (.getfield 11, 3) := by decide +kernel
theorem dX1_remove_62 : decode cX1_remove 62 = .ok (.iload_n 3, 1) := by decide +kernel
theorem dX1_remove_63 : decode cX1_remove 63 = .ok (.aload_n 2, 1) := by decide +kernel
theorem dX1_remove_64 : decode cX1_remove 64 = .ok (.aastore, 1) := by decide +kernel
theorem dX1_remove_65 : decode cX1_remove 65 = .ok (.aload_n 0, 1) := by decide +kernel
theorem dX1_remove_66 : decode cX1_remove 66 = .ok (.dup, 1) := by decide +kernel
theorem dX1_remove_67 : decode cX1_remove 67 = .ok (.getfield 31, 3) := by decide +kernel
theorem dX1_remove_70 : decode cX1_remove 70 = .ok (.iconst 1, 1) := by decide +kernel
theorem dX1_remove_71 : decode cX1_remove 71 = .ok (.isub, 1) := by decide +kernel
theorem dX1_remove_72 : decode cX1_remove 72 = .ok (.putfield 31, 3) := by decide +kernel
theorem dX1_remove_75 : decode cX1_remove 75 = .ok (.return_, 1) := by decide +kernel
theorem dX1_sendOff_0 : decode cX1_sendOff 0 = .ok (.aload_n 0, 1) := by decide +kernel
theorem dX1_sendOff_1 : decode cX1_sendOff 1 = .ok (.getfield 11, 3) := by decide +kernel
theorem dX1_sendOff_4 : decode cX1_sendOff 4 = .ok (.iload_n 1, 1) := by decide +kernel
theorem dX1_sendOff_5 : decode cX1_sendOff 5 = .ok (.aaload, 1) := by decide +kernel
theorem dX1_sendOff_6 : decode cX1_sendOff 6 = .ok (.astore_n 2, 1) := by decide +kernel
theorem dX1_sendOff_7 : decode cX1_sendOff 7 = .ok (.aload_n 0, 1) := by decide +kernel
theorem dX1_sendOff_8 : decode cX1_sendOff 8 = .ok (.aload_n 2, 1) := by decide +kernel
theorem dX1_sendOff_9 : decode cX1_sendOff 9 = .ok (.aload_n 2, 1) := by decide +kernel
theorem dX1_sendOff_10 : decode cX1_sendOff 10 = .ok (.getfield 64, 3) := by decide +kernel
theorem dX1_sendOff_13 : decode cX1_sendOff 13 = .ok (.invokevirtual 67, 3) := by decide +kernel
theorem dX1_sendOff_16 : decode cX1_sendOff 16 = .ok (.istore_n 3, 1) := by decide +kernel
theorem dX1_sendOff_17 : decode cX1_sendOff 17 = .ok (.iload_n 3, 1) := by decide +kernel
theorem dX1_sendOff_18 : decode cX1_sendOff 18 = .ok (.ifCond .eq 15, 3) := by decide +kernel
theorem dX1_sendOff_21 : decode cX1_sendOff 21 = .ok (.aload_n 0, 1) := by decide +kernel
theorem dX1_sendOff_22 : decode cX1_sendOff 22 = .ok (.dup, 1) := by decide +kernel
theorem dX1_sendOff_23 : decode cX1_sendOff 23 = .ok (.getfield 57, 3) := by decide +kernel
theorem dX1_sendOff_26 : decode cX1_sendOff 26 = .ok (.iconst 1, 1) := by decide +kernel
theorem dX1_sendOff_27 : decode cX1_sendOff 27 = .ok (.iadd, 1) := by decide +kernel
theorem dX1_sendOff_28 : decode cX1_sendOff 28 = .ok (.putfield 57, 3) := by decide +kernel
theorem dX1_sendOff_31 : decode cX1_sendOff 31 = .ok (.iload_n 3, 1) := by decide +kernel
theorem dX1_sendOff_32 : decode cX1_sendOff 32 = .ok (.ireturn, 1) := by decide +kernel
theorem dX1_sendOff_33 : decode cX1_sendOff 33 = .ok (.aload_n 0, 1) := by decide +kernel
theorem dX1_sendOff_34 : decode cX1_sendOff 34 = .ok (.iload_n 1, 1) := by decide +kernel
theorem dX1_sendOff_35 : decode cX1_sendOff 35 = .ok (.aload_n 0, 1) := by decide +kernel
theorem dX1_sendOff_36 : decode cX1_sendOff 36 = .ok (.aload_n 2, 1) := by decide +kernel
theorem dX1_sendOff_37 : decode cX1_sendOff 37 = .ok (.aload_n 2, 1) := by decide +kernel
theorem dX1_sendOff_38 : decode cX1_sendOff 38 = .ok (.getfield 64, 3) := by decide +kernel
theorem dX1_sendOff_41 : decode cX1_sendOff 41 = .ok (.invokevirtual 71, 3) := by decide +kernel
theorem dX1_sendOff_44 : decode cX1_sendOff 44 = .ok (.invokevirtual 74, 3) := by decide +kernel
theorem dX1_sendOff_47 : decode cX1_sendOff 47 = .ok (.ireturn, 1) := by decide +kernel
theorem dX1_decideDispute_0 : decode cX1_decideDispute 0 = .ok (.aload_n 0, 1) := by decide +kernel
theorem dX1_decideDispute_1 : decode cX1_decideDispute 1 = .ok (.getfield 11, 3) := by decide +kernel
theorem dX1_decideDispute_4 : decode cX1_decideDispute 4 = .ok (.iload_n 1, 1) := by decide +kernel
theorem dX1_decideDispute_5 : decode cX1_decideDispute 5 = .ok (.aaload, 1) := by decide +kernel
theorem dX1_decideDispute_6 : decode cX1_decideDispute 6 = .ok (.astore_n 3, 1) := by decide +kernel
theorem dX1_decideDispute_7 : decode cX1_decideDispute 7 = .ok (.aload_n 0, 1) := by decide +kernel
theorem dX1_decideDispute_8 : decode cX1_decideDispute 8 = .ok (.aload_n 3, 1) := by decide +kernel
theorem dX1_decideDispute_9 : decode cX1_decideDispute 9 = .ok (.aload_n 3, 1) := by decide +kernel
theorem dX1_decideDispute_10 : decode cX1_decideDispute 10 = .ok (.getfield 64, 3) := by decide +kernel
theorem dX1_decideDispute_13 : decode cX1_decideDispute 13 = .ok (.invokevirtual 67, 3) := by decide +kernel
theorem dX1_decideDispute_16 : decode cX1_decideDispute 16 = .ok (.istore 4, 2) := by decide +kernel
theorem dX1_decideDispute_18 : decode cX1_decideDispute 18 = .ok (.iload 4, 2) := by decide +kernel
theorem dX1_decideDispute_20 : decode cX1_decideDispute 20 = .ok (.ifCond .eq 16, 3) := by decide +kernel
theorem dX1_decideDispute_23 : decode cX1_decideDispute 23 = .ok (.aload_n 0, 1) := by decide +kernel
theorem dX1_decideDispute_24 : decode cX1_decideDispute 24 = .ok (.dup, 1) := by decide +kernel
theorem dX1_decideDispute_25 : decode cX1_decideDispute 25 = .ok (.getfield 57, 3) := by decide +kernel
theorem dX1_decideDispute_28 : decode cX1_decideDispute 28 = .ok (.iconst 1, 1) := by decide +kernel
theorem dX1_decideDispute_29 : decode cX1_decideDispute 29 = .ok (.iadd, 1) := by decide +kernel
theorem dX1_decideDispute_30 : decode cX1_decideDispute 30 = .ok (.putfield 57, 3) := by decide +kernel
theorem dX1_decideDispute_33 : decode cX1_decideDispute 33 = .ok (.iload 4, 2) := by decide +kernel
theorem dX1_decideDispute_35 : decode cX1_decideDispute 35 = .ok (.ireturn, 1) := by decide +kernel
theorem dX1_decideDispute_36 : decode cX1_decideDispute 36 = .ok (.iload_n 2, 1) := by decide +kernel
theorem dX1_decideDispute_37 : decode cX1_decideDispute 37 = .ok (.aload_n 0, 1) := by decide +kernel
theorem dX1_decideDispute_38 : decode cX1_decideDispute 38 = .ok (.aload_n 3, 1) := by decide +kernel
theorem dX1_decideDispute_39 : decode cX1_decideDispute 39 = .ok (.aload_n 3, 1) := by decide +kernel
theorem dX1_decideDispute_40 : decode cX1_decideDispute 40 = .ok (.getfield 64, 3) := by decide +kernel
theorem dX1_decideDispute_43 : decode cX1_decideDispute 43 = .ok (.invokevirtual 71, 3) := by decide +kernel
theorem dX1_decideDispute_46 : decode cX1_decideDispute 46 = .ok (.isub, 1) := by decide +kernel
theorem dX1_decideDispute_47 : decode cX1_decideDispute 47 = .ok (.invokestatic 78, 3) := by decide +kernel
theorem dX1_decideDispute_50 : decode cX1_decideDispute 50 = .ok (.aload_n 0, 1) := by decide +kernel
theorem dX1_decideDispute_51 : decode cX1_decideDispute 51 = .ok (.getfield 24, 3) := by decide +kernel
theorem dX1_decideDispute_54 : decode cX1_decideDispute 54 = .ok (.iconst 3, 1) := by decide +kernel
theorem dX1_decideDispute_55 : decode cX1_decideDispute 55 = .ok (.iaload, 1) := by decide +kernel
theorem dX1_decideDispute_56 : decode cX1_decideDispute 56 = .ok (.if_icmp .le 15, 3) := by decide +kernel
theorem dX1_decideDispute_59 : decode cX1_decideDispute 59 = .ok (.aload_n 0, 1) := by decide +kernel
theorem dX1_decideDispute_60 : decode cX1_decideDispute 60 = .ok (.dup, 1) := by decide +kernel
theorem dX1_decideDispute_61 : decode cX1_decideDispute 61 = .ok (.getfield 54, 3) := by decide +kernel
theorem dX1_decideDispute_64 : decode cX1_decideDispute 64 = .ok (.iconst 1, 1) := by decide +kernel
theorem dX1_decideDispute_65 : decode cX1_decideDispute 65 = .ok (.iadd, 1) := by decide +kernel
theorem dX1_decideDispute_66 : decode cX1_decideDispute 66 = .ok (.putfield 54, 3) := by decide +kernel
theorem dX1_decideDispute_69 : decode cX1_decideDispute 69 = .ok (.iconst 4, 1) := by decide +kernel
theorem dX1_decideDispute_70 : decode cX1_decideDispute 70 = .ok (.ireturn, 1) := by decide +kernel
theorem dX1_decideDispute_71 : decode cX1_decideDispute 71 = .ok (.aload_n 0, 1) := by decide +kernel
theorem dX1_decideDispute_72 : decode cX1_decideDispute 72 = .ok (.dup, 1) := by decide +kernel
theorem dX1_decideDispute_73 : decode cX1_decideDispute 73 = .ok (.getfield 51, 3) := by decide +kernel
theorem dX1_decideDispute_76 : decode cX1_decideDispute 76 = .ok (.iconst 1, 1) := by decide +kernel
theorem dX1_decideDispute_77 : decode cX1_decideDispute 77 = .ok (.iadd, 1) := by decide +kernel
theorem dX1_decideDispute_78 : decode cX1_decideDispute 78 = .ok (.putfield 51, 3) := by decide +kernel
theorem dX1_decideDispute_81 : decode cX1_decideDispute 81 = .ok (.aload_n 0, 1) := by decide +kernel
theorem dX1_decideDispute_82 : decode cX1_decideDispute 82 = .ok (.iload_n 1, 1) := by decide +kernel
theorem dX1_decideDispute_83 : decode cX1_decideDispute 83 = .ok (.iload_n 2, 1) := by decide +kernel
theorem dX1_decideDispute_84 : decode cX1_decideDispute 84 = .ok (.invokevirtual 74, 3) := by decide +kernel
theorem dX1_decideDispute_87 : decode cX1_decideDispute 87 = .ok (.ireturn, 1) := by decide +kernel
theorem dX1_dispatch_0 : decode cX1_dispatch 0 = .ok (.aload_n 0, 1) := by decide +kernel
theorem dX1_dispatch_1 : decode cX1_dispatch 1 = .ok (.aload_n 0, 1) := by decide +kernel
theorem dX1_dispatch_2 : decode cX1_dispatch 2 = .ok (.getfield 11, 3) := by decide +kernel
theorem dX1_dispatch_5 : decode cX1_dispatch 5 = .ok (.iload_n 1, 1) := by decide +kernel
theorem dX1_dispatch_6 : decode cX1_dispatch 6 = .ok (.aaload, 1) := by decide +kernel
theorem dX1_dispatch_7 : decode cX1_dispatch 7 = .ok (.iload_n 2, 1) := by decide +kernel
theorem dX1_dispatch_8 : decode cX1_dispatch 8 = .ok (.invokevirtual 84, 3) := by decide +kernel
theorem dX1_dispatch_11 : decode cX1_dispatch 11 = .ok (.istore_n 3, 1) := by decide +kernel
theorem dX1_dispatch_12 : decode cX1_dispatch 12 = .ok (.aload_n 0, 1) := by decide +kernel
theorem dX1_dispatch_13 : decode cX1_dispatch 13 = .ok (.dup, 1) := by decide +kernel
theorem dX1_dispatch_14 : decode cX1_dispatch 14 = .ok (.getfield 45, 3) := by decide +kernel
theorem dX1_dispatch_17 : decode cX1_dispatch 17 = .ok (.iload_n 3, 1) := by decide +kernel
theorem dX1_dispatch_18 : decode cX1_dispatch 18 = .ok (.iadd, 1) := by decide +kernel
theorem dX1_dispatch_19 : decode cX1_dispatch 19 = .ok (.putfield 45, 3) := by decide +kernel
theorem dX1_dispatch_22 : decode cX1_dispatch 22 = .ok (.aload_n 0, 1) := by decide +kernel
theorem dX1_dispatch_23 : decode cX1_dispatch 23 = .ok (.dup, 1) := by decide +kernel
theorem dX1_dispatch_24 : decode cX1_dispatch 24 = .ok (.getfield 48, 3) := by decide +kernel
theorem dX1_dispatch_27 : decode cX1_dispatch 27 = .ok (.iconst 1, 1) := by decide +kernel
theorem dX1_dispatch_28 : decode cX1_dispatch 28 = .ok (.iadd, 1) := by decide +kernel
theorem dX1_dispatch_29 : decode cX1_dispatch 29 = .ok (.putfield 48, 3) := by decide +kernel
theorem dX1_dispatch_32 : decode cX1_dispatch 32 = .ok (.aload_n 0, 1) := by decide +kernel
theorem dX1_dispatch_33 : decode cX1_dispatch 33 = .ok (.iload_n 1, 1) := by decide +kernel
theorem dX1_dispatch_34 : decode cX1_dispatch 34 = .ok (.invokevirtual 87, 3) := by decide +kernel
theorem dX1_dispatch_37 : decode cX1_dispatch 37 = .ok (.bipush 10, 2) := by decide +kernel
theorem dX1_dispatch_39 : decode cX1_dispatch 39 = .ok (.iload_n 3, 1) := by decide +kernel
theorem dX1_dispatch_40 : decode cX1_dispatch 40 = .ok (.iadd, 1) := by decide +kernel
theorem dX1_dispatch_41 : decode cX1_dispatch 41 = .ok (.ireturn, 1) := by decide +kernel
theorem dX1_stringOf_0 : decode cX1_stringOf 0 = .ok (.aload_n 1, 1) := by decide +kernel
theorem dX1_stringOf_1 : decode cX1_stringOf 1 = .ok (.iload_n 2, 1) := by decide +kernel
theorem dX1_stringOf_2 : decode cX1_stringOf 2 = .ok (.invokevirtual 91, 3) := by decide +kernel
theorem dX1_stringOf_5 : decode cX1_stringOf 5 = .ok (.iload_n 2, 1) := by decide +kernel
theorem dX1_stringOf_6 : decode cX1_stringOf 6 = .ok (.iconst 1, 1) := by decide +kernel
theorem dX1_stringOf_7 : decode cX1_stringOf 7 = .ok (.iadd, 1) := by decide +kernel
theorem dX1_stringOf_8 : decode cX1_stringOf 8 = .ok (.aload_n 0, 1) := by decide +kernel
theorem dX1_stringOf_9 : decode cX1_stringOf 9 = .ok (.getfield 24, 3) := by decide +kernel
theorem dX1_stringOf_12 : decode cX1_stringOf 12 = .ok (.iconst 0, 1) := by decide +kernel
theorem dX1_stringOf_13 : decode cX1_stringOf 13 = .ok (.iaload, 1) := by decide +kernel
theorem dX1_stringOf_14 : decode cX1_stringOf 14 = .ok (.imul, 1) := by decide +kernel
theorem dX1_stringOf_15 : decode cX1_stringOf 15 = .ok (.iadd, 1) := by decide +kernel
theorem dX1_stringOf_16 : decode cX1_stringOf 16 = .ok (.ireturn, 1) := by decide +kernel
theorem dX1_isOdd_0 : decode cX1_isOdd 0 = .ok (.aload_n 1, 1) := by decide +kernel
theorem dX1_isOdd_1 : decode cX1_isOdd 1 = .ok (.invokevirtual 94, 3) := by decide +kernel
theorem dX1_isOdd_4 : decode cX1_isOdd 4 = .ok (.aload_n 0, 1) := by decide +kernel
theorem dX1_isOdd_5 : decode cX1_isOdd 5 = .ok (.getfield 24, 3) := by decide +kernel
theorem dX1_isOdd_8 : decode cX1_isOdd 8 = .ok (.iconst 1, 1) := by decide +kernel
theorem dX1_isOdd_9 : decode cX1_isOdd 9 = .ok (.iaload, 1) := by decide +kernel
theorem dX1_isOdd_10 : decode cX1_isOdd 10 = .ok (.if_icmp .le 7, 3) := by decide +kernel
theorem dX1_isOdd_13 : decode cX1_isOdd 13 = .ok (.iconst 1, 1) := by decide +kernel
theorem dX1_isOdd_14 : decode cX1_isOdd 14 = .ok (.goto 4, 3) := by decide +kernel
theorem dX1_isOdd_17 : decode cX1_isOdd 17 = .ok (.iconst 0, 1) := by decide +kernel
theorem dX1_isOdd_18 : decode cX1_isOdd 18 = .ok (.ireturn, 1) := by decide +kernel
theorem dX1_reasonAgainst_0 : decode cX1_reasonAgainst 0 = .ok (.iload_n 2, 1) := by decide +kernel
theorem dX1_reasonAgainst_1 : decode cX1_reasonAgainst 1 = .ok (.ifCond .ne 14, 3) := by decide +kernel
theorem dX1_reasonAgainst_4 : decode cX1_reasonAgainst 4 = .ok (.aload_n 1, 1) := by decide +kernel
theorem dX1_reasonAgainst_5 : decode cX1_reasonAgainst 5 = .ok (.getfield 98, 3) := by decide +kernel
theorem dX1_reasonAgainst_8 : decode cX1_reasonAgainst 8 = .ok (.bipush 30, 2) := by decide +kernel
theorem dX1_reasonAgainst_10 : decode cX1_reasonAgainst 10 = .ok (.if_icmp .le 5, 3) := by decide +kernel
theorem dX1_reasonAgainst_13 : decode cX1_reasonAgainst 13 = .ok (.iconst 1, 1) := by decide +kernel
theorem dX1_reasonAgainst_14 : decode cX1_reasonAgainst 14 = .ok (.ireturn, 1) := by decide +kernel
theorem dX1_reasonAgainst_15 : decode cX1_reasonAgainst 15 = .ok (.iload_n 2, 1) := by decide +kernel
theorem dX1_reasonAgainst_16 : decode cX1_reasonAgainst 16 = .ok (.iconst 1, 1) := by decide +kernel
theorem dX1_reasonAgainst_17 : decode cX1_reasonAgainst 17 = .ok (.if_icmp .ne 14, 3) := by decide +kernel
theorem dX1_reasonAgainst_20 : decode cX1_reasonAgainst 20 = .ok (.aload_n 1, 1) := by decide +kernel
theorem dX1_reasonAgainst_21 : decode cX1_reasonAgainst 21 = .ok (.getfield 98, 3) := by decide +kernel
theorem dX1_reasonAgainst_24 : decode cX1_reasonAgainst 24 = .ok (.bipush 60, 2) := by decide +kernel
theorem dX1_reasonAgainst_26 : decode cX1_reasonAgainst 26 = .ok (.if_icmp .le 5, 3) := by decide +kernel
theorem dX1_reasonAgainst_29 : decode cX1_reasonAgainst 29 = .ok (.iconst 1, 1) := by decide +kernel
theorem dX1_reasonAgainst_30 : decode cX1_reasonAgainst 30 = .ok (.ireturn, 1) := by decide +kernel
theorem dX1_reasonAgainst_31 : decode cX1_reasonAgainst 31 = .ok (.aload_n 1, 1) := by decide +kernel
theorem dX1_reasonAgainst_32 : decode cX1_reasonAgainst 32 = .ok (.invokevirtual 94, 3) := by decide +kernel
theorem dX1_reasonAgainst_35 : decode cX1_reasonAgainst 35 = .ok (.iconst 2, 1) := by decide +kernel
theorem dX1_reasonAgainst_36 : decode cX1_reasonAgainst 36 = .ok (.aload_n 0, 1) := by decide +kernel
theorem dX1_reasonAgainst_37 : decode cX1_reasonAgainst 37 = .ok (.getfield 24, 3) := by decide +kernel
theorem dX1_reasonAgainst_40 : decode cX1_reasonAgainst 40 = .ok (.iconst 1, 1) := by decide +kernel
theorem dX1_reasonAgainst_41 : decode cX1_reasonAgainst 41 = .ok (.iaload, 1) := by decide +kernel
theorem dX1_reasonAgainst_42 : decode cX1_reasonAgainst 42 = .ok (.imul, 1) := by decide +kernel
theorem dX1_reasonAgainst_43 : decode cX1_reasonAgainst 43 = .ok (.if_icmp .le 5, 3) := by decide +kernel
theorem dX1_reasonAgainst_46 : decode cX1_reasonAgainst 46 = .ok (.iconst 2, 1) := by decide +kernel
theorem dX1_reasonAgainst_47 : decode cX1_reasonAgainst 47 = .ok (.ireturn, 1) := by decide +kernel
theorem dX1_reasonAgainst_48 : decode cX1_reasonAgainst 48 = .ok (.iload_n 2, 1) := by decide +kernel
theorem dX1_reasonAgainst_49 : decode cX1_reasonAgainst 49 = .ok (.ifCond .ne 14, 3) := by decide +kernel
theorem dX1_reasonAgainst_52 : decode cX1_reasonAgainst 52 = .ok (.aload_n 1, 1) := by decide +kernel
theorem dX1_reasonAgainst_53 : decode cX1_reasonAgainst 53 = .ok (.getfield 101, 3) := by decide +kernel
theorem dX1_reasonAgainst_56 : decode cX1_reasonAgainst 56 = .ok (.ifCond .le 7, 3) := by decide +kernel
theorem dX1_reasonAgainst_59 : decode cX1_reasonAgainst 59 = .ok (.iconst 3, 1) := by decide +kernel
theorem dX1_reasonAgainst_60 : decode cX1_reasonAgainst 60 = .ok (.goto 4, 3) := by decide +kernel
theorem dX1_reasonAgainst_63 : decode cX1_reasonAgainst 63 = .ok (.iconst 0, 1) := by decide +kernel
theorem dX1_reasonAgainst_64 : decode cX1_reasonAgainst 64 = .ok (.ireturn, 1) := by decide +kernel
theorem dX1_isTaken_0 : decode cX1_isTaken 0 = .ok (.aload_n 0, 1) := by decide +kernel
theorem dX1_isTaken_1 : decode cX1_isTaken 1 = .ok (.aload_n 1, 1) := by decide +kernel
theorem dX1_isTaken_2 : decode cX1_isTaken 2 = .ok (.aload_n 1, 1) := by decide +kernel
theorem dX1_isTaken_3 : decode cX1_isTaken 3 = .ok (.getfield 64, 3) := by decide +kernel
theorem dX1_isTaken_6 : decode cX1_isTaken 6 = .ok (.invokevirtual 67, 3) := by decide +kernel
theorem dX1_isTaken_9 : decode cX1_isTaken 9 = .ok (.ifCond .ne 7, 3) := by decide +kernel
theorem dX1_isTaken_12 : decode cX1_isTaken 12 = .ok (.iconst 1, 1) := by decide +kernel
theorem dX1_isTaken_13 : decode cX1_isTaken 13 = .ok (.goto 4, 3) := by decide +kernel
theorem dX1_isTaken_16 : decode cX1_isTaken 16 = .ok (.iconst 0, 1) := by decide +kernel
theorem dX1_isTaken_17 : decode cX1_isTaken 17 = .ok (.ireturn, 1) := by decide +kernel
theorem dX1_postageFor_0 : decode cX1_postageFor 0 = .ok (.aload_n 0, 1) := by decide +kernel
theorem dX1_postageFor_1 : decode cX1_postageFor 1 = .ok (.iload_n 2, 1) := by decide +kernel
theorem dX1_postageFor_2 : decode cX1_postageFor 2 = .ok (.invokevirtual 104, 3) := by decide +kernel
theorem dX1_postageFor_5 : decode cX1_postageFor 5 = .ok (.aload_n 0, 1) := by decide +kernel
theorem dX1_postageFor_6 : decode cX1_postageFor 6 = .ok (.getfield 21, 3) := by decide +kernel
theorem dX1_postageFor_9 : decode cX1_postageFor 9 = .ok (.aload_n 1, 1) := by decide +kernel
theorem dX1_postageFor_10 : decode cX1_postageFor 10 = .ok (.getfield 107, 3) := by decide +kernel
theorem dX1_postageFor_13 : decode cX1_postageFor 13 = .ok (.iaload, 1) := by decide +kernel
theorem dX1_postageFor_14 : decode cX1_postageFor 14 = .ok (.imul, 1) := by decide +kernel
theorem dX1_postageFor_15 : decode cX1_postageFor 15 = .ok (.istore_n 3, 1) := by decide +kernel
theorem dX1_postageFor_16 : decode cX1_postageFor 16 = .ok (.aload_n 0, 1) := by decide +kernel
theorem dX1_postageFor_17 : decode cX1_postageFor 17 = .ok (.aload_n 1, 1) := by decide +kernel
theorem dX1_postageFor_18 : decode cX1_postageFor 18 = .ok (.invokevirtual 110, 3) := by decide +kernel
theorem dX1_postageFor_21 : decode cX1_postageFor 21 = .ok (.ifCond .eq 9, 3) := by decide +kernel
theorem dX1_postageFor_24 : decode cX1_postageFor 24 = .ok (.iload_n 3, 1) := by decide +kernel
theorem dX1_postageFor_25 : decode cX1_postageFor 25 = .ok (.iconst 2, 1) := by decide +kernel
theorem dX1_postageFor_26 : decode cX1_postageFor 26 = .ok (.idiv, 1) := by decide +kernel
theorem dX1_postageFor_27 : decode cX1_postageFor 27 = .ok (.goto 4, 3) := by decide +kernel
theorem dX1_postageFor_30 : decode cX1_postageFor 30 = .ok (.iconst 0, 1) := by decide +kernel
theorem dX1_postageFor_31 : decode cX1_postageFor 31 = .ok (.istore 4, 2) := by decide +kernel
theorem dX1_postageFor_33 : decode cX1_postageFor 33 = .ok (.iload_n 3, 1) := by decide +kernel
theorem dX1_postageFor_34 : decode cX1_postageFor 34 = .ok (.iload 4, 2) := by decide +kernel
theorem dX1_postageFor_36 : decode cX1_postageFor 36 = .ok (.iadd, 1) := by decide +kernel
theorem dX1_postageFor_37 : decode cX1_postageFor 37 = .ok (.aload_n 0, 1) := by decide +kernel
theorem dX1_postageFor_38 : decode cX1_postageFor 38 = .ok (.getfield 24, 3) := by decide +kernel
theorem dX1_postageFor_41 : decode cX1_postageFor 41 = .ok (.iconst 2, 1) := by decide +kernel
theorem dX1_postageFor_42 : decode cX1_postageFor 42 = .ok (.iaload, 1) := by decide +kernel
theorem dX1_postageFor_43 : decode cX1_postageFor 43 = .ok (.aload_n 1, 1) := by decide +kernel
theorem dX1_postageFor_44 : decode cX1_postageFor 44 = .ok (.getfield 101, 3) := by decide +kernel
theorem dX1_postageFor_47 : decode cX1_postageFor 47 = .ok (.imul, 1) := by decide +kernel
theorem dX1_postageFor_48 : decode cX1_postageFor 48 = .ok (.iadd, 1) := by decide +kernel
theorem dX1_postageFor_49 : decode cX1_postageFor 49 = .ok (.ireturn, 1) := by decide +kernel
theorem dX1_rateUpwards_0 : decode cX1_rateUpwards 0 = .ok (.iload_n 1, 1) := by decide +kernel
theorem dX1_rateUpwards_1 : decode cX1_rateUpwards 1 = .ok (.invokestatic 114, 3) := by decide +kernel
theorem dX1_rateUpwards_4 : decode cX1_rateUpwards 4 = .ok (.istore_n 2, 1) := by decide +kernel
theorem dX1_rateUpwards_5 : decode cX1_rateUpwards 5 = .ok (.iconst 0, 1) := by decide +kernel
theorem dX1_rateUpwards_6 : decode cX1_rateUpwards 6 = .ok (.istore_n 3, 1) := by decide +kernel
theorem dX1_rateUpwards_7 : decode cX1_rateUpwards 7 = .ok (.iconst 0, 1) := by decide +kernel
theorem dX1_rateUpwards_8 : decode cX1_rateUpwards 8 = .ok (.istore 4, 2) := by decide +kernel
theorem dX1_rateUpwards_10 : decode cX1_rateUpwards 10 = .ok (.iload 4, 2) := by decide +kernel
theorem dX1_rateUpwards_12 : decode cX1_rateUpwards 12 = .ok (.iload_n 2, 1) := by decide +kernel
theorem dX1_rateUpwards_13 : decode cX1_rateUpwards 13 = .ok (.if_icmp .gt 31, 3) := by decide +kernel
theorem dX1_rateUpwards_16 : decode cX1_rateUpwards 16 = .ok (.iload 4, 2) := by decide +kernel
theorem dX1_rateUpwards_18 : decode cX1_rateUpwards 18 = .ok (.aload_n 0, 1) := by decide +kernel
theorem dX1_rateUpwards_19 : decode cX1_rateUpwards 19 = .ok (.getfield 17, 3) := by decide +kernel
theorem dX1_rateUpwards_22 : decode cX1_rateUpwards 22 = .ok (.arraylength, 1) := by decide +kernel
