theorem dX1_rateUpwards_23 : decode cX1_rateUpwards 23 = .ok (.if_icmp .ge 21, 3) := by decide +kernel
theorem dX1_rateUpwards_26 : decode cX1_rateUpwards 26 = .ok (.iload_n 3, 1) := by decide +kernel
theorem dX1_rateUpwards_27 : decode cX1_rateUpwards 27 = .ok (.aload_n 0, 1) := by decide +kernel
theorem dX1_rateUpwards_28 : decode cX1_rateUpwards 28 = .ok (.getfield 17, 3) := by decide +kernel
theorem dX1_rateUpwards_31 : decode cX1_rateUpwards 31 = .ok (.iload 4, 2) := by decide +kernel
theorem dX1_rateUpwards_33 : decode cX1_rateUpwards 33 = .ok (.iaload, 1) := by decide +kernel
theorem dX1_rateUpwards_34 : decode cX1_rateUpwards 34 = .ok (.invokestatic 117, 3) := by decide +kernel
theorem dX1_rateUpwards_37 : decode cX1_rateUpwards 37 = .ok (.istore_n 3, 1) := by decide +kernel
theorem dX1_rateUpwards_38 : decode cX1_rateUpwards 38 = .ok (.iinc 4 1, 3) := by decide +kernel
theorem dX1_rateUpwards_41 : decode cX1_rateUpwards 41 = .ok (.goto (-31), 3) := by decide +kernel
theorem dX1_rateUpwards_44 : decode cX1_rateUpwards 44 = .ok (.iload_n 3, 1) := by decide +kernel
theorem dX1_rateUpwards_45 : decode cX1_rateUpwards 45 = .ok (.ireturn, 1) := by decide +kernel
theorem dX1_rateDownwards_0 : decode cX1_rateDownwards 0 = .ok (.iload_n 1, 1) := by decide +kernel
theorem dX1_rateDownwards_1 : decode cX1_rateDownwards 1 = .ok (.invokestatic 114, 3) := by decide +kernel
theorem dX1_rateDownwards_4 : decode cX1_rateDownwards 4 = .ok (.istore_n 2, 1) := by decide +kernel
theorem dX1_rateDownwards_5 : decode cX1_rateDownwards 5 = .ok (.iload_n 2, 1) := by decide +kernel
theorem dX1_rateDownwards_6 : decode cX1_rateDownwards 6 = .ok (.istore_n 3, 1) := by decide +kernel
theorem dX1_rateDownwards_7 : decode cX1_rateDownwards 7 = .ok (.iload_n 2, 1) := by decide +kernel
theorem dX1_rateDownwards_8 : decode cX1_rateDownwards 8 = .ok (.iconst 1, 1) := by decide +kernel
theorem dX1_rateDownwards_9 : decode cX1_rateDownwards 9 = .ok (.isub, 1) := by decide +kernel
theorem dX1_rateDownwards_10 : decode cX1_rateDownwards 10 = .ok (.istore 4, 2) := by decide +kernel
theorem dX1_rateDownwards_12 : decode cX1_rateDownwards 12 = .ok (.iload 4, 2) := by decide +kernel
theorem dX1_rateDownwards_14 : decode cX1_rateDownwards 14 = .ok (.ifCond .lt 28, 3) := by decide +kernel
theorem dX1_rateDownwards_17 : decode cX1_rateDownwards 17 = .ok (.aload_n 0, 1) := by decide +kernel
theorem dX1_rateDownwards_18 : decode cX1_rateDownwards 18 = .ok (.getfield 17, 3) := by decide +kernel
theorem dX1_rateDownwards_21 : decode cX1_rateDownwards 21 = .ok (.iload 4, 2) := by decide +kernel
theorem dX1_rateDownwards_23 : decode cX1_rateDownwards 23 = .ok (.iaload, 1) := by decide +kernel
theorem dX1_rateDownwards_24 : decode cX1_rateDownwards 24 = .ok (.aload_n 0, 1) := by decide +kernel
theorem dX1_rateDownwards_25 : decode cX1_rateDownwards 25 = .ok (.getfield 17, 3) := by decide +kernel
theorem dX1_rateDownwards_28 : decode cX1_rateDownwards 28 = .ok (.iload_n 3, 1) := by decide +kernel
theorem dX1_rateDownwards_29 : decode cX1_rateDownwards 29 = .ok (.iaload, 1) := by decide +kernel
theorem dX1_rateDownwards_30 : decode cX1_rateDownwards 30 = .ok (.if_icmp .le 6, 3) := by decide +kernel
theorem dX1_rateDownwards_33 : decode cX1_rateDownwards 33 = .ok (.iload 4, 2) := by decide +kernel
theorem dX1_rateDownwards_35 : decode cX1_rateDownwards 35 = .ok (.istore_n 3, 1) := by decide +kernel
theorem dX1_rateDownwards_36 : decode cX1_rateDownwards 36 = .ok (.iinc 4 (-1), 3) := by decide +kernel
theorem dX1_rateDownwards_39 : decode cX1_rateDownwards 39 = .ok (.goto (-27), 3) := by decide +kernel
theorem dX1_rateDownwards_42 : decode cX1_rateDownwards 42 = .ok (.aload_n 0, 1) := by decide +kernel
theorem dX1_rateDownwards_43 : decode cX1_rateDownwards 43 = .ok (.getfield 17, 3) := by decide +kernel
theorem dX1_rateDownwards_46 : decode cX1_rateDownwards 46 = .ok (.iload_n 3, 1) := by decide +kernel
theorem dX1_rateDownwards_47 : decode cX1_rateDownwards 47 = .ok (.iaload, 1) := by decide +kernel
theorem dX1_rateDownwards_48 : decode cX1_rateDownwards 48 = .ok (.ireturn, 1) := by decide +kernel
theorem dX1_leastWay_0 : decode cX1_leastWay 0 = .ok (.iconst (-1), 1) := by decide +kernel
theorem dX1_leastWay_1 : decode cX1_leastWay 1 = .ok (.istore_n 2, 1) := by decide +kernel
theorem dX1_leastWay_2 : decode cX1_leastWay 2 = .ok (.iconst 0, 1) := by decide +kernel
theorem dX1_leastWay_3 : decode cX1_leastWay 3 = .ok (.istore_n 3, 1) := by decide +kernel
theorem dX1_leastWay_4 : decode cX1_leastWay 4 = .ok (.iconst 0, 1) := by decide +kernel
theorem dX1_leastWay_5 : decode cX1_leastWay 5 = .ok (.istore 4, 2) := by decide +kernel
theorem dX1_leastWay_7 : decode cX1_leastWay 7 = .ok (.iload 4, 2) := by decide +kernel
theorem dX1_leastWay_9 : decode cX1_leastWay 9 = .ok (.iconst 2, 1) := by decide +kernel
theorem dX1_leastWay_10 : decode cX1_leastWay 10 = .ok (.if_icmp .gt 50, 3) := by decide +kernel
theorem dX1_leastWay_13 : decode cX1_leastWay 13 = .ok (.aload_n 0, 1) := by decide +kernel
theorem dX1_leastWay_14 : decode cX1_leastWay 14 = .ok (.aload_n 1, 1) := by decide +kernel
theorem dX1_leastWay_15 : decode cX1_leastWay 15 = .ok (.iload 4, 2) := by decide +kernel
theorem dX1_leastWay_17 : decode cX1_leastWay 17 = .ok (.invokevirtual 67, 3) := by decide +kernel
theorem dX1_leastWay_20 : decode cX1_leastWay 20 = .ok (.ifCond .ne 34, 3) := by decide +kernel
theorem dX1_leastWay_23 : decode cX1_leastWay 23 = .ok (.aload_n 0, 1) := by decide +kernel
theorem dX1_leastWay_24 : decode cX1_leastWay 24 = .ok (.aload_n 1, 1) := by decide +kernel
theorem dX1_leastWay_25 : decode cX1_leastWay 25 = .ok (.aload_n 0, 1) := by decide +kernel
theorem dX1_leastWay_26 : decode cX1_leastWay 26 = .ok (.aload_n 1, 1) := by decide +kernel
theorem dX1_leastWay_27 : decode cX1_leastWay 27 = .ok (.iload 4, 2) := by decide +kernel
theorem dX1_leastWay_29 : decode cX1_leastWay 29 = .ok (.invokevirtual 71, 3) := by decide +kernel
theorem dX1_leastWay_32 : decode cX1_leastWay 32 = .ok (.invokevirtual 84, 3) := by decide +kernel
theorem dX1_leastWay_35 : decode cX1_leastWay 35 = .ok (.istore 5, 2) := by decide +kernel
theorem dX1_leastWay_37 : decode cX1_leastWay 37 = .ok (.iload_n 2, 1) := by decide +kernel
theorem dX1_leastWay_38 : decode cX1_leastWay 38 = .ok (.iconst (-1), 1) := by decide +kernel
theorem dX1_leastWay_39 : decode cX1_leastWay 39 = .ok (.if_icmp .eq 9, 3) := by decide +kernel
theorem dX1_leastWay_42 : decode cX1_leastWay 42 = .ok (.iload 5, 2) := by decide +kernel
theorem dX1_leastWay_44 : decode cX1_leastWay 44 = .ok (.iload_n 3, 1) := by decide +kernel
theorem dX1_leastWay_45 : decode cX1_leastWay 45 = .ok (.if_icmp .ge 9, 3) := by decide +kernel
theorem dX1_leastWay_48 : decode cX1_leastWay 48 = .ok (.iload 4, 2) := by decide +kernel
theorem dX1_leastWay_50 : decode cX1_leastWay 50 = .ok (.istore_n 2, 1) := by decide +kernel
theorem dX1_leastWay_51 : decode cX1_leastWay 51 = .ok (.iload 5, 2) := by decide +kernel
theorem dX1_leastWay_53 : decode cX1_leastWay 53 = .ok (.istore_n 3, 1) := by decide +kernel
theorem dX1_leastWay_54 : decode cX1_leastWay 54 = .ok (.iinc 4 1, 3) := by decide +kernel
theorem dX1_leastWay_57 : decode cX1_leastWay 57 = .ok (.goto (-50), 3) := by decide +kernel
theorem dX1_leastWay_60 : decode cX1_leastWay 60 = .ok (.iload_n 2, 1) := by decide +kernel
theorem dX1_leastWay_61 : decode cX1_leastWay 61 = .ok (.ireturn, 1) := by decide +kernel
theorem dX1_dearestTaken_0 : decode cX1_dearestTaken 0 = .ok (.iconst (-1), 1) := by decide +kernel
theorem dX1_dearestTaken_1 : decode cX1_dearestTaken 1 = .ok (.istore_n 1, 1) := by decide +kernel
theorem dX1_dearestTaken_2 : decode cX1_dearestTaken 2 = .ok (.iconst 0, 1) := by decide +kernel
theorem dX1_dearestTaken_3 : decode cX1_dearestTaken 3 = .ok (.istore_n 2, 1) := by decide +kernel
theorem dX1_dearestTaken_4 : decode cX1_dearestTaken 4 = .ok (.iconst 0, 1) := by decide +kernel
theorem dX1_dearestTaken_5 : decode cX1_dearestTaken 5 = .ok (.istore_n 3, 1) := by decide +kernel
theorem dX1_dearestTaken_6 : decode cX1_dearestTaken 6 = .ok (.iload_n 3, 1) := by decide +kernel
theorem dX1_dearestTaken_7 : decode cX1_dearestTaken 7 = .ok (.aload_n 0, 1) := by decide +kernel
theorem dX1_dearestTaken_8 : decode cX1_dearestTaken 8 = .ok (.getfield 31, 3) := by decide +kernel
theorem dX1_dearestTaken_11 : decode cX1_dearestTaken 11 = .ok (.if_icmp .ge 70, 3) := by decide +kernel
theorem dX1_dearestTaken_14 : decode cX1_dearestTaken 14 = .ok (.iload_n 3, 1) := by decide +kernel
theorem dX1_dearestTaken_15 : decode cX1_dearestTaken 15 = .ok (.aload_n 0, 1) := by decide +kernel
theorem dX1_dearestTaken_16 : decode cX1_dearestTaken 16 = .ok (.getfield 11, 3) := by decide +kernel
theorem dX1_dearestTaken_19 : decode cX1_dearestTaken 19 = .ok (.arraylength, 1) := by decide +kernel
theorem dX1_dearestTaken_20 : decode cX1_dearestTaken 20 = .ok (.if_icmp .ge 61, 3) := by decide +kernel
theorem dX1_dearestTaken_23 : decode cX1_dearestTaken 23 = .ok (.aload_n 0, 1) := by decide +kernel
theorem dX1_dearestTaken_24 : decode cX1_dearestTaken 24 = .ok (.getfield 11, 3) := by decide +kernel
theorem dX1_dearestTaken_27 : decode cX1_dearestTaken 27 = .ok (.iload_n 3, 1) := by decide +kernel
theorem dX1_dearestTaken_28 : decode cX1_dearestTaken 28 = .ok (.aaload, 1) := by decide +kernel
theorem dX1_dearestTaken_29 : decode cX1_dearestTaken 29 = .ok (.astore 4, 2) := by decide +kernel
theorem dX1_dearestTaken_31 : decode cX1_dearestTaken 31 = .ok (.aload_n 0, 1) := by decide +kernel
theorem dX1_dearestTaken_32 : decode cX1_dearestTaken 32 = .ok (.aload 4, 2) := by decide +kernel
theorem dX1_dearestTaken_34 : decode cX1_dearestTaken 34 = .ok (.aload_n 0, 1) := by decide +kernel
theorem dX1_dearestTaken_35 : decode cX1_dearestTaken 35 = .ok (.aload 4, 2) := by decide +kernel
theorem dX1_dearestTaken_37 : decode cX1_dearestTaken 37 = .ok (.aload 4, 2) := by decide +kernel
theorem dX1_dearestTaken_39 : decode cX1_dearestTaken 39 = .ok (.getfield 64, 3) := by decide +kernel
theorem dX1_dearestTaken_42 : decode cX1_dearestTaken 42 = .ok (.invokevirtual 71, 3) := by decide +kernel
theorem dX1_dearestTaken_45 : decode cX1_dearestTaken 45 = .ok (.invokevirtual 84, 3) := by decide +kernel
theorem dX1_dearestTaken_48 : decode cX1_dearestTaken 48 = .ok (.istore 5, 2) := by decide +kernel
theorem dX1_dearestTaken_50 : decode cX1_dearestTaken 50 = .ok (.aload_n 0, 1) := by decide +kernel
theorem dX1_dearestTaken_51 : decode cX1_dearestTaken 51 = .ok (.aload 4, 2) := by decide +kernel
theorem dX1_dearestTaken_53 : decode cX1_dearestTaken 53 = .ok (.invokevirtual 120, 3) := by decide +kernel
theorem dX1_dearestTaken_56 : decode cX1_dearestTaken 56 = .ok (.ifCond .eq 19, 3) := by decide +kernel
theorem dX1_dearestTaken_59 : decode cX1_dearestTaken 59 = .ok (.iload_n 1, 1) := by decide +kernel
theorem dX1_dearestTaken_60 : decode cX1_dearestTaken 60 = .ok (.iconst (-1), 1) := by decide +kernel
theorem dX1_dearestTaken_61 : decode cX1_dearestTaken 61 = .ok (.if_icmp .eq 9, 3) := by decide +kernel
theorem dX1_dearestTaken_64 : decode cX1_dearestTaken 64 = .ok (.iload 5, 2) := by decide +kernel
theorem dX1_dearestTaken_66 : decode cX1_dearestTaken 66 = .ok (.iload_n 2, 1) := by decide +kernel
theorem dX1_dearestTaken_67 : decode cX1_dearestTaken 67 = .ok (.if_icmp .le 8, 3) := by decide +kernel
theorem dX1_dearestTaken_70 : decode cX1_dearestTaken 70 = .ok (.iload_n 3, 1) := by decide +kernel
theorem dX1_dearestTaken_71 : decode cX1_dearestTaken 71 = .ok (.istore_n 1, 1) := by decide +kernel
theorem dX1_dearestTaken_72 : decode cX1_dearestTaken 72 = .ok (.iload 5, 2) := by decide +kernel
theorem dX1_dearestTaken_74 : decode cX1_dearestTaken 74 = .ok (.istore_n 2, 1) := by decide +kernel
theorem dX1_dearestTaken_75 : decode cX1_dearestTaken 75 = .ok (.iinc 3 1, 3) := by decide +kernel
theorem dX1_dearestTaken_78 : decode cX1_dearestTaken 78 = .ok (.goto (-72), 3) := by decide +kernel
theorem dX1_dearestTaken_81 : decode cX1_dearestTaken 81 = .ok (.iload_n 1, 1) := by decide +kernel
theorem dX1_dearestTaken_82 : decode cX1_dearestTaken 82 = .ok (.ireturn, 1) := by decide +kernel
theorem dX1_numberOf_0 : decode cX1_numberOf 0 = .ok (.iload_n 2, 1) := by decide +kernel
theorem dX1_numberOf_1 : decode cX1_numberOf 1 = .ok (.tableswitch 120 0 9 #[55, 60, 65, 70, 75, 80, 85, 90, 95, 105], 55) := by decide +kernel
theorem dX1_numberOf_56 : decode cX1_numberOf 56 = .ok (.aload_n 1, 1) := by decide +kernel
theorem dX1_numberOf_57 : decode cX1_numberOf 57 = .ok (.getfield 123, 3) := by decide +kernel
theorem dX1_numberOf_60 : decode cX1_numberOf 60 = .ok (.ireturn, 1) := by decide +kernel
theorem dX1_numberOf_61 : decode cX1_numberOf 61 = .ok (.aload_n 1, 1) := by decide +kernel
theorem dX1_numberOf_62 : decode cX1_numberOf 62 = .ok (.getfield 126, 3) := by decide +kernel
theorem dX1_numberOf_65 : decode cX1_numberOf 65 = .ok (.ireturn, 1) := by decide +kernel
theorem dX1_numberOf_66 : decode cX1_numberOf 66 = .ok (.aload_n 1, 1) := by decide +kernel
theorem dX1_numberOf_67 : decode cX1_numberOf 67 = .ok (.getfield 129, 3) := by decide +kernel
theorem dX1_numberOf_70 : decode cX1_numberOf 70 = .ok (.ireturn, 1) := by decide +kernel
theorem dX1_numberOf_71 : decode cX1_numberOf 71 = .ok (.aload_n 1, 1) := by decide +kernel
theorem dX1_numberOf_72 : decode cX1_numberOf 72 = .ok (.getfield 98, 3) := by decide +kernel
theorem dX1_numberOf_75 : decode cX1_numberOf 75 = .ok (.ireturn, 1) := by decide +kernel
theorem dX1_numberOf_76 : decode cX1_numberOf 76 = .ok (.aload_n 1, 1) := by decide +kernel
theorem dX1_numberOf_77 : decode cX1_numberOf 77 = .ok (.getfield 107, 3) := by decide +kernel
theorem dX1_numberOf_80 : decode cX1_numberOf 80 = .ok (.ireturn, 1) := by decide +kernel
theorem dX1_numberOf_81 : decode cX1_numberOf 81 = .ok (.aload_n 1, 1) := by decide +kernel
theorem dX1_numberOf_82 : decode cX1_numberOf 82 = .ok (.getfield 101, 3) := by decide +kernel
theorem dX1_numberOf_85 : decode cX1_numberOf 85 = .ok (.ireturn, 1) := by decide +kernel
theorem dX1_numberOf_86 : decode cX1_numberOf 86 = .ok (.aload_n 1, 1) := by decide +kernel
theorem dX1_numberOf_87 : decode cX1_numberOf 87 = .ok (.getfield 64, 3) := by decide +kernel
theorem dX1_numberOf_90 : decode cX1_numberOf 90 = .ok (.ireturn, 1) := by decide +kernel
theorem dX1_numberOf_91 : decode cX1_numberOf 91 = .ok (.aload_n 1, 1) := by decide +kernel
theorem dX1_numberOf_92 : decode cX1_numberOf 92 = .ok (.invokevirtual 94, 3) := by decide +kernel
theorem dX1_numberOf_95 : decode cX1_numberOf 95 = .ok (.ireturn, 1) := by decide +kernel
theorem dX1_numberOf_96 : decode cX1_numberOf 96 = .ok (.aload_n 0, 1) := by decide +kernel
theorem dX1_numberOf_97 : decode cX1_numberOf 97 = .ok (.aload_n 1, 1) := by decide +kernel
theorem dX1_numberOf_98 : decode cX1_numberOf 98 = .ok (.aload_n 1, 1) := by decide +kernel
theorem dX1_numberOf_99 : decode cX1_numberOf 99 = .ok (.getfield 64, 3) := by decide +kernel
theorem dX1_numberOf_102 : decode cX1_numberOf 102 = .ok (.invokevirtual 71, 3) := by decide +kernel
theorem dX1_numberOf_105 : decode cX1_numberOf 105 = .ok (.ireturn, 1) := by decide +kernel
theorem dX1_numberOf_106 : decode cX1_numberOf 106 = .ok (.aload_n 0, 1) := by decide +kernel
theorem dX1_numberOf_107 : decode cX1_numberOf 107 = .ok (.aload_n 1, 1) := by decide +kernel
theorem dX1_numberOf_108 : decode cX1_numberOf 108 = .ok (.aload_n 0, 1) := by decide +kernel
theorem dX1_numberOf_109 : decode cX1_numberOf 109 = .ok (.aload_n 1, 1) := by decide +kernel
theorem dX1_numberOf_110 : decode cX1_numberOf 110 = .ok (.aload_n 1, 1) := by decide +kernel
theorem dX1_numberOf_111 : decode cX1_numberOf 111 = .ok (.getfield 64, 3) := by decide +kernel
theorem dX1_numberOf_114 : decode cX1_numberOf 114 = .ok (.invokevirtual 71, 3) := by decide +kernel
theorem dX1_numberOf_117 : decode cX1_numberOf 117 = .ok (.invokevirtual 84, 3) := by decide +kernel
theorem dX1_numberOf_120 : decode cX1_numberOf 120 = .ok (.ireturn, 1) := by decide +kernel
theorem dX1_numberOf_121 : decode cX1_numberOf 121 = .ok (.aload_n 0, 1) := by decide +kernel
theorem dX1_numberOf_122 : decode cX1_numberOf 122 = .ok (.aload_n 1, 1) := by decide +kernel
theorem dX1_numberOf_123 : decode cX1_numberOf 123 = .ok (.aload_n 1, 1) := by decide +kernel
theorem dX1_numberOf_124 : decode cX1_numberOf 124 = .ok (.getfield 64, 3) := by decide +kernel
theorem dX1_numberOf_127 : decode cX1_numberOf 127 = .ok (.invokevirtual 67, 3) := by decide +kernel
theorem dX1_numberOf_130 : decode cX1_numberOf 130 = .ok (.ireturn, 1) := by decide +kernel
theorem dX1_tally_0 : decode cX1_tally 0 = .ok (.iload_n 1, 1) := by decide +kernel
theorem dX1_tally_1 : decode cX1_tally 1 = .ok (.tableswitch 87 0 7 #[47, 52, 57, 62, 67, 72, 77, 82], 47) := by decide +kernel
theorem dX1_tally_48 : decode cX1_tally 48 = .ok (.aload_n 0, 1) := by decide +kernel
theorem dX1_tally_49 : decode cX1_tally 49 = .ok (.getfield 31, 3) := by decide +kernel
theorem dX1_tally_52 : decode cX1_tally 52 = .ok (.ireturn, 1) := by decide +kernel
theorem dX1_tally_53 : decode cX1_tally 53 = .ok (.aload_n 0, 1) := by decide +kernel
theorem dX1_tally_54 : decode cX1_tally 54 = .ok (.invokevirtual 132, 3) := by decide +kernel
theorem dX1_tally_57 : decode cX1_tally 57 = .ok (.ireturn, 1) := by decide +kernel
theorem dX1_tally_58 : decode cX1_tally 58 = .ok (.aload_n 0, 1) := by decide +kernel
theorem dX1_tally_59 : decode cX1_tally 59 = .ok (.invokevirtual 135, 3) := by decide +kernel
theorem dX1_tally_62 : decode cX1_tally 62 = .ok (.ireturn, 1) := by decide +kernel
theorem dX1_tally_63 : decode cX1_tally 63 = .ok (.aload_n 0, 1) := by decide +kernel
theorem dX1_tally_64 : decode cX1_tally 64 = .ok (.getfield 45, 3) := by decide +kernel
theorem dX1_tally_67 : decode cX1_tally 67 = .ok (.ireturn, 1) := by decide +kernel
theorem dX1_tally_68 : decode cX1_tally 68 = .ok (.aload_n 0, 1) := by decide +kernel
theorem dX1_tally_69 : decode cX1_tally 69 = .ok (.getfield 48, 3) := by decide +kernel
theorem dX1_tally_72 : decode cX1_tally 72 = .ok (.ireturn, 1) := by decide +kernel
theorem dX1_tally_73 : decode cX1_tally 73 = .ok (.aload_n 0, 1) := by decide +kernel
theorem dX1_tally_74 : decode cX1_tally 74 = .ok (.getfield 51, 3) := by decide +kernel
theorem dX1_tally_77 : decode cX1_tally 77 = .ok (.ireturn, 1) := by decide +kernel
theorem dX1_tally_78 : decode cX1_tally 78 = .ok (.aload_n 0, 1) := by decide +kernel
theorem dX1_tally_79 : decode cX1_tally 79 = .ok (.getfield 54, 3) := by decide +kernel
theorem dX1_tally_82 : decode cX1_tally 82 = .ok (.ireturn, 1) := by decide +kernel
theorem dX1_tally_83 : decode cX1_tally 83 = .ok (.aload_n 0, 1) := by decide +kernel
theorem dX1_tally_84 : decode cX1_tally 84 = .ok (.getfield 57, 3) := by decide +kernel
theorem dX1_tally_87 : decode cX1_tally 87 = .ok (.ireturn, 1) := by decide +kernel
theorem dX1_tally_88 : decode cX1_tally 88 = .ok (.aload_n 0, 1) := by decide +kernel
theorem dX1_tally_89 : decode cX1_tally 89 = .ok (.invokevirtual 138, 3) := by decide +kernel
theorem dX1_tally_92 : decode cX1_tally 92 = .ok (.ireturn, 1) := by decide +kernel
theorem dX1_bandOf_0 : decode cX1_bandOf 0 = .ok (.iload_n 0, 1) := by decide +kernel
theorem dX1_bandOf_1 : decode cX1_bandOf 1 = .ok (.iconst 1, 1) := by decide +kernel
theorem dX1_bandOf_2 : decode cX1_bandOf 2 = .ok (.isub, 1) := by decide +kernel
theorem dX1_bandOf_3 : decode cX1_bandOf 3 = .ok (.bipush 50, 2) := by decide +kernel
theorem dX1_bandOf_5 : decode cX1_bandOf 5 = .ok (.idiv, 1) := by decide +kernel
theorem dX1_bandOf_6 : decode cX1_bandOf 6 = .ok (.istore_n 1, 1) := by decide +kernel
theorem dX1_bandOf_7 : decode cX1_bandOf 7 = .ok (.iload_n 1, 1) := by decide +kernel
theorem dX1_bandOf_8 : decode cX1_bandOf 8 = .ok (.ifCond .ge 5, 3) := by decide +kernel
theorem dX1_bandOf_11 : decode cX1_bandOf 11 = .ok (.iconst 0, 1) := by decide +kernel
theorem dX1_bandOf_12 : decode cX1_bandOf 12 = .ok (.ireturn, 1) := by decide +kernel
theorem dX1_bandOf_13 : decode cX1_bandOf 13 = .ok (.iload_n 1, 1) := by decide +kernel
theorem dX1_bandOf_14 : decode cX1_bandOf 14 = .ok (.bipush 12, 2) := by decide +kernel
theorem dX1_bandOf_16 : decode cX1_bandOf 16 = .ok (.if_icmp .ge 7, 3) := by decide +kernel
theorem dX1_bandOf_19 : decode cX1_bandOf 19 = .ok (.iload_n 1, 1) := by decide +kernel
theorem dX1_bandOf_20 : decode cX1_bandOf 20 = .ok (.goto 5, 3) := by decide +kernel
theorem dX1_bandOf_23 : decode cX1_bandOf 23 = .ok (.bipush 11, 2) := by decide +kernel
theorem dX1_bandOf_25 : decode cX1_bandOf 25 = .ok (.ireturn, 1) := by decide +kernel
theorem dX1_takenParcels_0 : decode cX1_takenParcels 0 = .ok (.iconst 0, 1) := by decide +kernel
theorem dX1_takenParcels_1 : decode cX1_takenParcels 1 = .ok (.istore_n 1, 1) := by decide +kernel
theorem dX1_takenParcels_2 : decode cX1_takenParcels 2 = .ok (.iconst 0, 1) := by decide +kernel
theorem dX1_takenParcels_3 : decode cX1_takenParcels 3 = .ok (.istore_n 2, 1) := by decide +kernel
theorem dX1_takenParcels_4 : decode cX1_takenParcels 4 = .ok (.iload_n 2, 1) := by decide +kernel
theorem dX1_takenParcels_5 : decode cX1_takenParcels 5 = .ok (.aload_n 0, 1) := by decide +kernel
theorem dX1_takenParcels_6 : decode cX1_takenParcels 6 = .ok (.getfield 31, 3) := by decide +kernel
theorem dX1_takenParcels_9 : decode cX1_takenParcels 9 = .ok (.if_icmp .ge 34, 3) := by decide +kernel
theorem dX1_takenParcels_12 : decode cX1_takenParcels 12 = .ok (.iload_n 2, 1) := by decide +kernel
theorem dX1_takenParcels_13 : decode cX1_takenParcels 13 = .ok (.aload_n 0, 1) := by decide +kernel
theorem dX1_takenParcels_14 : decode cX1_takenParcels 14 = .ok (.getfield 11, 3) := by decide +kernel
theorem dX1_takenParcels_17 : decode cX1_takenParcels 17 = .ok (.arraylength, 1) := by decide +kernel
theorem dX1_takenParcels_18 : decode cX1_takenParcels 18 = .ok (.if_icmp .ge 25, 3) := by decide +kernel
theorem dX1_takenParcels_21 : decode cX1_takenParcels 21 = .ok (.aload_n 0, 1) := by decide +kernel
theorem dX1_takenParcels_22 : decode cX1_takenParcels 22 = .ok (.aload_n 0, 1) := by decide +kernel
theorem dX1_takenParcels_23 : decode cX1_takenParcels 23 = .ok (.getfield 11, 3) := by decide +kernel
theorem dX1_takenParcels_26 : decode cX1_takenParcels 26 = .ok (.iload_n 2, 1) := by decide +kernel
theorem dX1_takenParcels_27 : decode cX1_takenParcels 27 = .ok (.aaload, 1) := by decide +kernel
theorem dX1_takenParcels_28 : decode cX1_takenParcels 28 = .ok (.invokevirtual 120, 3) := by decide +kernel
theorem dX1_takenParcels_31 : decode cX1_takenParcels 31 = .ok (.ifCond .eq 6, 3) := by decide +kernel
theorem dX1_takenParcels_34 : decode cX1_takenParcels 34 = .ok (.iinc 1 1, 3) := by decide +kernel
theorem dX1_takenParcels_37 : decode cX1_takenParcels 37 = .ok (.iinc 2 1, 3) := by decide +kernel
theorem dX1_takenParcels_40 : decode cX1_takenParcels 40 = .ok (.goto (-36), 3) := by decide +kernel
theorem dX1_takenParcels_43 : decode cX1_takenParcels 43 = .ok (.iload_n 1, 1) := by decide +kernel
theorem dX1_takenParcels_44 : decode cX1_takenParcels 44 = .ok (.ireturn, 1) := by decide +kernel
theorem dX1_oddParcels_0 : decode cX1_oddParcels 0 = .ok (.iconst 0, 1) := by decide +kernel
theorem dX1_oddParcels_1 : decode cX1_oddParcels 1 = .ok (.istore_n 1, 1) := by decide +kernel
theorem dX1_oddParcels_2 : decode cX1_oddParcels 2 = .ok (.iconst 0, 1) := by decide +kernel
theorem dX1_oddParcels_3 : decode cX1_oddParcels 3 = .ok (.istore_n 2, 1) := by decide +kernel
theorem dX1_oddParcels_4 : decode cX1_oddParcels 4 = .ok (.iload_n 2, 1) := by decide +kernel
theorem dX1_oddParcels_5 : decode cX1_oddParcels 5 = .ok (.aload_n 0, 1) := by decide +kernel
theorem dX1_oddParcels_6 : decode cX1_oddParcels 6 = .ok (.getfield 31, 3) := by decide +kernel
theorem dX1_oddParcels_9 : decode cX1_oddParcels 9 = .ok (.if_icmp .ge 34, 3) := by decide +kernel
theorem dX1_oddParcels_12 : decode cX1_oddParcels 12 = .ok (.iload_n 2, 1) := by decide +kernel
theorem dX1_oddParcels_13 : decode cX1_oddParcels 13 = .ok (.aload_n 0, 1) := by decide +kernel
theorem dX1_oddParcels_14 : decode cX1_oddParcels 14 = .ok (.getfield 11, 3) := by decide +kernel
theorem dX1_oddParcels_17 : decode cX1_oddParcels 17 = .ok (.arraylength, 1) := by decide +kernel
theorem dX1_oddParcels_18 : decode cX1_oddParcels 18 = .ok (.if_icmp .ge 25, 3) := by decide +kernel
theorem dX1_oddParcels_21 : decode cX1_oddParcels 21 = .ok (.aload_n 0, 1) := by decide +kernel
theorem dX1_oddParcels_22 : decode cX1_oddParcels 22 = .ok (.aload_n 0, 1) := by decide +kernel
theorem dX1_oddParcels_23 : decode cX1_oddParcels 23 = .ok (.getfield 11, 3) := by decide +kernel
theorem dX1_oddParcels_26 : decode cX1_oddParcels 26 = .ok (.iload_n 2, 1) := by decide +kernel
theorem dX1_oddParcels_27 : decode cX1_oddParcels 27 = .ok (.aaload, 1) := by decide +kernel
theorem dX1_oddParcels_28 : decode cX1_oddParcels 28 = .ok (.invokevirtual 110, 3) := by decide +kernel
theorem dX1_oddParcels_31 : decode cX1_oddParcels 31 = .ok (.ifCond .eq 6, 3) := by decide +kernel
theorem dX1_oddParcels_34 : decode cX1_oddParcels 34 = .ok (.iinc 1 1, 3) := by decide +kernel
theorem dX1_oddParcels_37 : decode cX1_oddParcels 37 = .ok (.iinc 2 1, 3) := by decide +kernel
theorem dX1_oddParcels_40 : decode cX1_oddParcels 40 = .ok (.goto (-36), 3) := by decide +kernel
theorem dX1_oddParcels_43 : decode cX1_oddParcels 43 = .ok (.iload_n 1, 1) := by decide +kernel
theorem dX1_oddParcels_44 : decode cX1_oddParcels 44 = .ok (.ireturn, 1) := by decide +kernel
theorem dX1_undercutBands_0 : decode cX1_undercutBands 0 = .ok (.iconst 0, 1) := by decide +kernel
theorem dX1_undercutBands_1 : decode cX1_undercutBands 1 = .ok (.istore_n 1, 1) := by decide +kernel
theorem dX1_undercutBands_2 : decode cX1_undercutBands 2 = .ok (.iconst 0, 1) := by decide +kernel
theorem dX1_undercutBands_3 : decode cX1_undercutBands 3 = .ok (.istore_n 2, 1) := by decide +kernel
theorem dX1_undercutBands_4 : decode cX1_undercutBands 4 = .ok (.iconst 0, 1) := by decide +kernel
theorem dX1_undercutBands_5 : decode cX1_undercutBands 5 = .ok (.istore_n 3, 1) := by decide +kernel
theorem dX1_undercutBands_6 : decode cX1_undercutBands 6 = .ok (.iload_n 3, 1) := by decide +kernel
theorem dX1_undercutBands_7 : decode cX1_undercutBands 7 = .ok (.aload_n 0, 1) := by decide +kernel
theorem dX1_undercutBands_8 : decode cX1_undercutBands 8 = .ok (.getfield 17, 3) := by decide +kernel
theorem dX1_undercutBands_11 : decode cX1_undercutBands 11 = .ok (.arraylength, 1) := by decide +kernel
theorem dX1_undercutBands_12 : decode cX1_undercutBands 12 = .ok (.if_icmp .ge 33, 3) := by decide +kernel
theorem dX1_undercutBands_15 : decode cX1_undercutBands 15 = .ok (.aload_n 0, 1) := by decide +kernel
theorem dX1_undercutBands_16 : decode cX1_undercutBands 16 = .ok (.getfield 17, 3) := by decide +kernel
theorem dX1_undercutBands_19 : decode cX1_undercutBands 19 = .ok (.iload_n 3, 1) := by decide +kernel
theorem dX1_undercutBands_20 : decode cX1_undercutBands 20 = .ok (.iaload, 1) := by decide +kernel
theorem dX1_undercutBands_21 : decode cX1_undercutBands 21 = .ok (.iload_n 2, 1) := by decide +kernel
theorem dX1_undercutBands_22 : decode cX1_undercutBands 22 = .ok (.if_icmp .ge 6, 3) := by decide +kernel
theorem dX1_undercutBands_25 : decode cX1_undercutBands 25 = .ok (.iinc 1 1, 3) := by decide +kernel
theorem dX1_undercutBands_28 : decode cX1_undercutBands 28 = .ok (.iload_n 2, 1) := by decide +kernel
theorem dX1_undercutBands_29 : decode cX1_undercutBands 29 = .ok (.aload_n 0, 1) := by decide +kernel
theorem dX1_undercutBands_30 : decode cX1_undercutBands 30 = .ok (.getfield 17, 3) := by decide +kernel
theorem dX1_undercutBands_33 : decode cX1_undercutBands 33 = .ok (.iload_n 3, 1) := by decide +kernel
theorem dX1_undercutBands_34 : decode cX1_undercutBands 34 = .ok (.iaload, 1) := by decide +kernel
theorem dX1_undercutBands_35 : decode cX1_undercutBands 35 = .ok (.invokestatic 117, 3) := by decide +kernel
theorem dX1_undercutBands_38 : decode cX1_undercutBands 38 = .ok (.istore_n 2, 1) := by decide +kernel
theorem dX1_undercutBands_39 : decode cX1_undercutBands 39 = .ok (.iinc 3 1, 3) := by decide +kernel
theorem dX1_undercutBands_42 : decode cX1_undercutBands 42 = .ok (.goto (-36), 3) := by decide +kernel
theorem dX1_undercutBands_45 : decode cX1_undercutBands 45 = .ok (.iload_n 1, 1) := by decide +kernel
theorem dX1_undercutBands_46 : decode cX1_undercutBands 46 = .ok (.ireturn, 1) := by decide +kernel
theorem dX2_init_0 : decode cX2_init 0 = .ok (.aload_n 0, 1) := by decide +kernel
theorem dX2_init_1 : decode cX2_init 1 = .ok (.invokespecial 3, 3) := by decide +kernel
theorem dX2_init_4 : decode cX2_init 4 = .ok (.return_, 1) := by decide +kernel
theorem dX2_fill_0 : decode cX2_fill 0 = .ok (.aload_n 0, 1) := by decide +kernel
theorem dX2_fill_1 : decode cX2_fill 1 = .ok (.iload_n 1, 1) := by decide +kernel
theorem dX2_fill_2 : decode cX2_fill 2 = .ok (.iload_n 2, 1) := by decide +kernel
theorem dX2_fill_3 : decode cX2_fill 3 = .ok (.iload_n 3, 1) := by decide +kernel
theorem dX2_fill_4 : decode cX2_fill 4 = .ok (.invokevirtual 9, 3) := by decide +kernel
theorem dX2_fill_7 : decode cX2_fill 7 = .ok (.aload_n 0, 1) := by decide +kernel
theorem dX2_fill_8 : decode cX2_fill 8 = .ok (.iload 4, 2) := by decide +kernel
theorem dX2_fill_10 : decode cX2_fill 10 = .ok (.putfield 15, 3) := by decide +kernel
theorem dX2_fill_13 : decode cX2_fill 13 = .ok (.aload_n 0, 1) := by decide +kernel
theorem dX2_fill_14 : decode cX2_fill 14 = .ok (.iload 5, 2) := by decide +kernel
theorem dX2_fill_16 : decode cX2_fill 16 = .ok (.putfield 19, 3) := by decide +kernel
theorem dX2_fill_19 : decode cX2_fill 19 = .ok (.aload_n 0, 1) := by decide +kernel
theorem dX2_fill_20 : decode cX2_fill 20 = .ok (.iconst 0, 1) := by decide +kernel
theorem dX2_fill_21 : decode cX2_fill 21 = .ok (.putfield 22, 3) := by decide +kernel
theorem dX2_fill_24 : decode cX2_fill 24 = .ok (.aload_n 0, 1) := by decide +kernel
theorem dX2_fill_25 : decode cX2_fill 25 = .ok (.iload 6, 2) := by decide +kernel
theorem dX2_fill_27 : decode cX2_fill 27 = .ok (.putfield 25, 3) := by decide +kernel
theorem dX2_fill_30 : decode cX2_fill 30 = .ok (.return_, 1) := by decide +kernel
theorem dX2_copyFrom_0 : decode cX2_copyFrom 0 = .ok (.aload_n 0, 1) := by decide +kernel
theorem dX2_copyFrom_1 : decode cX2_copyFrom 1 = .ok (.aload_n 1, 1) := by decide +kernel
theorem dX2_copyFrom_2 : decode cX2_copyFrom 2 = .ok (.getfield 28, 3) := by decide +kernel
theorem dX2_copyFrom_5 : decode cX2_copyFrom 5 = .ok (.putfield 28, 3) := by decide +kernel
theorem dX2_copyFrom_8 : decode cX2_copyFrom 8 = .ok (.aload_n 0, 1) := by decide +kernel
theorem dX2_copyFrom_9 : decode cX2_copyFrom 9 = .ok (.aload_n 1, 1) := by decide +kernel
theorem dX2_copyFrom_10 : decode cX2_copyFrom 10 = .ok (.getfield 31, 3) := by decide +kernel
theorem dX2_copyFrom_13 : decode cX2_copyFrom 13 = .ok (.putfield 31, 3) := by decide +kernel
theorem dX2_copyFrom_16 : decode cX2_copyFrom 16 = .ok (.aload_n 0, 1) := by decide +kernel
theorem dX2_copyFrom_17 : decode cX2_copyFrom 17 = .ok (.aload_n 1, 1) := by decide +kernel
theorem dX2_copyFrom_18 : decode cX2_copyFrom 18 = .ok (.getfield 34, 3) := by decide +kernel
theorem dX2_copyFrom_21 : decode cX2_copyFrom 21 = .ok (.putfield 34, 3) := by decide +kernel
theorem dX2_copyFrom_24 : decode cX2_copyFrom 24 = .ok (.aload_n 0, 1) := by decide +kernel
theorem dX2_copyFrom_25 : decode cX2_copyFrom 25 = .ok (.aload_n 1, 1) := by decide +kernel
theorem dX2_copyFrom_26 : decode cX2_copyFrom 26 = .ok (.getfield 15, 3) := by decide +kernel
theorem dX2_copyFrom_29 : decode cX2_copyFrom 29 = .ok (.putfield 15, 3) := by decide +kernel
theorem dX2_copyFrom_32 : decode cX2_copyFrom 32 = .ok (.aload_n 0, 1) := by decide +kernel
theorem dX2_copyFrom_33 : decode cX2_copyFrom 33 = .ok (.aload_n 1, 1) := by decide +kernel
theorem dX2_copyFrom_34 : decode cX2_copyFrom 34 = .ok (.getfield 19, 3) := by decide +kernel
theorem dX2_copyFrom_37 : decode cX2_copyFrom 37 = .ok (.putfield 19, 3) := by decide +kernel
theorem dX2_copyFrom_40 : decode cX2_copyFrom 40 = .ok (.aload_n 0, 1) := by decide +kernel
theorem dX2_copyFrom_41 : decode cX2_copyFrom 41 = .ok (.aload_n 1, 1) := by decide +kernel
theorem dX2_copyFrom_42 : decode cX2_copyFrom 42 = .ok (.getfield 22, 3) := by decide +kernel
theorem dX2_copyFrom_45 : decode cX2_copyFrom 45 = .ok (.putfield 22, 3) := by decide +kernel
theorem dX2_copyFrom_48 : decode cX2_copyFrom 48 = .ok (.aload_n 0, 1) := by decide +kernel
theorem dX2_copyFrom_49 : decode cX2_copyFrom 49 = .ok (.aload_n 1, 1) := by decide +kernel
theorem dX2_copyFrom_50 : decode cX2_copyFrom 50 = .ok (.getfield 25, 3) := by decide +kernel
theorem dX2_copyFrom_53 : decode cX2_copyFrom 53 = .ok (.putfield 25, 3) := by decide +kernel
theorem dX2_copyFrom_56 : decode cX2_copyFrom 56 = .ok (.return_, 1) := by decide +kernel
theorem dX2_becomeBundle_0 : decode cX2_becomeBundle 0 = .ok (.aload_n 0, 1) := by decide +kernel
theorem dX2_becomeBundle_1 : decode cX2_becomeBundle 1 = .ok (.aload_n 1, 1) := by decide +kernel
theorem dX2_becomeBundle_2 : decode cX2_becomeBundle 2 = .ok (.getfield 28, 3) := by decide +kernel
theorem dX2_becomeBundle_5 : decode cX2_becomeBundle 5 = .ok (.aload_n 2, 1) := by decide +kernel
theorem dX2_becomeBundle_6 : decode cX2_becomeBundle 6 = .ok (.getfield 28, 3) := by decide +kernel
theorem dX2_becomeBundle_9 : decode cX2_becomeBundle 9 = .ok (.invokestatic 37, 3) := by decide +kernel
theorem dX2_becomeBundle_12 : decode cX2_becomeBundle 12 = .ok (.aload_n 1, 1) := by decide +kernel
theorem dX2_becomeBundle_13 : decode cX2_becomeBundle 13 = .ok (.getfield 31, 3) := by decide +kernel
theorem dX2_becomeBundle_16 : decode cX2_becomeBundle 16 = .ok (.aload_n 2, 1) := by decide +kernel
theorem dX2_becomeBundle_17 : decode cX2_becomeBundle 17 = .ok (.getfield 31, 3) := by decide +kernel
theorem dX2_becomeBundle_20 : decode cX2_becomeBundle 20 = .ok (.invokestatic 37, 3) := by decide +kernel
theorem dX2_becomeBundle_23 : decode cX2_becomeBundle 23 = .ok (.aload_n 1, 1) := by decide +kernel
theorem dX2_becomeBundle_24 : decode cX2_becomeBundle 24 = .ok (.getfield 34, 3) := by decide +kernel
theorem dX2_becomeBundle_27 : decode cX2_becomeBundle 27 = .ok (.aload_n 2, 1) := by decide +kernel
theorem dX2_becomeBundle_28 : decode cX2_becomeBundle 28 = .ok (.getfield 34, 3) := by decide +kernel
theorem dX2_becomeBundle_31 : decode cX2_becomeBundle 31 = .ok (.iadd, 1) := by decide +kernel
theorem dX2_becomeBundle_32 : decode cX2_becomeBundle 32 = .ok (.invokevirtual 9, 3) := by decide +kernel
theorem dX2_becomeBundle_35 : decode cX2_becomeBundle 35 = .ok (.aload_n 0, 1) := by decide +kernel
theorem dX2_becomeBundle_36 : decode cX2_becomeBundle 36 = .ok (.aload_n 1, 1) := by decide +kernel
theorem dX2_becomeBundle_37 : decode cX2_becomeBundle 37 = .ok (.getfield 15, 3) := by decide +kernel
theorem dX2_becomeBundle_40 : decode cX2_becomeBundle 40 = .ok (.aload_n 2, 1) := by decide +kernel
theorem dX2_becomeBundle_41 : decode cX2_becomeBundle 41 = .ok (.getfield 15, 3) := by decide +kernel
theorem dX2_becomeBundle_44 : decode cX2_becomeBundle 44 = .ok (.iadd, 1) := by decide +kernel
theorem dX2_becomeBundle_45 : decode cX2_becomeBundle 45 = .ok (.putfield 15, 3) := by decide +kernel
theorem dX2_becomeBundle_48 : decode cX2_becomeBundle 48 = .ok (.aload_n 0, 1) := by decide +kernel
theorem dX2_becomeBundle_49 : decode cX2_becomeBundle 49 = .ok (.aload_n 1, 1) := by decide +kernel
theorem dX2_becomeBundle_50 : decode cX2_becomeBundle 50 = .ok (.getfield 19, 3) := by decide +kernel
theorem dX2_becomeBundle_53 : decode cX2_becomeBundle 53 = .ok (.putfield 19, 3) := by decide +kernel
theorem dX2_becomeBundle_56 : decode cX2_becomeBundle 56 = .ok (.aload_n 0, 1) := by decide +kernel
theorem dX2_becomeBundle_57 : decode cX2_becomeBundle 57 = .ok (.aload_n 1, 1) := by decide +kernel
theorem dX2_becomeBundle_58 : decode cX2_becomeBundle 58 = .ok (.getfield 22, 3) := by decide +kernel
theorem dX2_becomeBundle_61 : decode cX2_becomeBundle 61 = .ok (.aload_n 2, 1) := by decide +kernel
theorem dX2_becomeBundle_62 : decode cX2_becomeBundle 62 = .ok (.getfield 22, 3) := by decide +kernel
theorem dX2_becomeBundle_65 : decode cX2_becomeBundle 65 = .ok (.iadd, 1) := by decide +kernel
theorem dX2_becomeBundle_66 : decode cX2_becomeBundle 66 = .ok (.putfield 22, 3) := by decide +kernel
theorem dX2_becomeBundle_69 : decode cX2_becomeBundle 69 = .ok (.aload_n 0, 1) := by decide +kernel
theorem dX2_becomeBundle_70 : decode cX2_becomeBundle 70 = .ok (.aload_n 1, 1) := by decide +kernel
theorem dX2_becomeBundle_71 : decode cX2_becomeBundle 71 = .ok (.getfield 25, 3) := by decide +kernel
theorem dX2_becomeBundle_74 : decode cX2_becomeBundle 74 = .ok (.aload_n 2, 1) := by decide +kernel
theorem dX2_becomeBundle_75 : decode cX2_becomeBundle 75 = .ok (.getfield 25, 3) := by decide +kernel
theorem dX2_becomeBundle_78 : decode cX2_becomeBundle 78 = .ok (.invokestatic 37, 3) := by decide +kernel
theorem dX2_becomeBundle_81 : decode cX2_becomeBundle 81 = .ok (.putfield 25, 3) := by decide +kernel
theorem dX2_becomeBundle_84 : decode cX2_becomeBundle 84 = .ok (.return_, 1) := by decide +kernel
theorem dX2_tie_0 : decode cX2_tie 0 = .ok (.aload_n 0, 1) := by decide +kernel
theorem dX2_tie_1 : decode cX2_tie 1 = .ok (.getfield 25, 3) := by decide +kernel
theorem dX2_tie_4 : decode cX2_tie 4 = .ok (.istore_n 2, 1) := by decide +kernel
theorem dX2_tie_5 : decode cX2_tie 5 = .ok (.aload_n 0, 1) := by decide +kernel
theorem dX2_tie_6 : decode cX2_tie 6 = .ok (.iload_n 1, 1) := by decide +kernel
theorem dX2_tie_7 : decode cX2_tie 7 = .ok (.putfield 25, 3) := by decide +kernel
theorem dX2_tie_10 : decode cX2_tie 10 = .ok (.iload_n 2, 1) := by decide +kernel
theorem dX2_tie_11 : decode cX2_tie 11 = .ok (.ireturn, 1) := by decide +kernel
theorem dX2_insure_0 : decode cX2_insure 0 = .ok (.aload_n 0, 1) := by decide +kernel
theorem dX2_insure_1 : decode cX2_insure 1 = .ok (.getfield 22, 3) := by decide +kernel
theorem dX2_insure_4 : decode cX2_insure 4 = .ok (.istore_n 2, 1) := by decide +kernel
theorem dX2_insure_5 : decode cX2_insure 5 = .ok (.aload_n 0, 1) := by decide +kernel
theorem dX2_insure_6 : decode cX2_insure 6 = .ok (.iload_n 1, 1) := by decide +kernel
theorem dX2_insure_7 : decode cX2_insure 7 = .ok (.putfield 22, 3) := by decide +kernel
theorem dX2_insure_10 : decode cX2_insure 10 = .ok (.iload_n 2, 1) := by decide +kernel
theorem dX2_insure_11 : decode cX2_insure 11 = .ok (.ireturn, 1) := by decide +kernel
theorem dX2_girth_0 : decode cX2_girth 0 = .ok (.aload_n 0, 1) := by decide +kernel
theorem dX2_girth_1 : decode cX2_girth 1 = .ok (.getfield 28, 3) := by decide +kernel
theorem dX2_girth_4 : decode cX2_girth 4 = .ok (.iconst 2, 1) := by decide +kernel
theorem dX2_girth_5 : decode cX2_girth 5 = .ok (.aload_n 0, 1) := by decide +kernel
theorem dX2_girth_6 : decode cX2_girth 6 = .ok (.getfield 31, 3) := by decide +kernel
theorem dX2_girth_9 : decode cX2_girth 9 = .ok (.aload_n 0, 1) := by decide +kernel
theorem dX2_girth_10 : decode cX2_girth 10 = .ok (.getfield 34, 3) := by decide +kernel
theorem dX2_girth_13 : decode cX2_girth 13 = .ok (.iadd, 1) := by decide +kernel
theorem dX2_girth_14 : decode cX2_girth 14 = .ok (.imul, 1) := by decide +kernel
theorem dX2_girth_15 : decode cX2_girth 15 = .ok (.iadd, 1) := by decide +kernel
theorem dX2_girth_16 : decode cX2_girth 16 = .ok (.ireturn, 1) := by decide +kernel
theorem dX2_stringWithoutKnots_0 : decode cX2_stringWithoutKnots 0 = .ok (.iload_n 1, 1) := by decide +kernel
theorem dX2_stringWithoutKnots_1 : decode cX2_stringWithoutKnots 1 = .ok (.ifCond .ne 15, 3) := by decide +kernel
theorem dX2_stringWithoutKnots_4 : decode cX2_stringWithoutKnots 4 = .ok (.iconst 2, 1) := by decide +kernel
theorem dX2_stringWithoutKnots_5 : decode cX2_stringWithoutKnots 5 = .ok (.aload_n 0, 1) := by decide +kernel
theorem dX2_stringWithoutKnots_6 : decode cX2_stringWithoutKnots 6 = .ok (.getfield 31, 3) := by decide +kernel
theorem dX2_stringWithoutKnots_9 : decode cX2_stringWithoutKnots 9 = .ok (.aload_n 0, 1) := by decide +kernel
theorem dX2_stringWithoutKnots_10 : decode cX2_stringWithoutKnots 10 = .ok (.getfield 34, 3) := by decide +kernel
theorem dX2_stringWithoutKnots_13 : decode cX2_stringWithoutKnots 13 = .ok (.iadd, 1) := by decide +kernel
theorem dX2_stringWithoutKnots_14 : decode cX2_stringWithoutKnots 14 = .ok (.imul, 1) := by decide +kernel
theorem dX2_stringWithoutKnots_15 : decode cX2_stringWithoutKnots 15 = .ok (.ireturn, 1) := by decide +kernel
theorem dX2_stringWithoutKnots_16 : decode cX2_stringWithoutKnots 16 = .ok (.iload_n 1, 1) := by decide +kernel
theorem dX2_stringWithoutKnots_17 : decode cX2_stringWithoutKnots 17 = .ok (.iconst 1, 1) := by decide +kernel
theorem dX2_stringWithoutKnots_18 : decode cX2_stringWithoutKnots 18 = .ok (.if_icmp .ne 24, 3) := by decide +kernel
theorem dX2_stringWithoutKnots_21 : decode cX2_stringWithoutKnots 21 = .ok (.iconst 2, 1) := by decide +kernel
theorem dX2_stringWithoutKnots_22 : decode cX2_stringWithoutKnots 22 = .ok (.aload_n 0, 1) := by decide +kernel
theorem dX2_stringWithoutKnots_23 : decode cX2_stringWithoutKnots 23 = .ok (.getfield 28, 3) := by decide +kernel
theorem dX2_stringWithoutKnots_26 : decode cX2_stringWithoutKnots 26 = .ok (.imul, 1) := by decide +kernel
theorem dX2_stringWithoutKnots_27 : decode cX2_stringWithoutKnots 27 = .ok (.iconst 2, 1) := by decide +kernel
theorem dX2_stringWithoutKnots_28 : decode cX2_stringWithoutKnots 28 = .ok (.aload_n 0, 1) := by decide +kernel
theorem dX2_stringWithoutKnots_29 : decode cX2_stringWithoutKnots 29 = .ok (.getfield 31, 3) := by decide +kernel
theorem dX2_stringWithoutKnots_32 : decode cX2_stringWithoutKnots 32 = .ok (.imul, 1) := by decide +kernel
theorem dX2_stringWithoutKnots_33 : decode cX2_stringWithoutKnots 33 = .ok (.iadd, 1) := by decide +kernel
theorem dX2_stringWithoutKnots_34 : decode cX2_stringWithoutKnots 34 = .ok (.iconst 4, 1) := by decide +kernel
theorem dX2_stringWithoutKnots_35 : decode cX2_stringWithoutKnots 35 = .ok (.aload_n 0, 1) := by decide +kernel
theorem dX2_stringWithoutKnots_36 : decode cX2_stringWithoutKnots 36 = .ok (.getfield 34, 3) := by decide +kernel
theorem dX2_stringWithoutKnots_39 : decode cX2_stringWithoutKnots 39 = .ok (.imul, 1) := by decide +kernel
theorem dX2_stringWithoutKnots_40 : decode cX2_stringWithoutKnots 40 = .ok (.iadd, 1) := by decide +kernel
theorem dX2_stringWithoutKnots_41 : decode cX2_stringWithoutKnots 41 = .ok (.ireturn, 1) := by decide +kernel
theorem dX2_stringWithoutKnots_42 : decode cX2_stringWithoutKnots 42 = .ok (.iconst 4, 1) := by decide +kernel
theorem dX2_stringWithoutKnots_43 : decode cX2_stringWithoutKnots 43 = .ok (.aload_n 0, 1) := by decide +kernel
theorem dX2_stringWithoutKnots_44 : decode cX2_stringWithoutKnots 44 = .ok (.getfield 28, 3) := by decide +kernel
theorem dX2_stringWithoutKnots_47 : decode cX2_stringWithoutKnots 47 = .ok (.imul, 1) := by decide +kernel
theorem dX2_stringWithoutKnots_48 : decode cX2_stringWithoutKnots 48 = .ok (.iconst 2, 1) := by decide +kernel
theorem dX2_stringWithoutKnots_49 : decode cX2_stringWithoutKnots 49 = .ok (.aload_n 0, 1) := by decide +kernel
theorem dX2_stringWithoutKnots_50 : decode cX2_stringWithoutKnots 50 = .ok (.getfield 31, 3) := by decide +kernel
theorem dX2_stringWithoutKnots_53 : decode cX2_stringWithoutKnots 53 = .ok (.imul, 1) := by decide +kernel
theorem dX2_stringWithoutKnots_54 : decode cX2_stringWithoutKnots 54 = .ok (.iadd, 1) := by decide +kernel
theorem dX2_stringWithoutKnots_55 : decode cX2_stringWithoutKnots 55 = .ok (.bipush 6, 2) := by decide +kernel
theorem dX2_stringWithoutKnots_57 : decode cX2_stringWithoutKnots 57 = .ok (.aload_n 0, 1) := by decide +kernel
theorem dX2_stringWithoutKnots_58 : decode cX2_stringWithoutKnots 58 = .ok (.getfield 34, 3) := by decide +kernel
theorem dX2_stringWithoutKnots_61 : decode cX2_stringWithoutKnots 61 = .ok (.imul, 1) := by decide +kernel
theorem dX2_stringWithoutKnots_62 : decode cX2_stringWithoutKnots 62 = .ok (.iadd, 1) := by decide +kernel
theorem dX2_stringWithoutKnots_63 : decode cX2_stringWithoutKnots 63 = .ok (.ireturn, 1) := by decide +kernel
theorem dX2_laySides_0 : decode cX2_laySides 0 = .ok (.aload_n 0, 1) := by decide +kernel
theorem dX2_laySides_1 : decode cX2_laySides 1 = .ok (.iload_n 1, 1) := by decide +kernel
theorem dX2_laySides_2 : decode cX2_laySides 2 = .ok (.iload_n 2, 1) := by decide +kernel
theorem dX2_laySides_3 : decode cX2_laySides 3 = .ok (.iload_n 3, 1) := by decide +kernel
theorem dX2_laySides_4 : decode cX2_laySides 4 = .ok (.invokestatic 37, 3) := by decide +kernel
theorem dX2_laySides_7 : decode cX2_laySides 7 = .ok (.invokestatic 37, 3) := by decide +kernel
theorem dX2_laySides_10 : decode cX2_laySides 10 = .ok (.putfield 28, 3) := by decide +kernel
theorem dX2_laySides_13 : decode cX2_laySides 13 = .ok (.aload_n 0, 1) := by decide +kernel
theorem dX2_laySides_14 : decode cX2_laySides 14 = .ok (.iload_n 1, 1) := by decide +kernel
theorem dX2_laySides_15 : decode cX2_laySides 15 = .ok (.iload_n 2, 1) := by decide +kernel
theorem dX2_laySides_16 : decode cX2_laySides 16 = .ok (.iload_n 3, 1) := by decide +kernel
theorem dX2_laySides_17 : decode cX2_laySides 17 = .ok (.invokestatic 43, 3) := by decide +kernel
theorem dX2_laySides_20 : decode cX2_laySides 20 = .ok (.invokestatic 43, 3) := by decide +kernel
theorem dX2_laySides_23 : decode cX2_laySides 23 = .ok (.putfield 34, 3) := by decide +kernel
theorem dX2_laySides_26 : decode cX2_laySides 26 = .ok (.aload_n 0, 1) := by decide +kernel
theorem dX2_laySides_27 : decode cX2_laySides 27 = .ok (.iload_n 1, 1) := by decide +kernel
theorem dX2_laySides_28 : decode cX2_laySides 28 = .ok (.iload_n 2, 1) := by decide +kernel
theorem dX2_laySides_29 : decode cX2_laySides 29 = .ok (.iadd, 1) := by decide +kernel
theorem dX2_laySides_30 : decode cX2_laySides 30 = .ok (.iload_n 3, 1) := by decide +kernel
theorem dX2_laySides_31 : decode cX2_laySides 31 = .ok (.iadd, 1) := by decide +kernel
theorem dX2_laySides_32 : decode cX2_laySides 32 = .ok (.aload_n 0, 1) := by decide +kernel
theorem dX2_laySides_33 : decode cX2_laySides 33 = .ok (.getfield 28, 3) := by decide +kernel
theorem dX2_laySides_36 : decode cX2_laySides 36 = .ok (.isub, 1) := by decide +kernel
theorem dX2_laySides_37 : decode cX2_laySides 37 = .ok (.aload_n 0, 1) := by decide +kernel
theorem dX2_laySides_38 : decode cX2_laySides 38 = .ok (.getfield 34, 3) := by decide +kernel
theorem dX2_laySides_41 : decode cX2_laySides 41 = .ok (.isub, 1) := by decide +kernel
theorem dX2_laySides_42 : decode cX2_laySides 42 = .ok (.putfield 31, 3) := by decide +kernel
theorem dX2_laySides_45 : decode cX2_laySides 45 = .ok (.return_, 1) := by decide +kernel
theorem dX3_init_0 : decode cX3_init 0 = .ok (.aload_n 0, 1) := by decide +kernel
theorem dX3_init_1 : decode cX3_init 1 = .ok (.invokespecial 3, 3) := by decide +kernel
theorem dX3_init_4 : decode cX3_init 4 = .ok (.aload_n 0, 1) := by decide +kernel
theorem dX3_init_5 : decode cX3_init 5 = .ok (.bipush 60, 2) := by decide +kernel
theorem dX3_init_7 : decode cX3_init 7 = .ok (.newarray .int, 2) := by decide +kernel
theorem dX3_init_9 : decode cX3_init 9 = .ok (.putfield 9, 3) := by decide +kernel
theorem dX3_init_12 : decode cX3_init 12 = .ok (.aload_n 0, 1) := by decide +kernel
theorem dX3_init_13 : decode cX3_init 13 = .ok (.bipush 6, 2) := by decide +kernel
theorem dX3_init_15 : decode cX3_init 15 = .ok (.newarray .int, 2) := by decide +kernel
theorem dX3_init_17 : decode cX3_init 17 = .ok (.putfield 15, 3) := by decide +kernel
theorem dX3_init_20 : decode cX3_init 20 = .ok (.return_, 1) := by decide +kernel
theorem dX4_init_0 : decode cX4_init 0 = .ok (.aload_n 0, 1) := by decide +kernel
theorem dX4_init_1 : decode cX4_init 1 = .ok (.invokespecial 3, 3) := by decide +kernel
theorem dX4_init_4 : decode cX4_init 4 = .ok (.aload_n 0, 1) := by decide +kernel
theorem dX4_init_5 : decode cX4_init 5 = .ok (.bipush 6, 2) := by decide +kernel
theorem dX4_init_7 : decode cX4_init 7 = .ok (.anewarray 9, 3) := by decide +kernel
theorem dX4_init_10 : decode cX4_init 10 = .ok (.putfield 11, 3) := by decide +kernel
theorem dX4_init_13 : decode cX4_init 13 = .ok (.iconst 0, 1) := by decide +kernel
theorem dX4_init_14 : decode cX4_init 14 = .ok (.istore_n 1, 1) := by decide +kernel
theorem dX4_init_15 : decode cX4_init 15 = .ok (.iload_n 1, 1) := by decide +kernel
theorem dX4_init_16 : decode cX4_init 16 = .ok (.aload_n 0, 1) := by decide +kernel
theorem dX4_init_17 : decode cX4_init 17 = .ok (.getfield 11, 3) := by decide +kernel
theorem dX4_init_20 : decode cX4_init 20 = .ok (.arraylength, 1) := by decide +kernel
theorem dX4_init_21 : decode cX4_init 21 = .ok (.if_icmp .ge 22, 3) := by decide +kernel
theorem dX4_init_24 : decode cX4_init 24 = .ok (.aload_n 0, 1) := by decide +kernel
theorem dX4_init_25 : decode cX4_init 25 = .ok (.getfield 11, 3) := by decide +kernel
theorem dX4_init_28 : decode cX4_init 28 = .ok (.iload_n 1, 1) := by decide +kernel
theorem dX4_init_29 : decode cX4_init 29 = .ok (.new 9, 3) := by decide +kernel
theorem dX4_init_32 : decode cX4_init 32 = .ok (.dup, 1) := by decide +kernel
theorem dX4_init_33 : decode cX4_init 33 = .ok (.invokespecial 17, 3) := by decide +kernel
theorem dX4_init_36 : decode cX4_init 36 = .ok (.aastore, 1) := by decide +kernel
theorem dX4_init_37 : decode cX4_init 37 = .ok (.iinc 1 1, 3) := by decide +kernel
theorem dX4_init_40 : decode cX4_init 40 = .ok (.goto (-25), 3) := by decide +kernel
theorem dX4_init_43 : decode cX4_init 43 = .ok (.return_, 1) := by decide +kernel
theorem dX4_save_0 : decode cX4_save 0 = .ok (.aload_n 0, 1) := by decide +kernel
theorem dX4_save_1 : decode cX4_save 1 = .ok (.getfield 18, 3) := by decide +kernel
theorem dX4_save_4 : decode cX4_save 4 = .ok (.aload_n 0, 1) := by decide +kernel
theorem dX4_save_5 : decode cX4_save 5 = .ok (.getfield 11, 3) := by decide +kernel
theorem dX4_save_8 : decode cX4_save 8 = .ok (.arraylength, 1) := by decide +kernel
theorem dX4_save_9 : decode cX4_save 9 = .ok (.if_icmp .lt 7, 3) := by decide +kernel
theorem dX4_save_12 : decode cX4_save 12 = .ok (.aload_n 0, 1) := by decide +kernel
theorem dX4_save_13 : decode cX4_save 13 = .ok (.invokevirtual 22, 3) := by decide +kernel
theorem dX4_save_16 : decode cX4_save 16 = .ok (.aload_n 0, 1) := by decide +kernel
theorem dX4_save_17 : decode cX4_save 17 = .ok (.getfield 11, 3) := by decide +kernel
theorem dX4_save_20 : decode cX4_save 20 = .ok (.aload_n 0, 1) := by decide +kernel
theorem dX4_save_21 : decode cX4_save 21 = .ok (.getfield 18, 3) := by decide +kernel
theorem dX4_save_24 : decode cX4_save 24 = .ok (.aaload, 1) := by decide +kernel
theorem dX4_save_25 : decode cX4_save 25 = .ok (.aload_n 1, 1) := by decide +kernel
theorem dX4_save_26 : decode cX4_save 26 = .ok (.invokevirtual 25, 3) := by decide +kernel
theorem dX4_save_29 : decode cX4_save 29 = .ok (.aload_n 0, 1) := by decide +kernel
theorem dX4_save_30 : decode cX4_save 30 = .ok (.dup, 1) := by decide +kernel
theorem dX4_save_31 : decode cX4_save 31 = .ok (.getfield 18, 3) := by decide +kernel
theorem dX4_save_34 : decode cX4_save 34 = .ok (.iconst 1, 1) := by decide +kernel
theorem dX4_save_35 : decode cX4_save 35 = .ok (.iadd, 1) := by decide +kernel
theorem dX4_save_36 : decode cX4_save 36 = .ok (.putfield 18, 3) := by decide +kernel
theorem dX4_save_39 : decode cX4_save 39 = .ok (.return_, 1) := by decide +kernel
theorem dX4_restoreLatest_0 : decode cX4_restoreLatest 0 = .ok (.aload_n 0, 1) := by decide +kernel
theorem dX4_restoreLatest_1 : decode cX4_restoreLatest 1 = .ok (.getfield 18, 3) := by decide +kernel
theorem dX4_restoreLatest_4 : decode cX4_restoreLatest 4 = .ok (.ifCond .le 26, 3) := by decide +kernel
theorem dX4_restoreLatest_7 : decode cX4_restoreLatest 7 = .ok (.aload_n 0, 1) := by decide +kernel
theorem dX4_restoreLatest_8 : decode cX4_restoreLatest 8 = .ok (.dup, 1) := by decide +kernel
theorem dX4_restoreLatest_9 : decode cX4_restoreLatest 9 = .ok (.getfield 18, 3) := by decide +kernel
theorem dX4_restoreLatest_12 : decode cX4_restoreLatest 12 = .ok (.iconst 1, 1) := by decide +kernel
theorem dX4_restoreLatest_13 : decode cX4_restoreLatest 13 = .ok (.isub, 1) := by decide +kernel
theorem dX4_restoreLatest_14 : decode cX4_restoreLatest 14 = .ok (.putfield 18, 3) := by decide +kernel
theorem dX4_restoreLatest_17 : decode cX4_restoreLatest 17 = .ok (.aload_n 1, 1) := by decide +kernel
theorem dX4_restoreLatest_18 : decode cX4_restoreLatest 18 = .ok (.aload_n 0, 1) := by decide +kernel
theorem dX4_restoreLatest_19 : decode cX4_restoreLatest 19 = .ok (.getfield 11, 3) := by decide +kernel
theorem dX4_restoreLatest_22 : decode cX4_restoreLatest 22 = .ok (.aload_n 0, 1) := by decide +kernel
theorem dX4_restoreLatest_23 : decode cX4_restoreLatest 23 = .ok (.getfield 18, 3) := by decide +kernel
theorem dX4_restoreLatest_26 : decode cX4_restoreLatest 26 = .ok (.aaload, 1) := by decide +kernel
theorem dX4_restoreLatest_27 : decode cX4_restoreLatest 27 = .ok (.invokevirtual 25, 3) := by decide +kernel
theorem dX4_restoreLatest_30 : decode cX4_restoreLatest 30 = .ok (.return_, 1) := by decide +kernel
theorem dX4_dropOldest_0 : decode cX4_dropOldest 0 = .ok (.aload_n 0, 1) := by decide +kernel
theorem dX4_dropOldest_1 : decode cX4_dropOldest 1 = .ok (.getfield 11, 3) := by decide +kernel
theorem dX4_dropOldest_4 : decode cX4_dropOldest 4 = .ok (.iconst 0, 1) := by decide +kernel
theorem dX4_dropOldest_5 : decode cX4_dropOldest 5 = .ok (.aaload, 1) := by decide +kernel
theorem dX4_dropOldest_6 : decode cX4_dropOldest 6 = .ok (.astore_n 1, 1) := by decide +kernel
theorem dX4_dropOldest_7 : decode cX4_dropOldest 7 = .ok (.iconst 1, 1) := by decide +kernel
theorem dX4_dropOldest_8 : decode cX4_dropOldest 8 = .ok (.istore_n 2, 1) := by decide +kernel
theorem dX4_dropOldest_9 : decode cX4_dropOldest 9 = .ok (.iload_n 2, 1) := by decide +kernel
theorem dX4_dropOldest_10 : decode cX4_dropOldest 10 = .ok (.aload_n 0, 1) := by decide +kernel
theorem dX4_dropOldest_11 : decode cX4_dropOldest 11 = .ok (.getfield 11, 3) := by decide +kernel
theorem dX4_dropOldest_14 : decode cX4_dropOldest 14 = .ok (.arraylength, 1) := by decide +kernel
theorem dX4_dropOldest_15 : decode cX4_dropOldest 15 = .ok (.if_icmp .ge 23, 3) := by decide +kernel
theorem dX4_dropOldest_18 : decode cX4_dropOldest 18 = .ok (.aload_n 0, 1) := by decide +kernel
theorem dX4_dropOldest_19 : decode cX4_dropOldest 19 = .ok (.getfield 11, 3) := by decide +kernel
theorem dX4_dropOldest_22 : decode cX4_dropOldest 22 = .ok (.iload_n 2, 1) := by decide +kernel
theorem dX4_dropOldest_23 : decode cX4_dropOldest 23 = .ok (.iconst 1, 1) := by decide +kernel
theorem dX4_dropOldest_24 : decode cX4_dropOldest 24 = .ok (.isub, 1) := by decide +kernel
theorem dX4_dropOldest_25 : decode cX4_dropOldest 25 = .ok (.aload_n 0, 1) := by decide +kernel
theorem dX4_dropOldest_26 : decode cX4_dropOldest 26 = .ok (.getfield 11, 3) := by decide +kernel
theorem dX4_dropOldest_29 : decode cX4_dropOldest 29 = .ok (.iload_n 2, 1) := by decide +kernel
theorem dX4_dropOldest_30 : decode cX4_dropOldest 30 = .ok (.aaload, 1) := by decide +kernel
theorem dX4_dropOldest_31 : decode cX4_dropOldest 31 = .ok (.aastore, 1) := by decide +kernel
theorem dX4_dropOldest_32 : decode cX4_dropOldest 32 = .ok (.iinc 2 1, 3) := by decide +kernel
theorem dX4_dropOldest_35 : decode cX4_dropOldest 35 = .ok (.goto (-26), 3) := by decide +kernel
theorem dX4_dropOldest_38 : decode cX4_dropOldest 38 = .ok (.aload_n 0, 1) := by decide +kernel
theorem dX4_dropOldest_39 : decode cX4_dropOldest 39 = .ok (.getfield 11, 3) := by decide +kernel
theorem dX4_dropOldest_42 : decode cX4_dropOldest 42 = .ok (.aload_n 0, 1) := by decide +kernel
theorem dX4_dropOldest_43 : decode cX4_dropOldest 43 = .ok (.getfield 11, 3) := by decide +kernel
theorem dX4_dropOldest_46 : decode cX4_dropOldest 46 = .ok (.arraylength, 1) := by decide +kernel
theorem dX4_dropOldest_47 : decode cX4_dropOldest 47 = .ok (.iconst 1, 1) := by decide +kernel
theorem dX4_dropOldest_48 : decode cX4_dropOldest 48 = .ok (.isub, 1) := by decide +kernel
theorem dX4_dropOldest_49 : decode cX4_dropOldest 49 = .ok (.aload_n 1, 1) := by decide +kernel
theorem dX4_dropOldest_50 : decode cX4_dropOldest 50 = .ok (.aastore, 1) := by decide +kernel
theorem dX4_dropOldest_51 : decode cX4_dropOldest 51 = .ok (.aload_n 0, 1) := by decide +kernel
theorem dX4_dropOldest_52 : decode cX4_dropOldest 52 = .ok (.aload_n 0, 1) := by decide +kernel
theorem dX4_dropOldest_53 : decode cX4_dropOldest 53 = .ok (.getfield 11, 3) := by decide +kernel
theorem dX4_dropOldest_56 : decode cX4_dropOldest 56 = .ok (.arraylength, 1) := by decide +kernel
theorem dX4_dropOldest_57 : decode cX4_dropOldest 57 = .ok (.iconst 1, 1) := by decide +kernel
theorem dX4_dropOldest_58 : decode cX4_dropOldest 58 = .ok (.isub, 1) := by decide +kernel
theorem dX4_dropOldest_59 : decode cX4_dropOldest 59 = .ok (.putfield 18, 3) := by decide +kernel
theorem dX4_dropOldest_62 : decode cX4_dropOldest 62 = .ok (.return_, 1) := by decide +kernel
theorem dX5_init_0 : decode cX5_init 0 = .ok (.aload_n 0, 1) := by decide +kernel
theorem dX5_init_1 : decode cX5_init 1 = .ok (.invokespecial 1, 3) := by decide +kernel
theorem dX5_init_4 : decode cX5_init 4 = .ok (.aload_n 0, 1) := by decide +kernel
theorem dX5_init_5 : decode cX5_init 5 = .ok (.new 7, 3) := by decide +kernel
theorem dX5_init_8 : decode cX5_init 8 = .ok (.dup, 1) := by decide +kernel
theorem dX5_init_9 : decode cX5_init 9 = .ok (.invokespecial 9, 3) := by decide +kernel
theorem dX5_init_12 : decode cX5_init 12 = .ok (.putfield 10, 3) := by decide +kernel
theorem dX5_init_15 : decode cX5_init 15 = .ok (.aload_n 0, 1) := by decide +kernel
theorem dX5_init_16 : decode cX5_init 16 = .ok (.iconst 2, 1) := by decide +kernel
theorem dX5_init_17 : decode cX5_init 17 = .ok (.anewarray 7, 3) := by decide +kernel
theorem dX5_init_20 : decode cX5_init 20 = .ok (.putfield 16, 3) := by decide +kernel
theorem dX5_init_23 : decode cX5_init 23 = .ok (.aload_n 0, 1) := by decide +kernel
theorem dX5_init_24 : decode cX5_init 24 = .ok (.iconst 2, 1) := by decide +kernel
theorem dX5_init_25 : decode cX5_init 25 = .ok (.newarray .boolean, 2) := by decide +kernel
theorem dX5_init_27 : decode cX5_init 27 = .ok (.putfield 20, 3) := by decide +kernel
theorem dX5_init_30 : decode cX5_init 30 = .ok (.aload_n 0, 1) := by decide +kernel
theorem dX5_init_31 : decode cX5_init 31 = .ok (.new 24, 3) := by decide +kernel
theorem dX5_init_34 : decode cX5_init 34 = .ok (.dup, 1) := by decide +kernel
theorem dX5_init_35 : decode cX5_init 35 = .ok (.invokespecial 26, 3) := by decide +kernel
theorem dX5_init_38 : decode cX5_init 38 = .ok (.putfield 27, 3) := by decide +kernel
theorem dX5_init_41 : decode cX5_init 41 = .ok (.aload_n 0, 1) := by decide +kernel
theorem dX5_init_42 : decode cX5_init 42 = .ok (.new 31, 3) := by decide +kernel
theorem dX5_init_45 : decode cX5_init 45 = .ok (.dup, 1) := by decide +kernel
theorem dX5_init_46 : decode cX5_init 46 = .ok (.invokespecial 33, 3) := by decide +kernel
theorem dX5_init_49 : decode cX5_init 49 = .ok (.putfield 34, 3) := by decide +kernel
theorem dX5_init_52 : decode cX5_init 52 = .ok (.aload_n 0, 1) := by decide +kernel
theorem dX5_init_53 : decode cX5_init 53 = .ok (.new 38, 3) := by decide +kernel
theorem dX5_init_56 : decode cX5_init 56 = .ok (.dup, 1) := by decide +kernel
theorem dX5_init_57 : decode cX5_init 57 = .ok (.invokespecial 40, 3) := by decide +kernel
theorem dX5_init_60 : decode cX5_init 60 = .ok (.putfield 41, 3) := by decide +kernel
theorem dX5_init_63 : decode cX5_init 63 = .ok (.iconst 0, 1) := by decide +kernel
theorem dX5_init_64 : decode cX5_init 64 = .ok (.istore_n 1, 1) := by decide +kernel
theorem dX5_init_65 : decode cX5_init 65 = .ok (.iload_n 1, 1) := by decide +kernel
theorem dX5_init_66 : decode cX5_init 66 = .ok (.aload_n 0, 1) := by decide +kernel
theorem dX5_init_67 : decode cX5_init 67 = .ok (.getfield 16, 3) := by decide +kernel
theorem dX5_init_70 : decode cX5_init 70 = .ok (.arraylength, 1) := by decide +kernel
theorem dX5_init_71 : decode cX5_init 71 = .ok (.if_icmp .ge 22, 3) := by decide +kernel
theorem dX5_init_74 : decode cX5_init 74 = .ok (.aload_n 0, 1) := by decide +kernel
theorem dX5_init_75 : decode cX5_init 75 = .ok (.getfield 16, 3) := by decide +kernel
theorem dX5_init_78 : decode cX5_init 78 = .ok (.iload_n 1, 1) := by decide +kernel
theorem dX5_init_79 : decode cX5_init 79 = .ok (.new 7, 3) := by decide +kernel
theorem dX5_init_82 : decode cX5_init 82 = .ok (.dup, 1) := by decide +kernel
theorem dX5_init_83 : decode cX5_init 83 = .ok (.invokespecial 9, 3) := by decide +kernel
theorem dX5_init_86 : decode cX5_init 86 = .ok (.aastore, 1) := by decide +kernel
theorem dX5_init_87 : decode cX5_init 87 = .ok (.iinc 1 1, 3) := by decide +kernel
theorem dX5_init_90 : decode cX5_init 90 = .ok (.goto (-25), 3) := by decide +kernel
theorem dX5_init_93 : decode cX5_init 93 = .ok (.return_, 1) := by decide +kernel
theorem dX5_bring_0 : decode cX5_bring 0 = .ok (.iload_n 1, 1) := by decide +kernel
theorem dX5_bring_1 : decode cX5_bring 1 = .ok (.iconst 1, 1) := by decide +kernel
theorem dX5_bring_2 : decode cX5_bring 2 = .ok (.bipush 60, 2) := by decide +kernel
theorem dX5_bring_4 : decode cX5_bring 4 = .ok (.invokestatic 45, 3) := by decide +kernel
theorem dX5_bring_7 : decode cX5_bring 7 = .ok (.ifCond .eq 27, 3) := by decide +kernel
theorem dX5_bring_10 : decode cX5_bring 10 = .ok (.iload_n 2, 1) := by decide +kernel
theorem dX5_bring_11 : decode cX5_bring 11 = .ok (.iconst 1, 1) := by decide +kernel
theorem dX5_bring_12 : decode cX5_bring 12 = .ok (.bipush 60, 2) := by decide +kernel
theorem dX5_bring_14 : decode cX5_bring 14 = .ok (.invokestatic 45, 3) := by decide +kernel
theorem dX5_bring_17 : decode cX5_bring 17 = .ok (.ifCond .eq 17, 3) := by decide +kernel
theorem dX5_bring_20 : decode cX5_bring 20 = .ok (.iload_n 3, 1) := by decide +kernel
theorem dX5_bring_21 : decode cX5_bring 21 = .ok (.iconst 1, 1) := by decide +kernel
theorem dX5_bring_22 : decode cX5_bring 22 = .ok (.bipush 60, 2) := by decide +kernel
theorem dX5_bring_24 : decode cX5_bring 24 = .ok (.invokestatic 45, 3) := by decide +kernel
theorem dX5_bring_27 : decode cX5_bring 27 = .ok (.ifCond .eq 7, 3) := by decide +kernel
theorem dX5_bring_30 : decode cX5_bring 30 = .ok (.iconst 1, 1) := by decide +kernel
theorem dX5_bring_31 : decode cX5_bring 31 = .ok (.goto 4, 3) := by decide +kernel
theorem dX5_bring_34 : decode cX5_bring 34 = .ok (.iconst 0, 1) := by decide +kernel
theorem dX5_bring_35 : decode cX5_bring 35 = .ok (.invokestatic 49, 3) := by decide +kernel
theorem dX5_bring_38 : decode cX5_bring 38 = .ok (.iload 4, 2) := by decide +kernel
theorem dX5_bring_40 : decode cX5_bring 40 = .ok (.iconst 1, 1) := by decide +kernel
theorem dX5_bring_41 : decode cX5_bring 41 = .ok (.bipush 99, 2) := by decide +kernel
theorem dX5_bring_43 : decode cX5_bring 43 = .ok (.invokestatic 45, 3) := by decide +kernel
theorem dX5_bring_46 : decode cX5_bring 46 = .ok (.ifCond .eq 17, 3) := by decide +kernel
theorem dX5_bring_49 : decode cX5_bring 49 = .ok (.iload 5, 2) := by decide +kernel
theorem dX5_bring_51 : decode cX5_bring 51 = .ok (.iconst 0, 1) := by decide +kernel
theorem dX5_bring_52 : decode cX5_bring 52 = .ok (.iconst 3, 1) := by decide +kernel
theorem dX5_bring_53 : decode cX5_bring 53 = .ok (.invokestatic 45, 3) := by decide +kernel
theorem dX5_bring_56 : decode cX5_bring 56 = .ok (.ifCond .eq 7, 3) := by decide +kernel
theorem dX5_bring_59 : decode cX5_bring 59 = .ok (.iconst 1, 1) := by decide +kernel
theorem dX5_bring_60 : decode cX5_bring 60 = .ok (.goto 4, 3) := by decide +kernel
theorem dX5_bring_63 : decode cX5_bring 63 = .ok (.iconst 0, 1) := by decide +kernel
theorem dX5_bring_64 : decode cX5_bring 64 = .ok (.invokestatic 49, 3) := by decide +kernel
theorem dX5_bring_67 : decode cX5_bring 67 = .ok (.aload_n 0, 1) := by decide +kernel
theorem dX5_bring_68 : decode cX5_bring 68 = .ok (.getfield 27, 3) := by decide +kernel
theorem dX5_bring_71 : decode cX5_bring 71 = .ok (.aload_n 0, 1) := by decide +kernel
theorem dX5_bring_72 : decode cX5_bring 72 = .ok (.getfield 10, 3) := by decide +kernel
theorem dX5_bring_75 : decode cX5_bring 75 = .ok (.invokevirtual 53, 3) := by decide +kernel
theorem dX5_bring_78 : decode cX5_bring 78 = .ok (.aload_n 0, 1) := by decide +kernel
theorem dX5_bring_79 : decode cX5_bring 79 = .ok (.getfield 10, 3) := by decide +kernel
theorem dX5_bring_82 : decode cX5_bring 82 = .ok (.iload_n 1, 1) := by decide +kernel
theorem dX5_bring_83 : decode cX5_bring 83 = .ok (.iload_n 2, 1) := by decide +kernel
theorem dX5_bring_84 : decode cX5_bring 84 = .ok (.iload_n 3, 1) := by decide +kernel
theorem dX5_bring_85 : decode cX5_bring 85 = .ok (.iload 4, 2) := by decide +kernel
theorem dX5_bring_87 : decode cX5_bring 87 = .ok (.iload 5, 2) := by decide +kernel
theorem dX5_bring_89 : decode cX5_bring 89 = .ok (.iconst 0, 1) := by decide +kernel
theorem dX5_bring_90 : decode cX5_bring 90 = .ok (.invokevirtual 57, 3) := by decide +kernel
theorem dX5_bring_93 : decode cX5_bring 93 = .ok (.ireturn, 1) := by decide +kernel
theorem dX5_change_0 : decode cX5_change 0 = .ok (.aload_n 0, 1) := by decide +kernel
theorem dX5_change_1 : decode cX5_change 1 = .ok (.iload_n 1, 1) := by decide +kernel
theorem dX5_change_2 : decode cX5_change 2 = .ok (.invokevirtual 61, 3) := by decide +kernel
theorem dX5_change_5 : decode cX5_change 5 = .ok (.iload_n 2, 1) := by decide +kernel
theorem dX5_change_6 : decode cX5_change 6 = .ok (.ifCond .eq 8, 3) := by decide +kernel
theorem dX5_change_9 : decode cX5_change 9 = .ok (.iload_n 2, 1) := by decide +kernel
theorem dX5_change_10 : decode cX5_change 10 = .ok (.iconst 1, 1) := by decide +kernel
theorem dX5_change_11 : decode cX5_change 11 = .ok (.if_icmp .ne 7, 3) := by decide +kernel
theorem dX5_change_14 : decode cX5_change 14 = .ok (.iconst 1, 1) := by decide +kernel
theorem dX5_change_15 : decode cX5_change 15 = .ok (.goto 4, 3) := by decide +kernel
theorem dX5_change_18 : decode cX5_change 18 = .ok (.iconst 0, 1) := by decide +kernel
theorem dX5_change_19 : decode cX5_change 19 = .ok (.invokestatic 49, 3) := by decide +kernel
theorem dX5_change_22 : decode cX5_change 22 = .ok (.iload_n 3, 1) := by decide +kernel
theorem dX5_change_23 : decode cX5_change 23 = .ok (.iconst 0, 1) := by decide +kernel
theorem dX5_change_24 : decode cX5_change 24 = .ok (.iload_n 2, 1) := by decide +kernel
theorem dX5_change_25 : decode cX5_change 25 = .ok (.ifCond .ne 7, 3) := by decide +kernel
theorem dX5_change_28 : decode cX5_change 28 = .ok (.iconst 2, 1) := by decide +kernel
theorem dX5_change_29 : decode cX5_change 29 = .ok (.goto 5, 3) := by decide +kernel
theorem dX5_change_32 : decode cX5_change 32 = .ok (.bipush 8, 2) := by decide +kernel
theorem dX5_change_34 : decode cX5_change 34 = .ok (.invokestatic 45, 3) := by decide +kernel
theorem dX5_change_37 : decode cX5_change 37 = .ok (.invokestatic 49, 3) := by decide +kernel
theorem dX5_change_40 : decode cX5_change 40 = .ok (.aload_n 0, 1) := by decide +kernel
theorem dX5_change_41 : decode cX5_change 41 = .ok (.getfield 27, 3) := by decide +kernel
theorem dX5_change_44 : decode cX5_change 44 = .ok (.aload_n 0, 1) := by decide +kernel
theorem dX5_change_45 : decode cX5_change 45 = .ok (.getfield 10, 3) := by decide +kernel
theorem dX5_change_48 : decode cX5_change 48 = .ok (.invokevirtual 53, 3) := by decide +kernel
theorem dX5_change_51 : decode cX5_change 51 = .ok (.aload_n 0, 1) := by decide +kernel
theorem dX5_change_52 : decode cX5_change 52 = .ok (.getfield 10, 3) := by decide +kernel
theorem dX5_change_55 : decode cX5_change 55 = .ok (.getfield 65, 3) := by decide +kernel
theorem dX5_change_58 : decode cX5_change 58 = .ok (.iload_n 1, 1) := by decide +kernel
theorem dX5_change_59 : decode cX5_change 59 = .ok (.aaload, 1) := by decide +kernel
theorem dX5_change_60 : decode cX5_change 60 = .ok (.astore 4, 2) := by decide +kernel
theorem dX5_change_62 : decode cX5_change 62 = .ok (.iload_n 2, 1) := by decide +kernel
theorem dX5_change_63 : decode cX5_change 63 = .ok (.ifCond .ne 12, 3) := by decide +kernel
theorem dX5_change_66 : decode cX5_change 66 = .ok (.aload 4, 2) := by decide +kernel
theorem dX5_change_68 : decode cX5_change 68 = .ok (.iload_n 3, 1) := by decide +kernel
theorem dX5_change_69 : decode cX5_change 69 = .ok (.invokevirtual 69, 3) := by decide +kernel
theorem dX5_change_72 : decode cX5_change 72 = .ok (.goto 9, 3) := by decide +kernel
theorem dX5_change_75 : decode cX5_change 75 = .ok (.aload 4, 2) := by decide +kernel
theorem dX5_change_77 : decode cX5_change 77 = .ok (.iload_n 3, 1) := by decide +kernel
theorem dX5_change_78 : decode cX5_change 78 = .ok (.invokevirtual 75, 3) := by decide +kernel
theorem dX5_change_81 : decode cX5_change 81 = .ok (.ireturn, 1) := by decide +kernel
theorem dX5_send_0 : decode cX5_send 0 = .ok (.aload_n 0, 1) := by decide +kernel
theorem dX5_send_1 : decode cX5_send 1 = .ok (.iload_n 1, 1) := by decide +kernel
theorem dX5_send_2 : decode cX5_send 2 = .ok (.invokevirtual 61, 3) := by decide +kernel
theorem dX5_send_5 : decode cX5_send 5 = .ok (.aload_n 0, 1) := by decide +kernel
theorem dX5_send_6 : decode cX5_send 6 = .ok (.getfield 27, 3) := by decide +kernel
theorem dX5_send_9 : decode cX5_send 9 = .ok (.aload_n 0, 1) := by decide +kernel
theorem dX5_send_10 : decode cX5_send 10 = .ok (.getfield 10, 3) := by decide +kernel
theorem dX5_send_13 : decode cX5_send 13 = .ok (.invokevirtual 53, 3) := by decide +kernel
theorem dX5_send_16 : decode cX5_send 16 = .ok (.aload_n 0, 1) := by decide +kernel
theorem dX5_send_17 : decode cX5_send 17 = .ok (.getfield 10, 3) := by decide +kernel
theorem dX5_send_20 : decode cX5_send 20 = .ok (.iload_n 1, 1) := by decide +kernel
theorem dX5_send_21 : decode cX5_send 21 = .ok (.invokevirtual 78, 3) := by decide +kernel
theorem dX5_send_24 : decode cX5_send 24 = .ok (.ireturn, 1) := by decide +kernel
theorem dX5_dispute_0 : decode cX5_dispute 0 = .ok (.aload_n 0, 1) := by decide +kernel
theorem dX5_dispute_1 : decode cX5_dispute 1 = .ok (.iload_n 1, 1) := by decide +kernel
theorem dX5_dispute_2 : decode cX5_dispute 2 = .ok (.invokevirtual 61, 3) := by decide +kernel
theorem dX5_dispute_5 : decode cX5_dispute 5 = .ok (.iload_n 2, 1) := by decide +kernel
theorem dX5_dispute_6 : decode cX5_dispute 6 = .ok (.iconst 1, 1) := by decide +kernel
theorem dX5_dispute_7 : decode cX5_dispute 7 = .ok (.sipush 999, 3) := by decide +kernel
theorem dX5_dispute_10 : decode cX5_dispute 10 = .ok (.invokestatic 45, 3) := by decide +kernel
theorem dX5_dispute_13 : decode cX5_dispute 13 = .ok (.invokestatic 49, 3) := by decide +kernel
theorem dX5_dispute_16 : decode cX5_dispute 16 = .ok (.aload_n 0, 1) := by decide +kernel
theorem dX5_dispute_17 : decode cX5_dispute 17 = .ok (.getfield 27, 3) := by decide +kernel
theorem dX5_dispute_20 : decode cX5_dispute 20 = .ok (.aload_n 0, 1) := by decide +kernel
theorem dX5_dispute_21 : decode cX5_dispute 21 = .ok (.getfield 10, 3) := by decide +kernel
theorem dX5_dispute_24 : decode cX5_dispute 24 = .ok (.invokevirtual 53, 3) := by decide +kernel
theorem dX5_dispute_27 : decode cX5_dispute 27 = .ok (.aload_n 0, 1) := by decide +kernel
theorem dX5_dispute_28 : decode cX5_dispute 28 = .ok (.getfield 10, 3) := by decide +kernel
theorem dX5_dispute_31 : decode cX5_dispute 31 = .ok (.iload_n 1, 1) := by decide +kernel
theorem dX5_dispute_32 : decode cX5_dispute 32 = .ok (.iload_n 2, 1) := by decide +kernel
theorem dX5_dispute_33 : decode cX5_dispute 33 = .ok (.invokevirtual 81, 3) := by decide +kernel
theorem dX5_dispute_36 : decode cX5_dispute 36 = .ok (.ireturn, 1) := by decide +kernel
theorem dX5_takeBack_0 : decode cX5_takeBack 0 = .ok (.aload_n 0, 1) := by decide +kernel
theorem dX5_takeBack_1 : decode cX5_takeBack 1 = .ok (.iload_n 1, 1) := by decide +kernel
theorem dX5_takeBack_2 : decode cX5_takeBack 2 = .ok (.invokevirtual 61, 3) := by decide +kernel
theorem dX5_takeBack_5 : decode cX5_takeBack 5 = .ok (.aload_n 0, 1) := by decide +kernel
theorem dX5_takeBack_6 : decode cX5_takeBack 6 = .ok (.getfield 27, 3) := by decide +kernel
theorem dX5_takeBack_9 : decode cX5_takeBack 9 = .ok (.aload_n 0, 1) := by decide +kernel
theorem dX5_takeBack_10 : decode cX5_takeBack 10 = .ok (.getfield 10, 3) := by decide +kernel
theorem dX5_takeBack_13 : decode cX5_takeBack 13 = .ok (.invokevirtual 53, 3) := by decide +kernel
theorem dX5_takeBack_16 : decode cX5_takeBack 16 = .ok (.aload_n 0, 1) := by decide +kernel
theorem dX5_takeBack_17 : decode cX5_takeBack 17 = .ok (.getfield 10, 3) := by decide +kernel
theorem dX5_takeBack_20 : decode cX5_takeBack 20 = .ok (.iload_n 1, 1) := by decide +kernel
theorem dX5_takeBack_21 : decode cX5_takeBack 21 = .ok (.invokevirtual 85, 3) := by decide +kernel
theorem dX5_takeBack_24 : decode cX5_takeBack 24 = .ok (.aload_n 0, 1) := by decide +kernel
theorem dX5_takeBack_25 : decode cX5_takeBack 25 = .ok (.getfield 10, 3) := by decide +kernel
theorem dX5_takeBack_28 : decode cX5_takeBack 28 = .ok (.getfield 88, 3) := by decide +kernel
theorem dX5_takeBack_31 : decode cX5_takeBack 31 = .ok (.ireturn, 1) := by decide +kernel
theorem dX5_price_0 : decode cX5_price 0 = .ok (.iload_n 1, 1) := by decide +kernel
theorem dX5_price_1 : decode cX5_price 1 = .ok (.bipush 12, 2) := by decide +kernel
theorem dX5_price_3 : decode cX5_price 3 = .ok (.invokestatic 92, 3) := by decide +kernel
theorem dX5_price_6 : decode cX5_price 6 = .ok (.iload_n 2, 1) := by decide +kernel
theorem dX5_price_7 : decode cX5_price 7 = .ok (.iconst 0, 1) := by decide +kernel
theorem dX5_price_8 : decode cX5_price 8 = .ok (.bipush 99, 2) := by decide +kernel
theorem dX5_price_10 : decode cX5_price 10 = .ok (.invokestatic 45, 3) := by decide +kernel
theorem dX5_price_13 : decode cX5_price 13 = .ok (.invokestatic 49, 3) := by decide +kernel
theorem dX5_price_16 : decode cX5_price 16 = .ok (.aload_n 0, 1) := by decide +kernel
theorem dX5_price_17 : decode cX5_price 17 = .ok (.getfield 27, 3) := by decide +kernel
theorem dX5_price_20 : decode cX5_price 20 = .ok (.aload_n 0, 1) := by decide +kernel
theorem dX5_price_21 : decode cX5_price 21 = .ok (.getfield 10, 3) := by decide +kernel
theorem dX5_price_24 : decode cX5_price 24 = .ok (.invokevirtual 53, 3) := by decide +kernel
theorem dX5_price_27 : decode cX5_price 27 = .ok (.aload_n 0, 1) := by decide +kernel
