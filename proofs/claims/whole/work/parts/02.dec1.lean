theorem dX1_rateUpwards_23 : decode cX1_rateUpwards 23 = .ok (.if_icmp .ge 21, 3) := by decide +kernel
theorem dX1_rateUpwards_26 : decode cX1_rateUpwards 26 = .ok (.iload_n 3, 1) := by decide +kernel
theorem dX1_rateUpwards_27 : decode cX1_rateUpwards 27 = .ok (.aload_n 0, 1) := by decide +kernel
theorem dX1_rateUpwards_28 : decode cX1_rateUpwards 28 = .ok (.getfield 17, 3) := by decide +kernel
theorem dX1_rateUpwards_31 : decode cX1_rateUpwards 31 = .ok (.iload 4, 2) := by decide +kernel
theorem dX1_rateUpwards_33 : decode cX1_rateUpwards 33 = .ok (.iaload, 1) := by decide +kernel
theorem dX1_rateUpwards_34 : decode cX1_rateUpwards 34 = .ok (.invokestatic 117, 3) := by decide +kernel
theorem dX1_rateUpwards_37 : decode cX1_rateUpwards 37 = .ok (.istore_n 3, 1) := by decide +kernel
theorem dX1_rateUpwards_38 : decode cX1_rateUpwards 38 = .ok (.iinc 4 1, 3) := by decide +kernel
theorem dX1_rateUpwards_41 : decode cX1_rateUpwards 41 = .ok (.goto (-31), 3) := by decide +kernel
theorem dX1_rateUpwards_44 : decode cX1_rateUpwards 44 = .ok (.iload_n 3, 1) := by decide +kernel
theorem dX1_rateUpwards_45 : decode cX1_rateUpwards 45 = .ok (.ireturn, 1) := by decide +kernel
theorem dX1_rateDownwards_0 : decode cX1_rateDownwards 0 = .ok (.iload_n 1, 1) := by decide +kernel
theorem dX1_rateDownwards_1 : decode cX1_rateDownwards 1 = .ok (.invokestatic 114, 3) := by decide +kernel
theorem dX1_rateDownwards_4 : decode cX1_rateDownwards 4 = .ok (.istore_n 2, 1) := by decide +kernel
theorem dX1_rateDownwards_5 : decode cX1_rateDownwards 5 = .ok (.iload_n 2, 1) := by decide +kernel
theorem dX1_rateDownwards_6 : decode cX1_rateDownwards 6 = .ok (.istore_n 3, 1) := by decide +kernel
theorem dX1_rateDownwards_7 : decode cX1_rateDownwards 7 = .ok (.iload_n 2, 1) := by decide +kernel
theorem dX1_rateDownwards_8 : decode cX1_rateDownwards 8 = .ok (.iconst 1, 1) := by decide +kernel
theorem dX1_rateDownwards_9 : decode cX1_rateDownwards 9 = .ok (.isub, 1) := by decide +kernel
theorem dX1_rateDownwards_10 : decode cX1_rateDownwards 10 = .ok (.istore 4, 2) := by decide +kernel
theorem dX1_rateDownwards_12 : decode cX1_rateDownwards 12 = .ok (.iload 4, 2) := by decide +kernel
theorem dX1_rateDownwards_14 : decode cX1_rateDownwards 14 = .ok (.ifCond .lt 28, 3) := by decide +kernel
theorem dX1_rateDownwards_17 : decode cX1_rateDownwards 17 = .ok (.aload_n 0, 1) := by decide +kernel
theorem dX1_rateDownwards_18 : decode cX1_rateDownwards 18 = .ok (.getfield 17, 3) := by decide +kernel
theorem dX1_rateDownwards_21 : decode cX1_rateDownwards 21 = .ok (.iload 4, 2) := by decide +kernel
theorem dX1_rateDownwards_23 : decode cX1_rateDownwards 23 = .ok (.iaload, 1) := by decide +kernel
theorem dX1_rateDownwards_24 : decode cX1_rateDownwards 24 = .ok (.aload_n 0, 1) := by decide +kernel
theorem dX1_rateDownwards_25 : decode cX1_rateDownwards 25 = .ok (.getfield 17, 3) := by decide +kernel
theorem dX1_rateDownwards_28 : decode cX1_rateDownwards 28 = .ok (.iload_n 3, 1) := by decide +kernel
theorem dX1_rateDownwards_29 : decode cX1_rateDownwards 29 = .ok (.iaload, 1) := by decide +kernel
theorem dX1_rateDownwards_30 : decode cX1_rateDownwards 30 = .ok (.if_icmp .le 6, 3) := by decide +kernel
theorem dX1_rateDownwards_33 : decode cX1_rateDownwards 33 = .ok (.iload 4, 2) := by decide +kernel
theorem dX1_rateDownwards_35 : decode cX1_rateDownwards 35 = .ok (.istore_n 3, 1) := by decide +kernel
theorem dX1_rateDownwards_36 : decode cX1_rateDownwards 36 = .ok (.iinc 4 (-1), 3) := by decide +kernel
theorem dX1_rateDownwards_39 : decode cX1_rateDownwards 39 = .ok (.goto (-27), 3) := by decide +kernel
theorem dX1_rateDownwards_42 : decode cX1_rateDownwards 42 = .ok (.aload_n 0, 1) := by decide +kernel
theorem dX1_rateDownwards_43 : decode cX1_rateDownwards 43 = .ok (.getfield 17, 3) := by decide +kernel
theorem dX1_rateDownwards_46 : decode cX1_rateDownwards 46 = .ok (.iload_n 3, 1) := by decide +kernel
theorem dX1_rateDownwards_47 : decode cX1_rateDownwards 47 = .ok (.iaload, 1) := by decide +kernel
theorem dX1_rateDownwards_48 : decode cX1_rateDownwards 48 = .ok (.ireturn, 1) := by decide +kernel
theorem dX1_leastWay_0 : decode cX1_leastWay 0 = .ok (.iconst (-1), 1) := by decide +kernel
theorem dX1_leastWay_1 : decode cX1_leastWay 1 = .ok (.istore_n 2, 1) := by decide +kernel
theorem dX1_leastWay_2 : decode cX1_leastWay 2 = .ok (.iconst 0, 1) := by decide +kernel
theorem dX1_leastWay_3 : decode cX1_leastWay 3 = .ok (.istore_n 3, 1) := by decide +kernel
theorem dX1_leastWay_4 : decode cX1_leastWay 4 = .ok (.iconst 0, 1) := by decide +kernel
theorem dX1_leastWay_5 : decode cX1_leastWay 5 = .ok (.istore 4, 2) := by decide +kernel
theorem dX1_leastWay_7 : decode cX1_leastWay 7 = .ok (.iload 4, 2) := by decide +kernel
theorem dX1_leastWay_9 : decode cX1_leastWay 9 = .ok (.iconst 2, 1) := by decide +kernel
theorem dX1_leastWay_10 : decode cX1_leastWay 10 = .ok (.if_icmp .gt 50, 3) := by decide +kernel
theorem dX1_leastWay_13 : decode cX1_leastWay 13 = .ok (.aload_n 0, 1) := by decide +kernel
theorem dX1_leastWay_14 : decode cX1_leastWay 14 = .ok (.aload_n 1, 1) := by decide +kernel
theorem dX1_leastWay_15 : decode cX1_leastWay 15 = .ok (.iload 4, 2) := by decide +kernel
theorem dX1_leastWay_17 : decode cX1_leastWay 17 = .ok (.invokevirtual 67, 3) := by decide +kernel
theorem dX1_leastWay_20 : decode cX1_leastWay 20 = .ok (.ifCond .ne 34, 3) := by decide +kernel
theorem dX1_leastWay_23 : decode cX1_leastWay 23 = .ok (.aload_n 0, 1) := by decide +kernel
theorem dX1_leastWay_24 : decode cX1_leastWay 24 = .ok (.aload_n 1, 1) := by decide +kernel
theorem dX1_leastWay_25 : decode cX1_leastWay 25 = .ok (.aload_n 0, 1) := by decide +kernel
theorem dX1_leastWay_26 : decode cX1_leastWay 26 = .ok (.aload_n 1, 1) := by decide +kernel
theorem dX1_leastWay_27 : decode cX1_leastWay 27 = .ok (.iload 4, 2) := by decide +kernel
theorem dX1_leastWay_29 : decode cX1_leastWay 29 = .ok (.invokevirtual 71, 3) := by decide +kernel
theorem dX1_leastWay_32 : decode cX1_leastWay 32 = .ok (.invokevirtual 84, 3) := by decide +kernel
theorem dX1_leastWay_35 : decode cX1_leastWay 35 = .ok (.istore 5, 2) := by decide +kernel
theorem dX1_leastWay_37 : decode cX1_leastWay 37 = .ok (.iload_n 2, 1) := by decide +kernel
theorem dX1_leastWay_38 : decode cX1_leastWay 38 = .ok (.iconst (-1), 1) := by decide +kernel
theorem dX1_leastWay_39 : decode cX1_leastWay 39 = .ok (.if_icmp .eq 9, 3) := by decide +kernel
theorem dX1_leastWay_42 : decode cX1_leastWay 42 = .ok (.iload 5, 2) := by decide +kernel
theorem dX1_leastWay_44 : decode cX1_leastWay 44 = .ok (.iload_n 3, 1) := by decide +kernel
theorem dX1_leastWay_45 : decode cX1_leastWay 45 = .ok (.if_icmp .ge 9, 3) := by decide +kernel
theorem dX1_leastWay_48 : decode cX1_leastWay 48 = .ok (.iload 4, 2) := by decide +kernel
theorem dX1_leastWay_50 : decode cX1_leastWay 50 = .ok (.istore_n 2, 1) := by decide +kernel
theorem dX1_leastWay_51 : decode cX1_leastWay 51 = .ok (.iload 5, 2) := by decide +kernel
theorem dX1_leastWay_53 : decode cX1_leastWay 53 = .ok (.istore_n 3, 1) := by decide +kernel
theorem dX1_leastWay_54 : decode cX1_leastWay 54 = .ok (.iinc 4 1, 3) := by decide +kernel
theorem dX1_leastWay_57 : decode cX1_leastWay 57 = .ok (.goto (-50), 3) := by decide +kernel
theorem dX1_leastWay_60 : decode cX1_leastWay 60 = .ok (.iload_n 2, 1) := by decide +kernel
theorem dX1_leastWay_61 : decode cX1_leastWay 61 = .ok (.ireturn, 1) := by decide +kernel
theorem dX1_dearestTaken_0 : decode cX1_dearestTaken 0 = .ok (.iconst (-1), 1) := by decide +kernel
theorem dX1_dearestTaken_1 : decode cX1_dearestTaken 1 = .ok (.istore_n 1, 1) := by decide +kernel
theorem dX1_dearestTaken_2 : decode cX1_dearestTaken 2 = .ok (.iconst 0, 1) := by decide +kernel
theorem dX1_dearestTaken_3 : decode cX1_dearestTaken 3 = .ok (.istore_n 2, 1) := by decide +kernel
theorem dX1_dearestTaken_4 : decode cX1_dearestTaken 4 = .ok (.iconst 0, 1) := by decide +kernel
theorem dX1_dearestTaken_5 : decode cX1_dearestTaken 5 = .ok (.istore_n 3, 1) := by decide +kernel
theorem dX1_dearestTaken_6 : decode cX1_dearestTaken 6 = .ok (.iload_n 3, 1) := by decide +kernel
theorem dX1_dearestTaken_7 : decode cX1_dearestTaken 7 = .ok (.aload_n 0, 1) := by decide +kernel
theorem dX1_dearestTaken_8 : decode cX1_dearestTaken 8 = .ok (.getfield 31, 3) := by decide +kernel
theorem dX1_dearestTaken_11 : decode cX1_dearestTaken 11 = .ok (.if_icmp .ge 70, 3) := by decide +kernel
theorem dX1_dearestTaken_14 : decode cX1_dearestTaken 14 = .ok (.iload_n 3, 1) := by decide +kernel
theorem dX1_dearestTaken_15 : decode cX1_dearestTaken 15 = .ok (.aload_n 0, 1) := by decide +kernel
theorem dX1_dearestTaken_16 : decode cX1_dearestTaken 16 = .ok (.getfield 11, 3) := by decide +kernel
theorem dX1_dearestTaken_19 : decode cX1_dearestTaken 19 = .ok (.arraylength, 1) := by decide +kernel
theorem dX1_dearestTaken_20 : decode cX1_dearestTaken 20 = .ok (.if_icmp .ge 61, 3) := by decide +kernel
theorem dX1_dearestTaken_23 : decode cX1_dearestTaken 23 = .ok (.aload_n 0, 1) := by decide +kernel
theorem dX1_dearestTaken_24 : decode cX1_dearestTaken 24 = .ok (.getfield 11, 3) := by decide +kernel
theorem dX1_dearestTaken_27 : decode cX1_dearestTaken 27 = .ok (.iload_n 3, 1) := by decide +kernel
theorem dX1_dearestTaken_28 : decode cX1_dearestTaken 28 = .ok (.aaload, 1) := by decide +kernel
theorem dX1_dearestTaken_29 : decode cX1_dearestTaken 29 = .ok (.astore 4, 2) := by decide +kernel
theorem dX1_dearestTaken_31 : decode cX1_dearestTaken 31 = .ok (.aload_n 0, 1) := by decide +kernel
theorem dX1_dearestTaken_32 : decode cX1_dearestTaken 32 = .ok (.aload 4, 2) := by decide +kernel
theorem dX1_dearestTaken_34 : decode cX1_dearestTaken 34 = .ok (.aload_n 0, 1) := by decide +kernel
theorem dX1_dearestTaken_35 : decode cX1_dearestTaken 35 = .ok (.aload 4, 2) := by decide +kernel
theorem dX1_dearestTaken_37 : decode cX1_dearestTaken 37 = .ok (.aload 4, 2) := by decide +kernel
theorem dX1_dearestTaken_39 : decode cX1_dearestTaken 39 = .ok (.getfield 64, 3) := by decide +kernel
theorem dX1_dearestTaken_42 : decode cX1_dearestTaken 42 = .ok (.invokevirtual 71, 3) := by decide +kernel
theorem dX1_dearestTaken_45 : decode cX1_dearestTaken 45 = .ok (.invokevirtual 84, 3) := by decide +kernel
theorem dX1_dearestTaken_48 : decode cX1_dearestTaken 48 = .ok (.istore 5, 2) := by decide +kernel
theorem dX1_dearestTaken_50 : decode cX1_dearestTaken 50 = .ok (.aload_n 0, 1) := by decide +kernel
theorem dX1_dearestTaken_51 : decode cX1_dearestTaken 51 = .ok (.aload 4, 2) := by decide +kernel
theorem dX1_dearestTaken_53 : decode cX1_dearestTaken 53 = .ok (.invokevirtual 120, 3) := by decide +kernel
theorem dX1_dearestTaken_56 : decode cX1_dearestTaken 56 = .ok (.ifCond .eq 19, 3) := by decide +kernel
theorem dX1_dearestTaken_59 : decode cX1_dearestTaken 59 = .ok (.iload_n 1, 1) := by decide +kernel
theorem dX1_dearestTaken_60 : decode cX1_dearestTaken 60 = .ok (.iconst (-1), 1) := by decide +kernel
theorem dX1_dearestTaken_61 : decode cX1_dearestTaken 61 = .ok (.if_icmp .eq 9, 3) := by decide +kernel
theorem dX1_dearestTaken_64 : decode cX1_dearestTaken 64 = .ok (.iload 5, 2) := by decide +kernel
theorem dX1_dearestTaken_66 : decode cX1_dearestTaken 66 = .ok (.iload_n 2, 1) := by decide +kernel
theorem dX1_dearestTaken_67 : decode cX1_dearestTaken 67 = .ok (.if_icmp .le 8, 3) := by decide +kernel
theorem dX1_dearestTaken_70 : decode cX1_dearestTaken 70 = .ok (.iload_n 3, 1) := by decide +kernel
theorem dX1_dearestTaken_71 : decode cX1_dearestTaken 71 = .ok (.istore_n 1, 1) := by decide +kernel
theorem dX1_dearestTaken_72 : decode cX1_dearestTaken 72 = .ok (.iload 5, 2) := by decide +kernel
theorem dX1_dearestTaken_74 : decode cX1_dearestTaken 74 = .ok (.istore_n 2, 1) := by decide +kernel
theorem dX1_dearestTaken_75 : decode cX1_dearestTaken 75 = .ok (.iinc 3 1, 3) := by decide +kernel
theorem dX1_dearestTaken_78 : decode cX1_dearestTaken 78 = .ok (.goto (-72), 3) := by decide +kernel
theorem dX1_dearestTaken_81 : decode cX1_dearestTaken 81 = .ok (.iload_n 1, 1) := by decide +kernel
theorem dX1_dearestTaken_82 : decode cX1_dearestTaken 82 = .ok (.ireturn, 1) := by decide +kernel
theorem dX1_numberOf_0 : decode cX1_numberOf 0 = .ok (.iload_n 2, 1) := by decide +kernel
theorem dX1_numberOf_1 : decode cX1_numberOf 1 = .ok (.tableswitch 120 0 9 #[55, 60, 65, 70, 75, 80, 85, 90, 95, 105], 55) := by decide +kernel
theorem dX1_numberOf_56 : decode cX1_numberOf 56 = .ok (.aload_n 1, 1) := by decide +kernel
theorem dX1_numberOf_57 : decode cX1_numberOf 57 = .ok (.getfield 123, 3) := by decide +kernel
theorem dX1_numberOf_60 : decode cX1_numberOf 60 = .ok (.ireturn, 1) := by decide +kernel
theorem dX1_numberOf_61 : decode cX1_numberOf 61 = .ok (.aload_n 1, 1) := by decide +kernel
theorem dX1_numberOf_62 : decode cX1_numberOf 62 = .ok (.getfield 126, 3) := by decide +kernel
theorem dX1_numberOf_65 : decode cX1_numberOf 65 = .ok (.ireturn, 1) := by decide +kernel
theorem dX1_numberOf_66 : decode cX1_numberOf 66 = .ok (.aload_n 1, 1) := by decide +kernel
theorem dX1_numberOf_67 : decode cX1_numberOf 67 = .ok (.getfield 129, 3) := by decide +kernel
theorem dX1_numberOf_70 : decode cX1_numberOf 70 = .ok (.ireturn, 1) := by decide +kernel
theorem dX1_numberOf_71 : decode cX1_numberOf 71 = .ok (.aload_n 1, 1) := by decide +kernel
theorem dX1_numberOf_72 : decode cX1_numberOf 72 = .ok (.getfield 98, 3) := by decide +kernel
theorem dX1_numberOf_75 : decode cX1_numberOf 75 = .ok (.ireturn, 1) := by decide +kernel
theorem dX1_numberOf_76 : decode cX1_numberOf 76 = .ok (.aload_n 1, 1) := by decide +kernel
theorem dX1_numberOf_77 : decode cX1_numberOf 77 = .ok (.getfield 107, 3) := by decide +kernel
theorem dX1_numberOf_80 : decode cX1_numberOf 80 = .ok (.ireturn, 1) := by decide +kernel
theorem dX1_numberOf_81 : decode cX1_numberOf 81 = .ok (.aload_n 1, 1) := by decide +kernel
theorem dX1_numberOf_82 : decode cX1_numberOf 82 = .ok (.getfield 101, 3) := by decide +kernel
theorem dX1_numberOf_85 : decode cX1_numberOf 85 = .ok (.ireturn, 1) := by decide +kernel
theorem dX1_numberOf_86 : decode cX1_numberOf 86 = .ok (.aload_n 1, 1) := by decide +kernel
theorem dX1_numberOf_87 : decode cX1_numberOf 87 = .ok (.getfield 64, 3) := by decide +kernel
theorem dX1_numberOf_90 : decode cX1_numberOf 90 = .ok (.ireturn, 1) := by decide +kernel
theorem dX1_numberOf_91 : decode cX1_numberOf 91 = .ok (.aload_n 1, 1) := by decide +kernel
theorem dX1_numberOf_92 : decode cX1_numberOf 92 = .ok (.invokevirtual 94, 3) := by decide +kernel
theorem dX1_numberOf_95 : decode cX1_numberOf 95 = .ok (.ireturn, 1) := by decide +kernel
theorem dX1_numberOf_96 : decode cX1_numberOf 96 = .ok (.aload_n 0, 1) := by decide +kernel
theorem dX1_numberOf_97 : decode cX1_numberOf 97 = .ok (.aload_n 1, 1) := by decide +kernel
theorem dX1_numberOf_98 : decode cX1_numberOf 98 = .ok (.aload_n 1, 1) := by decide +kernel
theorem dX1_numberOf_99 : decode cX1_numberOf 99 = .ok (.getfield 64, 3) := by decide +kernel
theorem dX1_numberOf_102 : decode cX1_numberOf 102 = .ok (.invokevirtual 71, 3) := by decide +kernel
theorem dX1_numberOf_105 : decode cX1_numberOf 105 = .ok (.ireturn, 1) := by decide +kernel
theorem dX1_numberOf_106 : decode cX1_numberOf 106 = .ok (.aload_n 0, 1) := by decide +kernel
theorem dX1_numberOf_107 : decode cX1_numberOf 107 = .ok (.aload_n 1, 1) := by decide +kernel
theorem dX1_numberOf_108 : decode cX1_numberOf 108 = .ok (.aload_n 0, 1) := by decide +kernel
theorem dX1_numberOf_109 : decode cX1_numberOf 109 = .ok (.aload_n 1, 1) := by decide +kernel
theorem dX1_numberOf_110 : decode cX1_numberOf 110 = .ok (.aload_n 1, 1) := by decide +kernel
theorem dX1_numberOf_111 : decode cX1_numberOf 111 = .ok (.getfield 64, 3) := by decide +kernel
theorem dX1_numberOf_114 : decode cX1_numberOf 114 = .ok (.invokevirtual 71, 3) := by decide +kernel
theorem dX1_numberOf_117 : decode cX1_numberOf 117 = .ok (.invokevirtual 84, 3) := by decide +kernel
theorem dX1_numberOf_120 : decode cX1_numberOf 120 = .ok (.ireturn, 1) := by decide +kernel
theorem dX1_numberOf_121 : decode cX1_numberOf 121 = .ok (.aload_n 0, 1) := by decide +kernel
theorem dX1_numberOf_122 : decode cX1_numberOf 122 = .ok (.aload_n 1, 1) := by decide +kernel
theorem dX1_numberOf_123 : decode cX1_numberOf 123 = .ok (.aload_n 1, 1) := by decide +kernel
theorem dX1_numberOf_124 : decode cX1_numberOf 124 = .ok (.getfield 64, 3) := by decide +kernel
theorem dX1_numberOf_127 : decode cX1_numberOf 127 = .ok (.invokevirtual 67, 3) := by decide +kernel
theorem dX1_numberOf_130 : decode cX1_numberOf 130 = .ok (.ireturn, 1) := by decide +kernel
theorem dX1_tally_0 : decode cX1_tally 0 = .ok (.iload_n 1, 1) := by decide +kernel
theorem dX1_tally_1 : decode cX1_tally 1 = .ok (.tableswitch 87 0 7 #[47, 52, 57, 62, 67, 72, 77, 82], 47) := by decide +kernel
theorem dX1_tally_48 : decode cX1_tally 48 = .ok (.aload_n 0, 1) := by decide +kernel
theorem dX1_tally_49 : decode cX1_tally 49 = .ok (.getfield 31, 3) := by decide +kernel
theorem dX1_tally_52 : decode cX1_tally 52 = .ok (.ireturn, 1) := by decide +kernel
theorem dX1_tally_53 : decode cX1_tally 53 = .ok (.aload_n 0, 1) := by decide +kernel
theorem dX1_tally_54 : decode cX1_tally 54 = .ok (.invokevirtual 132, 3) := by decide +kernel
theorem dX1_tally_57 : decode cX1_tally 57 = .ok (.ireturn, 1) := by decide +kernel
theorem dX1_tally_58 : decode cX1_tally 58 = .ok (.aload_n 0, 1) := by decide +kernel
theorem dX1_tally_59 : decode cX1_tally 59 = .ok (.invokevirtual 135, 3) := by decide +kernel
theorem dX1_tally_62 : decode cX1_tally 62 = .ok (.ireturn, 1) := by decide +kernel
theorem dX1_tally_63 : decode cX1_tally 63 = .ok (.aload_n 0, 1) := by decide +kernel
theorem dX1_tally_64 : decode cX1_tally 64 = .ok (.getfield 45, 3) := by decide +kernel
theorem dX1_tally_67 : decode cX1_tally 67 = .ok (.ireturn, 1) := by decide +kernel
theorem dX1_tally_68 : decode cX1_tally 68 = .ok (.aload_n 0, 1) := by decide +kernel
theorem dX1_tally_69 : decode cX1_tally 69 = .ok (.getfield 48, 3) := by decide +kernel
theorem dX1_tally_72 : decode cX1_tally 72 = .ok (.ireturn, 1) := by decide +kernel
theorem dX1_tally_73 : decode cX1_tally 73 = .ok (.aload_n 0, 1) := by decide +kernel
theorem dX1_tally_74 : decode cX1_tally 74 = .ok (.getfield 51, 3) := by decide +kernel
theorem dX1_tally_77 : decode cX1_tally 77 = .ok (.ireturn, 1) := by decide +kernel
theorem dX1_tally_78 : decode cX1_tally 78 = .ok (.aload_n 0, 1) := by decide +kernel
theorem dX1_tally_79 : decode cX1_tally 79 = .ok (.getfield 54, 3) := by decide +kernel
theorem dX1_tally_82 : decode cX1_tally 82 = .ok (.ireturn, 1) := by decide +kernel
theorem dX1_tally_83 : decode cX1_tally 83 = .ok (.aload_n 0, 1) := by decide +kernel
theorem dX1_tally_84 : decode cX1_tally 84 = .ok (.getfield 57, 3) := by decide +kernel
theorem dX1_tally_87 : decode cX1_tally 87 = .ok (.ireturn, 1) := by decide +kernel
theorem dX1_tally_88 : decode cX1_tally 88 = .ok (.aload_n 0, 1) := by decide +kernel
theorem dX1_tally_89 : decode cX1_tally 89 = .ok (.invokevirtual 138, 3) := by decide +kernel
theorem dX1_tally_92 : decode cX1_tally 92 = .ok (.ireturn, 1) := by decide +kernel
theorem dX1_bandOf_0 : decode cX1_bandOf 0 = .ok (.iload_n 0, 1) := by decide +kernel
theorem dX1_bandOf_1 : decode cX1_bandOf 1 = .ok (.iconst 1, 1) := by decide +kernel
theorem dX1_bandOf_2 : decode cX1_bandOf 2 = .ok (.isub, 1) := by decide +kernel
theorem dX1_bandOf_3 : decode cX1_bandOf 3 = .ok (.bipush 50, 2) := by decide +kernel
theorem dX1_bandOf_5 : decode cX1_bandOf 5 = .ok (.idiv, 1) := by decide +kernel
theorem dX1_bandOf_6 : decode cX1_bandOf 6 = .ok (.istore_n 1, 1) := by decide +kernel
theorem dX1_bandOf_7 : decode cX1_bandOf 7 = .ok (.iload_n 1, 1) := by decide +kernel
theorem dX1_bandOf_8 : decode cX1_bandOf 8 = .ok (.ifCond .ge 5, 3) := by decide +kernel
theorem dX1_bandOf_11 : decode cX1_bandOf 11 = .ok (.iconst 0, 1) := by decide +kernel
theorem dX1_bandOf_12 : decode cX1_bandOf 12 = .ok (.ireturn, 1) := by decide +kernel
theorem dX1_bandOf_13 : decode cX1_bandOf 13 = .ok (.iload_n 1, 1) := by decide +kernel
theorem dX1_bandOf_14 : decode cX1_bandOf 14 = .ok (.bipush 12, 2) := by decide +kernel
theorem dX1_bandOf_16 : decode cX1_bandOf 16 = .ok (.if_icmp .ge 7, 3) := by decide +kernel
theorem dX1_bandOf_19 : decode cX1_bandOf 19 = .ok (.iload_n 1, 1) := by decide +kernel
theorem dX1_bandOf_20 : decode cX1_bandOf 20 = .ok (.goto 5, 3) := by decide +kernel
theorem dX1_bandOf_23 : decode cX1_bandOf 23 = .ok (.bipush 11, 2) := by decide +kernel
theorem dX1_bandOf_25 : decode cX1_bandOf 25 = .ok (.ireturn, 1) := by decide +kernel
theorem dX1_takenParcels_0 : decode cX1_takenParcels 0 = .ok (.iconst 0, 1) := by decide +kernel
theorem dX1_takenParcels_1 : decode cX1_takenParcels 1 = .ok (.istore_n 1, 1) := by decide +kernel
theorem dX1_takenParcels_2 : decode cX1_takenParcels 2 = .ok (.iconst 0, 1) := by decide +kernel
theorem dX1_takenParcels_3 : decode cX1_takenParcels 3 = .ok (.istore_n 2, 1) := by decide +kernel
theorem dX1_takenParcels_4 : decode cX1_takenParcels 4 = .ok (.iload_n 2, 1) := by decide +kernel
theorem dX1_takenParcels_5 : decode cX1_takenParcels 5 = .ok (.aload_n 0, 1) := by decide +kernel
theorem dX1_takenParcels_6 : decode cX1_takenParcels 6 = .ok (.getfield 31, 3) := by decide +kernel
theorem dX1_takenParcels_9 : decode cX1_takenParcels 9 = .ok (.if_icmp .ge 34, 3) := by decide +kernel
theorem dX1_takenParcels_12 : decode cX1_takenParcels 12 = .ok (.iload_n 2, 1) := by decide +kernel
theorem dX1_takenParcels_13 : decode cX1_takenParcels 13 = .ok (.aload_n 0, 1) := by decide +kernel
theorem dX1_takenParcels_14 : decode cX1_takenParcels 14 = .ok (.getfield 11, 3) := by decide +kernel
theorem dX1_takenParcels_17 : decode cX1_takenParcels 17 = .ok (.arraylength, 1) := by decide +kernel
theorem dX1_takenParcels_18 : decode cX1_takenParcels 18 = .ok (.if_icmp .ge 25, 3) := by decide +kernel
theorem dX1_takenParcels_21 : decode cX1_takenParcels 21 = .ok (.aload_n 0, 1) := by decide +kernel
theorem dX1_takenParcels_22 : decode cX1_takenParcels 22 = .ok (.aload_n 0, 1) := by decide +kernel
theorem dX1_takenParcels_23 : decode cX1_takenParcels 23 = .ok (.getfield 11, 3) := by decide +kernel
theorem dX1_takenParcels_26 : decode cX1_takenParcels 26 = .ok (.iload_n 2, 1) := by decide +kernel
theorem dX1_takenParcels_27 : decode cX1_takenParcels 27 = .ok (.aaload, 1) := by decide +kernel
theorem dX1_takenParcels_28 : decode cX1_takenParcels 28 = .ok (.invokevirtual 120, 3) := by decide +kernel
theorem dX1_takenParcels_31 : decode cX1_takenParcels 31 = .ok (.ifCond .eq 6, 3) := by decide +kernel
theorem dX1_takenParcels_34 : decode cX1_takenParcels 34 = .ok (.iinc 1 1, 3) := by decide +kernel
theorem dX1_takenParcels_37 : decode cX1_takenParcels 37 = .ok (.iinc 2 1, 3) := by decide +kernel
theorem dX1_takenParcels_40 : decode cX1_takenParcels 40 = .ok (.goto (-36), 3) := by decide +kernel
theorem dX1_takenParcels_43 : decode cX1_takenParcels 43 = .ok (.iload_n 1, 1) := by decide +kernel
theorem dX1_takenParcels_44 : decode cX1_takenParcels 44 = .ok (.ireturn, 1) := by decide +kernel
theorem dX1_oddParcels_0 : decode cX1_oddParcels 0 = .ok (.iconst 0, 1) := by decide +kernel
theorem dX1_oddParcels_1 : decode cX1_oddParcels 1 = .ok (.istore_n 1, 1) := by decide +kernel
theorem dX1_oddParcels_2 : decode cX1_oddParcels 2 = .ok (.iconst 0, 1) := by decide +kernel
theorem dX1_oddParcels_3 : decode cX1_oddParcels 3 = .ok (.istore_n 2, 1) := by decide +kernel
theorem dX1_oddParcels_4 : decode cX1_oddParcels 4 = .ok (.iload_n 2, 1) := by decide +kernel
theorem dX1_oddParcels_5 : decode cX1_oddParcels 5 = .ok (.aload_n 0, 1) := by decide +kernel
theorem dX1_oddParcels_6 : decode cX1_oddParcels 6 = .ok (.getfield 31, 3) := by decide +kernel
theorem dX1_oddParcels_9 : decode cX1_oddParcels 9 = .ok (.if_icmp .ge 34, 3) := by decide +kernel
theorem dX1_oddParcels_12 : decode cX1_oddParcels 12 = .ok (.iload_n 2, 1) := by decide +kernel
theorem dX1_oddParcels_13 : decode cX1_oddParcels 13 = .ok (.aload_n 0, 1) := by decide +kernel
theorem dX1_oddParcels_14 : decode cX1_oddParcels 14 = .ok (.getfield 11, 3) := by decide +kernel
theorem dX1_oddParcels_17 : decode cX1_oddParcels 17 = .ok (.arraylength, 1) := by decide +kernel
theorem dX1_oddParcels_18 : decode cX1_oddParcels 18 = .ok (.if_icmp .ge 25, 3) := by decide +kernel
theorem dX1_oddParcels_21 : decode cX1_oddParcels 21 = .ok (.aload_n 0, 1) := by decide +kernel
theorem dX1_oddParcels_22 : decode cX1_oddParcels 22 = .ok (.aload_n 0, 1) := by decide +kernel
theorem dX1_oddParcels_23 : decode cX1_oddParcels 23 = .ok (.getfield 11, 3) := by decide +kernel
theorem dX1_oddParcels_26 : decode cX1_oddParcels 26 = .ok (.iload_n 2, 1) := by decide +kernel
theorem dX1_oddParcels_27 : decode cX1_oddParcels 27 = .ok (.aaload, 1) := by decide +kernel
theorem dX1_oddParcels_28 : decode cX1_oddParcels 28 = .ok (.invokevirtual 110, 3) := by decide +kernel
theorem dX1_oddParcels_31 : decode cX1_oddParcels 31 = .ok (.ifCond .eq 6, 3) := by decide +kernel
theorem dX1_oddParcels_34 : decode cX1_oddParcels 34 = .ok (.iinc 1 1, 3) := by decide +kernel
theorem dX1_oddParcels_37 : decode cX1_oddParcels 37 = .ok (.iinc 2 1, 3) := by decide +kernel
theorem dX1_oddParcels_40 : decode cX1_oddParcels 40 = .ok (.goto (-36), 3) := by decide +kernel
theorem dX1_oddParcels_43 : decode cX1_oddParcels 43 = .ok (.iload_n 1, 1) := by decide +kernel
theorem dX1_oddParcels_44 : decode cX1_oddParcels 44 = .ok (.ireturn, 1) := by decide +kernel
theorem dX1_undercutBands_0 : decode cX1_undercutBands 0 = .ok (.iconst 0, 1) := by decide +kernel
theorem dX1_undercutBands_1 : decode cX1_undercutBands 1 = .ok (.istore_n 1, 1) := by decide +kernel
theorem dX1_undercutBands_2 : decode cX1_undercutBands 2 = .ok (.iconst 0, 1) := by decide +kernel
theorem dX1_undercutBands_3 : decode cX1_undercutBands 3 = .ok (.istore_n 2, 1) := by decide +kernel
theorem dX1_undercutBands_4 : decode cX1_undercutBands 4 = .ok (.iconst 0, 1) := by decide +kernel
theorem dX1_undercutBands_5 : decode cX1_undercutBands 5 = .ok (.istore_n 3, 1) := by decide +kernel
theorem dX1_undercutBands_6 : decode cX1_undercutBands 6 = .ok (.iload_n 3, 1) := by decide +kernel
theorem dX1_undercutBands_7 : decode cX1_undercutBands 7 = .ok (.aload_n 0, 1) := by decide +kernel
theorem dX1_undercutBands_8 : decode cX1_undercutBands 8 = .ok (.getfield 17, 3) := by decide +kernel
theorem dX1_undercutBands_11 : decode cX1_undercutBands 11 = .ok (.arraylength, 1) := by decide +kernel
theorem dX1_undercutBands_12 : decode cX1_undercutBands 12 = .ok (.if_icmp .ge 33, 3) := by decide +kernel
theorem dX1_undercutBands_15 : decode cX1_undercutBands 15 = .ok (.aload_n 0, 1) := by decide +kernel
theorem dX1_undercutBands_16 : decode cX1_undercutBands 16 = .ok (.getfield 17, 3) := by decide +kernel
theorem dX1_undercutBands_19 : decode cX1_undercutBands 19 = .ok (.iload_n 3, 1) := by decide +kernel
theorem dX1_undercutBands_20 : decode cX1_undercutBands 20 = .ok (.iaload, 1) := by decide +kernel
theorem dX1_undercutBands_21 : decode cX1_undercutBands 21 = .ok (.iload_n 2, 1) := by decide +kernel
theorem dX1_undercutBands_22 : decode cX1_undercutBands 22 = .ok (.if_icmp .ge 6, 3) := by decide +kernel
theorem dX1_undercutBands_25 : decode cX1_undercutBands 25 = .ok (.iinc 1 1, 3) := by decide +kernel
theorem dX1_undercutBands_28 : decode cX1_undercutBands 28 = .ok (.iload_n 2, 1) := by decide +kernel
theorem dX1_undercutBands_29 : decode cX1_undercutBands 29 = .ok (.aload_n 0, 1) := by decide +kernel
theorem dX1_undercutBands_30 : decode cX1_undercutBands 30 = .ok (.getfield 17, 3) := by decide +kernel
theorem dX1_undercutBands_33 : decode cX1_undercutBands 33 = .ok (.iload_n 3, 1) := by decide +kernel
theorem dX1_undercutBands_34 : decode cX1_undercutBands 34 = .ok (.iaload, 1) := by decide +kernel
theorem dX1_undercutBands_35 : decode cX1_undercutBands 35 = .ok (.invokestatic 117, 3) := by decide +kernel
theorem dX1_undercutBands_38 : decode cX1_undercutBands 38 = .ok (.istore_n 2, 1) := by decide +kernel
theorem dX1_undercutBands_39 : decode cX1_undercutBands 39 = .ok (.iinc 3 1, 3) := by decide +kernel
theorem dX1_undercutBands_42 : decode cX1_undercutBands 42 = .ok (.goto (-36), 3) := by decide +kernel
theorem dX1_undercutBands_45 : decode cX1_undercutBands 45 = .ok (.iload_n 1, 1) := by decide +kernel
theorem dX1_undercutBands_46 : decode cX1_undercutBands 46 = .ok (.ireturn, 1) := by decide +kernel
theorem dX2_init_0 : decode cX2_init 0 = .ok (.aload_n 0, 1) := by decide +kernel
theorem dX2_init_1 : decode cX2_init 1 = .ok (.invokespecial 3, 3) := by decide +kernel
theorem dX2_init_4 : decode cX2_init 4 = .ok (.return_, 1) := by decide +kernel
theorem dX2_fill_0 : decode cX2_fill 0 = .ok (.aload_n 0, 1) := by decide +kernel
theorem dX2_fill_1 : decode cX2_fill 1 = .ok (.iload_n 1, 1) := by decide +kernel
theorem dX2_fill_2 : decode cX2_fill 2 = .ok (.iload_n 2, 1) := by decide +kernel
theorem dX2_fill_3 : decode cX2_fill 3 = .ok (.iload_n 3, 1) := by decide +kernel
theorem dX2_fill_4 : decode cX2_fill 4 = .ok (.invokevirtual 9, 3) := by decide +kernel
theorem dX2_fill_7 : decode cX2_fill 7 = .ok (.aload_n 0, 1) := by decide +kernel
theorem dX2_fill_8 : decode cX2_fill 8 = .ok (.iload 4, 2) := by decide +kernel
theorem dX2_fill_10 : decode cX2_fill 10 = .ok (.putfield 15, 3) := by decide +kernel
theorem dX2_fill_13 : decode cX2_fill 13 = .ok (.aload_n 0, 1) := by decide +kernel
theorem dX2_fill_14 : decode cX2_fill 14 = .ok (.iload 5, 2) := by decide +kernel
theorem dX2_fill_16 : decode cX2_fill 16 = .ok (.putfield 19, 3) := by decide +kernel
theorem dX2_fill_19 : decode cX2_fill 19 = .ok (.aload_n 0, 1) := by decide +kernel
theorem dX2_fill_20 : decode cX2_fill 20 = .ok (.iconst 0, 1) := by decide +kernel
theorem dX2_fill_21 : decode cX2_fill 21 = .ok (.putfield 22, 3) := by decide +kernel
theorem dX2_fill_24 : decode cX2_fill 24 = .ok (.aload_n 0, 1) := by decide +kernel
theorem dX2_fill_25 : decode cX2_fill 25 = .ok (.iload 6, 2) := by decide +kernel
theorem dX2_fill_27 : decode cX2_fill 27 = .ok (.putfield 25, 3) := by decide +kernel
theorem dX2_fill_30 : decode cX2_fill 30 = .ok (.return_, 1) := by decide +kernel
theorem dX2_copyFrom_0 : decode cX2_copyFrom 0 = .ok (.aload_n 0, 1) := by decide +kernel
theorem dX2_copyFrom_1 : decode cX2_copyFrom 1 = .ok (.aload_n 1, 1) := by decide +kernel
theorem dX2_copyFrom_2 : decode cX2_copyFrom 2 = .ok (.getfield 28, 3) := by decide +kernel
theorem dX2_copyFrom_5 : decode cX2_copyFrom 5 = .ok (.putfield 28, 3) := by decide +kernel
theorem dX2_copyFrom_8 : decode cX2_copyFrom 8 = .ok (.aload_n 0, 1) := by decide +kernel
theorem dX2_copyFrom_9 : decode cX2_copyFrom 9 = .ok (.aload_n 1, 1) := by decide +kernel
theorem dX2_copyFrom_10 : decode cX2_copyFrom 10 = .ok (.getfield 31, 3) := by decide +kernel
theorem dX2_copyFrom_13 : decode cX2_copyFrom 13 = .ok (.putfield 31, 3) := by decide +kernel
theorem dX2_copyFrom_16 : decode cX2_copyFrom 16 = .ok (.aload_n 0, 1) := by decide +kernel
theorem dX2_copyFrom_17 : decode cX2_copyFrom 17 = .ok (.aload_n 1, 1) := by decide +kernel
theorem dX2_copyFrom_18 : decode cX2_copyFrom 18 = .ok (.getfield 34, 3) := by decide +kernel
theorem dX2_copyFrom_21 : decode cX2_copyFrom 21 = .ok (.putfield 34, 3) := by decide +kernel
theorem dX2_copyFrom_24 : decode cX2_copyFrom 24 = .ok (.aload_n 0, 1) := by decide +kernel
theorem dX2_copyFrom_25 : decode cX2_copyFrom 25 = .ok (.aload_n 1, 1) := by decide +kernel
theorem dX2_copyFrom_26 : decode cX2_copyFrom 26 = .ok (.getfield 15, 3) := by decide +kernel
theorem dX2_copyFrom_29 : decode cX2_copyFrom 29 = .ok (.putfield 15, 3) := by decide +kernel
theorem dX2_copyFrom_32 : decode cX2_copyFrom 32 = .ok (.aload_n 0, 1) := by decide +kernel
theorem dX2_copyFrom_33 : decode cX2_copyFrom 33 = .ok (.aload_n 1, 1) := by decide +kernel
theorem dX2_copyFrom_34 : decode cX2_copyFrom 34 = .ok (.getfield 19, 3) := by decide +kernel
theorem dX2_copyFrom_37 : decode cX2_copyFrom 37 = .ok (.putfield 19, 3) := by decide +kernel
theorem dX2_copyFrom_40 : decode cX2_copyFrom 40 = .ok (.aload_n 0, 1) := by decide +kernel
theorem dX2_copyFrom_41 : decode cX2_copyFrom 41 = .ok (.aload_n 1, 1) := by decide +kernel
theorem dX2_copyFrom_42 : decode cX2_copyFrom 42 = .ok (.getfield 22, 3) := by decide +kernel
theorem dX2_copyFrom_45 : decode cX2_copyFrom 45 = .ok (.putfield 22, 3) := by decide +kernel
theorem dX2_copyFrom_48 : decode cX2_copyFrom 48 = .ok (.aload_n 0, 1) := by decide +kernel
theorem dX2_copyFrom_49 : decode cX2_copyFrom 49 = .ok (.aload_n 1, 1) := by decide +kernel
theorem dX2_copyFrom_50 : decode cX2_copyFrom 50 = .ok (.getfield 25, 3) := by decide +kernel
theorem dX2_copyFrom_53 : decode cX2_copyFrom 53 = .ok (.putfield 25, 3) := by decide +kernel
theorem dX2_copyFrom_56 : decode cX2_copyFrom 56 = .ok (.return_, 1) := by decide +kernel
theorem dX2_becomeBundle_0 : decode cX2_becomeBundle 0 = .ok (.aload_n 0, 1) := by decide +kernel
theorem dX2_becomeBundle_1 : decode cX2_becomeBundle 1 = .ok (.aload_n 1, 1) := by decide +kernel
theorem dX2_becomeBundle_2 : decode cX2_becomeBundle 2 = .ok (.getfield 28, 3) := by decide +kernel
theorem dX2_becomeBundle_5 : decode cX2_becomeBundle 5 = .ok (.aload_n 2, 1) := by decide +kernel
theorem dX2_becomeBundle_6 : decode cX2_becomeBundle 6 = .ok (.getfield 28, 3) := by decide +kernel
theorem dX2_becomeBundle_9 : decode cX2_becomeBundle 9 = .ok (.invokestatic 37, 3) := by decide +kernel
theorem dX2_becomeBundle_12 : decode cX2_becomeBundle 12 = .ok (.aload_n 1, 1) := by decide +kernel
theorem dX2_becomeBundle_13 : decode cX2_becomeBundle 13 = .ok (.getfield 31, 3) := by decide +kernel
theorem dX2_becomeBundle_16 : decode cX2_becomeBundle 16 = .ok (.aload_n 2, 1) := by decide +kernel
theorem dX2_becomeBundle_17 : decode cX2_becomeBundle 17 = .ok (.getfield 31, 3) := by decide +kernel
theorem dX2_becomeBundle_20 : decode cX2_becomeBundle 20 = .ok (.invokestatic 37, 3) := by decide +kernel
theorem dX2_becomeBundle_23 : decode cX2_becomeBundle 23 = .ok (.aload_n 1, 1) := by decide +kernel
theorem dX2_becomeBundle_24 : decode cX2_becomeBundle 24 = .ok (.getfield 34, 3) := by decide +kernel
theorem dX2_becomeBundle_27 : decode cX2_becomeBundle 27 = .ok (.aload_n 2, 1) := by decide +kernel
theorem dX2_becomeBundle_28 : decode cX2_becomeBundle 28 = .ok (.getfield 34, 3) := by decide +kernel
theorem dX2_becomeBundle_31 : decode cX2_becomeBundle 31 = .ok (.iadd, 1) := by decide +kernel
theorem dX2_becomeBundle_32 : decode cX2_becomeBundle 32 = .ok (.invokevirtual 9, 3) := by decide +kernel
theorem dX2_becomeBundle_35 : decode cX2_becomeBundle 35 = .ok (.aload_n 0, 1) := by decide +kernel
theorem dX2_becomeBundle_36 : decode cX2_becomeBundle 36 = .ok (.aload_n 1, 1) := by decide +kernel
theorem dX2_becomeBundle_37 : decode cX2_becomeBundle 37 = .ok (.getfield 15, 3) := by decide +kernel
theorem dX2_becomeBundle_40 : decode cX2_becomeBundle 40 = .ok (.aload_n 2, 1) := by decide +kernel
theorem dX2_becomeBundle_41 : decode cX2_becomeBundle 41 = .ok (.getfield 15, 3) := by decide +kernel
theorem dX2_becomeBundle_44 : decode cX2_becomeBundle 44 = .ok (.iadd, 1) := by decide +kernel
theorem dX2_becomeBundle_45 : decode cX2_becomeBundle 45 = .ok (.putfield 15, 3) := by decide +kernel
theorem dX2_becomeBundle_48 : decode cX2_becomeBundle 48 = .ok (.aload_n 0, 1) := by decide +kernel
theorem dX2_becomeBundle_49 : decode cX2_becomeBundle 49 = .ok (.aload_n 1, 1) := by decide +kernel
theorem dX2_becomeBundle_50 : decode cX2_becomeBundle 50 = .ok (.getfield 19, 3) := by decide +kernel
theorem dX2_becomeBundle_53 : decode cX2_becomeBundle 53 = .ok (.putfield 19, 3) := by decide +kernel
theorem dX2_becomeBundle_56 : decode cX2_becomeBundle 56 = .ok (.aload_n 0, 1) := by decide +kernel
theorem dX2_becomeBundle_57 : decode cX2_becomeBundle 57 = .ok (.aload_n 1, 1) := by decide +kernel
theorem dX2_becomeBundle_58 : decode cX2_becomeBundle 58 = .ok (.getfield 22, 3) := by decide +kernel
theorem dX2_becomeBundle_61 : decode cX2_becomeBundle 61 = .ok (.aload_n 2, 1) := by decide +kernel
theorem dX2_becomeBundle_62 : decode cX2_becomeBundle 62 = .ok (.getfield 22, 3) := by decide +kernel
theorem dX2_becomeBundle_65 : decode cX2_becomeBundle 65 = .ok (.iadd, 1) := by decide +kernel
theorem dX2_becomeBundle_66 : decode cX2_becomeBundle 66 = .ok (.putfield 22, 3) := by decide +kernel
theorem dX2_becomeBundle_69 : decode cX2_becomeBundle 69 = .ok (.aload_n 0, 1) := by decide +kernel
theorem dX2_becomeBundle_70 : decode cX2_becomeBundle 70 = .ok (.aload_n 1, 1) := by decide +kernel
theorem dX2_becomeBundle_71 : decode cX2_becomeBundle 71 = .ok (.getfield 25, 3) := by decide +kernel
theorem dX2_becomeBundle_74 : decode cX2_becomeBundle 74 = .ok (.aload_n 2, 1) := by decide +kernel
theorem dX2_becomeBundle_75 : decode cX2_becomeBundle 75 = .ok (.getfield 25, 3) := by decide +kernel
theorem dX2_becomeBundle_78 : decode cX2_becomeBundle 78 = .ok (.invokestatic 37, 3) := by decide +kernel
theorem dX2_becomeBundle_81 : decode cX2_becomeBundle 81 = .ok (.putfield 25, 3) := by decide +kernel
theorem dX2_becomeBundle_84 : decode cX2_becomeBundle 84 = .ok (.return_, 1) := by decide +kernel
theorem dX2_tie_0 : decode cX2_tie 0 = .ok (.aload_n 0, 1) := by decide +kernel
theorem dX2_tie_1 : decode cX2_tie 1 = .ok (.getfield 25, 3) := by decide +kernel
theorem dX2_tie_4 : decode cX2_tie 4 = .ok (.istore_n 2, 1) := by decide +kernel
theorem dX2_tie_5 : decode cX2_tie 5 = .ok (.aload_n 0, 1) := by decide +kernel
theorem dX2_tie_6 : decode cX2_tie 6 = .ok (.iload_n 1, 1) := by decide +kernel
theorem dX2_tie_7 : decode cX2_tie 7 = .ok (.putfield 25, 3) := by decide +kernel
theorem dX2_tie_10 : decode cX2_tie 10 = .ok (.iload_n 2, 1) := by decide +kernel
theorem dX2_tie_11 : decode cX2_tie 11 = .ok (.ireturn, 1) := by decide +kernel
theorem dX2_insure_0 : decode cX2_insure 0 = .ok (.aload_n 0, 1) := by decide +kernel
theorem dX2_insure_1 : decode cX2_insure 1 = .ok (.getfield 22, 3) := by decide +kernel
theorem dX2_insure_4 : decode cX2_insure 4 = .ok (.istore_n 2, 1) := by decide +kernel
theorem dX2_insure_5 : decode cX2_insure 5 = .ok (.aload_n 0, 1) := by decide +kernel
theorem dX2_insure_6 : decode cX2_insure 6 = .ok (.iload_n 1, 1) := by decide +kernel
theorem dX2_insure_7 : decode cX2_insure 7 = .ok (.putfield 22, 3) := by decide +kernel
theorem dX2_insure_10 : decode cX2_insure 10 = .ok (.iload_n 2, 1) := by decide +kernel
theorem dX2_insure_11 : decode cX2_insure 11 = .ok (.ireturn, 1) := by decide +kernel
theorem dX2_girth_0 : decode cX2_girth 0 = .ok (.aload_n 0, 1) := by decide +kernel
theorem dX2_girth_1 : decode cX2_girth 1 = .ok (.getfield 28, 3) := by decide +kernel
theorem dX2_girth_4 : decode cX2_girth 4 = .ok (.iconst 2, 1) := by decide +kernel
theorem dX2_girth_5 : decode cX2_girth 5 = .ok (.aload_n 0, 1) := by decide +kernel
theorem dX2_girth_6 : decode cX2_girth 6 = .ok (.getfield 31, 3) := by decide +kernel
theorem dX2_girth_9 : decode cX2_girth 9 = .ok (.aload_n 0, 1) := by decide +kernel
theorem dX2_girth_10 : decode cX2_girth 10 = .ok (.getfield 34, 3) := by decide +kernel
theorem dX2_girth_13 : decode cX2_girth 13 = .ok (.iadd, 1) := by decide +kernel
theorem dX2_girth_14 : decode cX2_girth 14 = .ok (.imul, 1) := by decide +kernel
theorem dX2_girth_15 : decode cX2_girth 15 = .ok (.iadd, 1) := by decide +kernel
theorem dX2_girth_16 : decode cX2_girth 16 = .ok (.ireturn, 1) := by decide +kernel
theorem dX2_stringWithoutKnots_0 : decode cX2_stringWithoutKnots 0 = .ok (.iload_n 1, 1) := by decide +kernel
theorem dX2_stringWithoutKnots_1 : decode cX2_stringWithoutKnots 1 = .ok (.ifCond .ne 15, 3) := by decide +kernel
theorem dX2_stringWithoutKnots_4 : decode cX2_stringWithoutKnots 4 = .ok (.iconst 2, 1) := by decide +kernel
theorem dX2_stringWithoutKnots_5 : decode cX2_stringWithoutKnots 5 = .ok (.aload_n 0, 1) := by decide +kernel
theorem dX2_stringWithoutKnots_6 : decode cX2_stringWithoutKnots 6 = .ok (.getfield 31, 3) := by decide +kernel
theorem dX2_stringWithoutKnots_9 : decode cX2_stringWithoutKnots 9 = .ok (.aload_n 0, 1) := by decide +kernel
theorem dX2_stringWithoutKnots_10 : decode cX2_stringWithoutKnots 10 = .ok (.getfield 34, 3) := by decide +kernel
theorem dX2_stringWithoutKnots_13 : decode cX2_stringWithoutKnots 13 = .ok (.iadd, 1) := by decide +kernel
theorem dX2_stringWithoutKnots_14 : decode cX2_stringWithoutKnots 14 = .ok (.imul, 1) := by decide +kernel
theorem dX2_stringWithoutKnots_15 : decode cX2_stringWithoutKnots 15 = .ok (.ireturn, 1) := by decide +kernel
theorem dX2_stringWithoutKnots_16 : decode cX2_stringWithoutKnots 16 = .ok (.iload_n 1, 1) := by decide +kernel
theorem dX2_stringWithoutKnots_17 : decode cX2_stringWithoutKnots 17 = .ok (.iconst 1, 1) := by decide +kernel
theorem dX2_stringWithoutKnots_18 : decode cX2_stringWithoutKnots 18 = .ok (.if_icmp .ne 24, 3) := by decide +kernel
theorem dX2_stringWithoutKnots_21 : decode cX2_stringWithoutKnots 21 = .ok (.iconst 2, 1) := by decide +kernel
theorem dX2_stringWithoutKnots_22 : decode cX2_stringWithoutKnots 22 = .ok (.aload_n 0, 1) := by decide +kernel
theorem dX2_stringWithoutKnots_23 : decode cX2_stringWithoutKnots 23 = .ok (.getfield 28, 3) := by decide +kernel
theorem dX2_stringWithoutKnots_26 : decode cX2_stringWithoutKnots 26 = .ok (.imul, 1) := by decide +kernel
theorem dX2_stringWithoutKnots_27 : decode cX2_stringWithoutKnots 27 = .ok (.iconst 2, 1) := by decide +kernel
theorem dX2_stringWithoutKnots_28 : decode cX2_stringWithoutKnots 28 = .ok (.aload_n 0, 1) := by decide +kernel
theorem dX2_stringWithoutKnots_29 : decode cX2_stringWithoutKnots 29 = .ok (.getfield 31, 3) := by decide +kernel
theorem dX2_stringWithoutKnots_32 : decode cX2_stringWithoutKnots 32 = .ok (.imul, 1) := by decide +kernel
theorem dX2_stringWithoutKnots_33 : decode cX2_stringWithoutKnots 33 = .ok (.iadd, 1) := by decide +kernel
theorem dX2_stringWithoutKnots_34 : decode cX2_stringWithoutKnots 34 = .ok (.iconst 4, 1) := by decide +kernel
theorem dX2_stringWithoutKnots_35 : decode cX2_stringWithoutKnots 35 = .ok (.aload_n 0, 1) := by decide +kernel
theorem dX2_stringWithoutKnots_36 : decode cX2_stringWithoutKnots 36 = .ok (.getfield 34, 3) := by decide +kernel
theorem dX2_stringWithoutKnots_39 : decode cX2_stringWithoutKnots 39 = .ok (.imul, 1) := by decide +kernel
theorem dX2_stringWithoutKnots_40 : decode cX2_stringWithoutKnots 40 = .ok (.iadd, 1) := by decide +kernel
theorem dX2_stringWithoutKnots_41 : decode cX2_stringWithoutKnots 41 = .ok (.ireturn, 1) := by decide +kernel
theorem dX2_stringWithoutKnots_42 : decode cX2_stringWithoutKnots 42 = .ok (.iconst 4, 1) := by decide +kernel
theorem dX2_stringWithoutKnots_43 : decode cX2_stringWithoutKnots 43 = .ok (.aload_n 0, 1) := by decide +kernel
theorem dX2_stringWithoutKnots_44 : decode cX2_stringWithoutKnots 44 = .ok (.getfield 28, 3) := by decide +kernel
theorem dX2_stringWithoutKnots_47 : decode cX2_stringWithoutKnots 47 = .ok (.imul, 1) := by decide +kernel
theorem dX2_stringWithoutKnots_48 : decode cX2_stringWithoutKnots 48 = .ok (.iconst 2, 1) := by decide +kernel
theorem dX2_stringWithoutKnots_49 : decode cX2_stringWithoutKnots 49 = .ok (.aload_n 0, 1) := by decide +kernel
theorem dX2_stringWithoutKnots_50 : decode cX2_stringWithoutKnots 50 = .ok (.getfield 31, 3) := by decide +kernel
theorem dX2_stringWithoutKnots_53 : decode cX2_stringWithoutKnots 53 = .ok (.imul, 1) := by decide +kernel
theorem dX2_stringWithoutKnots_54 : decode cX2_stringWithoutKnots 54 = .ok (.iadd, 1) := by decide +kernel
theorem dX2_stringWithoutKnots_55 : decode cX2_stringWithoutKnots 55 = .ok (.bipush 6, 2) := by decide +kernel
theorem dX2_stringWithoutKnots_57 : decode cX2_stringWithoutKnots 57 = .ok (.aload_n 0, 1) := by decide +kernel
theorem dX2_stringWithoutKnots_58 : decode cX2_stringWithoutKnots 58 = .ok (.getfield 34, 3) := by decide +kernel
theorem dX2_stringWithoutKnots_61 : decode cX2_stringWithoutKnots 61 = .ok (.imul, 1) := by decide +kernel
theorem dX2_stringWithoutKnots_62 : decode cX2_stringWithoutKnots 62 = .ok (.iadd, 1) := by decide +kernel
theorem dX2_stringWithoutKnots_63 : decode cX2_stringWithoutKnots 63 = .ok (.ireturn, 1) := by decide +kernel
theorem dX2_laySides_0 : decode cX2_laySides 0 = .ok (.aload_n 0, 1) := by decide +kernel
theorem dX2_laySides_1 : decode cX2_laySides 1 = .ok (.iload_n 1, 1) := by decide +kernel
theorem dX2_laySides_2 : decode cX2_laySides 2 = .ok (.iload_n 2, 1) := by decide +kernel
theorem dX2_laySides_3 : decode cX2_laySides 3 = .ok (.iload_n 3, 1) := by decide +kernel
theorem dX2_laySides_4 : decode cX2_laySides 4 = .ok (.invokestatic 37, 3) := by decide +kernel
theorem dX2_laySides_7 : decode cX2_laySides 7 = .ok (.invokestatic 37, 3) := by decide +kernel
theorem dX2_laySides_10 : decode cX2_laySides 10 = .ok (.putfield 28, 3) := by decide +kernel
theorem dX2_laySides_13 : decode cX2_laySides 13 = .ok (.aload_n 0, 1) := by decide +kernel
theorem dX2_laySides_14 : decode cX2_laySides 14 = .ok (.iload_n 1, 1) := by decide +kernel
theorem dX2_laySides_15 : decode cX2_laySides 15 = .ok (.iload_n 2, 1) := by decide +kernel
theorem dX2_laySides_16 : decode cX2_laySides 16 = .ok (.iload_n 3, 1) := by decide +kernel
theorem dX2_laySides_17 : decode cX2_laySides 17 = .ok (.invokestatic 43, 3) := by decide +kernel
theorem dX2_laySides_20 : decode cX2_laySides 20 = .ok (.invokestatic 43, 3) := by decide +kernel
theorem dX2_laySides_23 : decode cX2_laySides 23 = .ok (.putfield 34, 3) := by decide +kernel
theorem dX2_laySides_26 : decode cX2_laySides 26 = .ok (.aload_n 0, 1) := by decide +kernel
theorem dX2_laySides_27 : decode cX2_laySides 27 = .ok (.iload_n 1, 1) := by decide +kernel
theorem dX2_laySides_28 : decode cX2_laySides 28 = .ok (.iload_n 2, 1) := by decide +kernel
theorem dX2_laySides_29 : decode cX2_laySides 29 = .ok (.iadd, 1) := by decide +kernel
theorem dX2_laySides_30 : decode cX2_laySides 30 = .ok (.iload_n 3, 1) := by decide +kernel
theorem dX2_laySides_31 : decode cX2_laySides 31 = .ok (.iadd, 1) := by decide +kernel
theorem dX2_laySides_32 : decode cX2_laySides 32 = .ok (.aload_n 0, 1) := by decide +kernel
theorem dX2_laySides_33 : decode cX2_laySides 33 = .ok (.getfield 28, 3) := by decide +kernel
theorem dX2_laySides_36 : decode cX2_laySides 36 = .ok (.isub, 1) := by decide +kernel
theorem dX2_laySides_37 : decode cX2_laySides 37 = .ok (.aload_n 0, 1) := by decide +kernel
theorem dX2_laySides_38 : decode cX2_laySides 38 = .ok (.getfield 34, 3) := by decide +kernel
theorem dX2_laySides_41 : decode cX2_laySides 41 = .ok (.isub, 1) := by decide +kernel
theorem dX2_laySides_42 : decode cX2_laySides 42 = .ok (.putfield 31, 3) := by decide +kernel
theorem dX2_laySides_45 : decode cX2_laySides 45 = .ok (.return_, 1) := by decide +kernel
theorem dX3_init_0 : decode cX3_init 0 = .ok (.aload_n 0, 1) := by decide +kernel
theorem dX3_init_1 : decode cX3_init 1 = .ok (.invokespecial 3, 3) := by decide +kernel
theorem dX3_init_4 : decode cX3_init 4 = .ok (.aload_n 0, 1) := by decide +kernel
theorem dX3_init_5 : decode cX3_init 5 = .ok (.bipush 60, 2) := by decide +kernel
theorem dX3_init_7 : decode cX3_init 7 = .ok (.newarray .int, 2) := by decide +kernel
theorem dX3_init_9 : decode cX3_init 9 = .ok (.putfield 9, 3) := by decide +kernel
theorem dX3_init_12 : decode cX3_init 12 = .ok (.aload_n 0, 1) := by decide +kernel
theorem dX3_init_13 : decode cX3_init 13 = .ok (.bipush 6, 2) := by decide +kernel
theorem dX3_init_15 : decode cX3_init 15 = .ok (.newarray .int, 2) := by decide +kernel
theorem dX3_init_17 : decode cX3_init 17 = .ok (.putfield 15, 3) := by decide +kernel
theorem dX3_init_20 : decode cX3_init 20 = .ok (.return_, 1) := by decide +kernel
theorem dX3_hasRoom_0 : decode cX3_hasRoom 0 = .ok (.aload_n 0, 1) := by decide +kernel
theorem dX3_hasRoom_1 : decode cX3_hasRoom 1 = .ok (.getfield 18, 3) := by decide +kernel
theorem dX3_hasRoom_4 : decode cX3_hasRoom 4 = .ok (.aload_n 0, 1) := by decide +kernel
theorem dX3_hasRoom_5 : decode cX3_hasRoom 5 = .ok (.getfield 9, 3) := by decide +kernel
theorem dX3_hasRoom_8 : decode cX3_hasRoom 8 = .ok (.arraylength, 1) := by decide +kernel
theorem dX3_hasRoom_9 : decode cX3_hasRoom 9 = .ok (.if_icmp .ge 7, 3) := by decide +kernel
theorem dX3_hasRoom_12 : decode cX3_hasRoom 12 = .ok (.iconst 1, 1) := by decide +kernel
theorem dX3_hasRoom_13 : decode cX3_hasRoom 13 = .ok (.goto 4, 3) := by decide +kernel
theorem dX3_hasRoom_16 : decode cX3_hasRoom 16 = .ok (.iconst 0, 1) := by decide +kernel
theorem dX3_hasRoom_17 : decode cX3_hasRoom 17 = .ok (.ireturn, 1) := by decide +kernel
theorem dX3_add_0 : decode cX3_add 0 = .ok (.aload_n 0, 1) := by decide +kernel
theorem dX3_add_1 : decode cX3_add 1 = .ok (.invokevirtual 22, 3) := by decide +kernel
theorem dX3_add_4 : decode cX3_add 4 = .ok (.ifCond .eq 23, 3) := by decide +kernel
theorem dX3_add_7 : decode cX3_add 7 = .ok (.aload_n 0, 1) := by decide +kernel
theorem dX3_add_8 : decode cX3_add 8 = .ok (.getfield 9, 3) := by decide +kernel
theorem dX3_add_11 : decode cX3_add 11 = .ok (.aload_n 0, 1) := by decide +kernel
theorem dX3_add_12 : decode cX3_add 12 = .ok (.getfield 18, 3) := by decide +kernel
theorem dX3_add_15 : decode cX3_add 15 = .ok (.iload_n 1, 1) := by decide +kernel
theorem dX3_add_16 : decode cX3_add 16 = .ok (.iastore, 1) := by decide +kernel
theorem dX3_add_17 : decode cX3_add 17 = .ok (.aload_n 0, 1) := by decide +kernel
theorem dX3_add_18 : decode cX3_add 18 = .ok (.dup, 1) := by decide +kernel
theorem dX3_add_19 : decode cX3_add 19 = .ok (.getfield 18, 3) := by decide +kernel
theorem dX3_add_22 : decode cX3_add 22 = .ok (.iconst 1, 1) := by decide +kernel
theorem dX3_add_23 : decode cX3_add 23 = .ok (.iadd, 1) := by decide +kernel
theorem dX3_add_24 : decode cX3_add 24 = .ok (.putfield 18, 3) := by decide +kernel
theorem dX3_add_27 : decode cX3_add 27 = .ok (.return_, 1) := by decide +kernel
theorem dX3_clear_0 : decode cX3_clear 0 = .ok (.aload_n 0, 1) := by decide +kernel
theorem dX3_clear_1 : decode cX3_clear 1 = .ok (.iconst 0, 1) := by decide +kernel
theorem dX3_clear_2 : decode cX3_clear 2 = .ok (.putfield 18, 3) := by decide +kernel
theorem dX3_clear_5 : decode cX3_clear 5 = .ok (.return_, 1) := by decide +kernel
theorem dX3_errorPlace_0 : decode cX3_errorPlace 0 = .ok (.aload_n 0, 1) := by decide +kernel
theorem dX3_errorPlace_1 : decode cX3_errorPlace 1 = .ok (.invokevirtual 26, 3) := by decide +kernel
theorem dX3_errorPlace_4 : decode cX3_errorPlace 4 = .ok (.iconst 0, 1) := by decide +kernel
theorem dX3_errorPlace_5 : decode cX3_errorPlace 5 = .ok (.istore_n 1, 1) := by decide +kernel
theorem dX3_errorPlace_6 : decode cX3_errorPlace 6 = .ok (.iload_n 1, 1) := by decide +kernel
theorem dX3_errorPlace_7 : decode cX3_errorPlace 7 = .ok (.aload_n 0, 1) := by decide +kernel
theorem dX3_errorPlace_8 : decode cX3_errorPlace 8 = .ok (.getfield 18, 3) := by decide +kernel
theorem dX3_errorPlace_11 : decode cX3_errorPlace 11 = .ok (.if_icmp .ge 33, 3) := by decide +kernel
theorem dX3_errorPlace_14 : decode cX3_errorPlace 14 = .ok (.iload_n 1, 1) := by decide +kernel
theorem dX3_errorPlace_15 : decode cX3_errorPlace 15 = .ok (.aload_n 0, 1) := by decide +kernel
theorem dX3_errorPlace_16 : decode cX3_errorPlace 16 = .ok (.getfield 9, 3) := by decide +kernel
theorem dX3_errorPlace_19 : decode cX3_errorPlace 19 = .ok (.arraylength, 1) := by decide +kernel
theorem dX3_errorPlace_20 : decode cX3_errorPlace 20 = .ok (.if_icmp .ge 24, 3) := by decide +kernel
theorem dX3_errorPlace_23 : decode cX3_errorPlace 23 = .ok (.aload_n 0, 1) := by decide +kernel
theorem dX3_errorPlace_24 : decode cX3_errorPlace 24 = .ok (.aload_n 0, 1) := by decide +kernel
theorem dX3_errorPlace_25 : decode cX3_errorPlace 25 = .ok (.getfield 9, 3) := by decide +kernel
theorem dX3_errorPlace_28 : decode cX3_errorPlace 28 = .ok (.iload_n 1, 1) := by decide +kernel
theorem dX3_errorPlace_29 : decode cX3_errorPlace 29 = .ok (.iaload, 1) := by decide +kernel
theorem dX3_errorPlace_30 : decode cX3_errorPlace 30 = .ok (.invokevirtual 29, 3) := by decide +kernel
theorem dX3_errorPlace_33 : decode cX3_errorPlace 33 = .ok (.ifCond .ne 5, 3) := by decide +kernel
theorem dX3_errorPlace_36 : decode cX3_errorPlace 36 = .ok (.iload_n 1, 1) := by decide +kernel
theorem dX3_errorPlace_37 : decode cX3_errorPlace 37 = .ok (.ireturn, 1) := by decide +kernel
theorem dX3_errorPlace_38 : decode cX3_errorPlace 38 = .ok (.iinc 1 1, 3) := by decide +kernel
theorem dX3_errorPlace_41 : decode cX3_errorPlace 41 = .ok (.goto (-35), 3) := by decide +kernel
theorem dX3_errorPlace_44 : decode cX3_errorPlace 44 = .ok (.aload_n 0, 1) := by decide +kernel
theorem dX3_errorPlace_45 : decode cX3_errorPlace 45 = .ok (.getfield 18, 3) := by decide +kernel
theorem dX3_errorPlace_48 : decode cX3_errorPlace 48 = .ok (.ireturn, 1) := by decide +kernel
theorem dX3_tellsParcels_0 : decode cX3_tellsParcels 0 = .ok (.aload_n 0, 1) := by decide +kernel
theorem dX3_tellsParcels_1 : decode cX3_tellsParcels 1 = .ok (.invokevirtual 33, 3) := by decide +kernel
theorem dX3_tellsParcels_4 : decode cX3_tellsParcels 4 = .ok (.aload_n 0, 1) := by decide +kernel
theorem dX3_tellsParcels_5 : decode cX3_tellsParcels 5 = .ok (.getfield 18, 3) := by decide +kernel
theorem dX3_tellsParcels_8 : decode cX3_tellsParcels 8 = .ok (.if_icmp .ne 14, 3) := by decide +kernel
theorem dX3_tellsParcels_11 : decode cX3_tellsParcels 11 = .ok (.aload_n 0, 1) := by decide +kernel
theorem dX3_tellsParcels_12 : decode cX3_tellsParcels 12 = .ok (.invokevirtual 37, 3) := by decide +kernel
theorem dX3_tellsParcels_15 : decode cX3_tellsParcels 15 = .ok (.ifCond .eq 7, 3) := by decide +kernel
theorem dX3_tellsParcels_18 : decode cX3_tellsParcels 18 = .ok (.iconst 1, 1) := by decide +kernel
theorem dX3_tellsParcels_19 : decode cX3_tellsParcels 19 = .ok (.goto 4, 3) := by decide +kernel
theorem dX3_tellsParcels_22 : decode cX3_tellsParcels 22 = .ok (.iconst 0, 1) := by decide +kernel
theorem dX3_tellsParcels_23 : decode cX3_tellsParcels 23 = .ok (.ireturn, 1) := by decide +kernel
theorem dX3_startReading_0 : decode cX3_startReading 0 = .ok (.aload_n 0, 1) := by decide +kernel
theorem dX3_startReading_1 : decode cX3_startReading 1 = .ok (.iconst 0, 1) := by decide +kernel
theorem dX3_startReading_2 : decode cX3_startReading 2 = .ok (.putfield 40, 3) := by decide +kernel
theorem dX3_startReading_5 : decode cX3_startReading 5 = .ok (.aload_n 0, 1) := by decide +kernel
theorem dX3_startReading_6 : decode cX3_startReading 6 = .ok (.getfield 15, 3) := by decide +kernel
theorem dX3_startReading_9 : decode cX3_startReading 9 = .ok (.iconst 0, 1) := by decide +kernel
theorem dX3_startReading_10 : decode cX3_startReading 10 = .ok (.iconst 0, 1) := by decide +kernel
theorem dX3_startReading_11 : decode cX3_startReading 11 = .ok (.iastore, 1) := by decide +kernel
theorem dX3_startReading_12 : decode cX3_startReading 12 = .ok (.return_, 1) := by decide +kernel
theorem dX3_isAtParcelEnd_0 : decode cX3_isAtParcelEnd 0 = .ok (.aload_n 0, 1) := by decide +kernel
theorem dX3_isAtParcelEnd_1 : decode cX3_isAtParcelEnd 1 = .ok (.getfield 40, 3) := by decide +kernel
theorem dX3_isAtParcelEnd_4 : decode cX3_isAtParcelEnd 4 = .ok (.bipush 6, 2) := by decide +kernel
theorem dX3_isAtParcelEnd_6 : decode cX3_isAtParcelEnd 6 = .ok (.if_icmp .ne 7, 3) := by decide +kernel
theorem dX3_isAtParcelEnd_9 : decode cX3_isAtParcelEnd 9 = .ok (.iconst 1, 1) := by decide +kernel
theorem dX3_isAtParcelEnd_10 : decode cX3_isAtParcelEnd 10 = .ok (.goto 4, 3) := by decide +kernel
theorem dX3_isAtParcelEnd_13 : decode cX3_isAtParcelEnd 13 = .ok (.iconst 0, 1) := by decide +kernel
theorem dX3_isAtParcelEnd_14 : decode cX3_isAtParcelEnd 14 = .ok (.ireturn, 1) := by decide +kernel
theorem dX3_admitReadTo_0 : decode cX3_admitReadTo 0 = .ok (.aload_n 1, 1) := by decide +kernel
theorem dX3_admitReadTo_1 : decode cX3_admitReadTo 1 = .ok (.aload_n 0, 1) := by decide +kernel
theorem dX3_admitReadTo_2 : decode cX3_admitReadTo 2 = .ok (.getfield 15, 3) := by decide +kernel
theorem dX3_admitReadTo_5 : decode cX3_admitReadTo 5 = .ok (.iconst 0, 1) := by decide +kernel
theorem dX3_admitReadTo_6 : decode cX3_admitReadTo 6 = .ok (.iaload, 1) := by decide +kernel
theorem dX3_admitReadTo_7 : decode cX3_admitReadTo 7 = .ok (.aload_n 0, 1) := by decide +kernel
theorem dX3_admitReadTo_8 : decode cX3_admitReadTo 8 = .ok (.getfield 15, 3) := by decide +kernel
theorem dX3_admitReadTo_11 : decode cX3_admitReadTo 11 = .ok (.iconst 1, 1) := by decide +kernel
theorem dX3_admitReadTo_12 : decode cX3_admitReadTo 12 = .ok (.iaload, 1) := by decide +kernel
theorem dX3_admitReadTo_13 : decode cX3_admitReadTo 13 = .ok (.aload_n 0, 1) := by decide +kernel
theorem dX3_admitReadTo_14 : decode cX3_admitReadTo 14 = .ok (.getfield 15, 3) := by decide +kernel
theorem dX3_admitReadTo_17 : decode cX3_admitReadTo 17 = .ok (.iconst 2, 1) := by decide +kernel
theorem dX3_admitReadTo_18 : decode cX3_admitReadTo 18 = .ok (.iaload, 1) := by decide +kernel
theorem dX3_admitReadTo_19 : decode cX3_admitReadTo 19 = .ok (.aload_n 0, 1) := by decide +kernel
theorem dX3_admitReadTo_20 : decode cX3_admitReadTo 20 = .ok (.getfield 15, 3) := by decide +kernel
theorem dX3_admitReadTo_23 : decode cX3_admitReadTo 23 = .ok (.iconst 3, 1) := by decide +kernel
theorem dX3_admitReadTo_24 : decode cX3_admitReadTo 24 = .ok (.iaload, 1) := by decide +kernel
theorem dX3_admitReadTo_25 : decode cX3_admitReadTo 25 = .ok (.aload_n 0, 1) := by decide +kernel
theorem dX3_admitReadTo_26 : decode cX3_admitReadTo 26 = .ok (.getfield 15, 3) := by decide +kernel
theorem dX3_admitReadTo_29 : decode cX3_admitReadTo 29 = .ok (.iconst 4, 1) := by decide +kernel
theorem dX3_admitReadTo_30 : decode cX3_admitReadTo 30 = .ok (.iaload, 1) := by decide +kernel
theorem dX3_admitReadTo_31 : decode cX3_admitReadTo 31 = .ok (.aload_n 0, 1) := by decide +kernel
theorem dX3_admitReadTo_32 : decode cX3_admitReadTo 32 = .ok (.getfield 15, 3) := by decide +kernel
theorem dX3_admitReadTo_35 : decode cX3_admitReadTo 35 = .ok (.iconst 5, 1) := by decide +kernel
theorem dX3_admitReadTo_36 : decode cX3_admitReadTo 36 = .ok (.iaload, 1) := by decide +kernel
theorem dX3_admitReadTo_37 : decode cX3_admitReadTo 37 = .ok (.invokevirtual 43, 3) := by decide +kernel
theorem dX3_admitReadTo_40 : decode cX3_admitReadTo 40 = .ok (.ireturn, 1) := by decide +kernel
theorem dX3_reads_0 : decode cX3_reads 0 = .ok (.aload_n 0, 1) := by decide +kernel
theorem dX3_reads_1 : decode cX3_reads 1 = .ok (.getfield 40, 3) := by decide +kernel
theorem dX3_reads_4 : decode cX3_reads 4 = .ok (.iconst 4, 1) := by decide +kernel
theorem dX3_reads_5 : decode cX3_reads 5 = .ok (.if_icmp .ge 9, 3) := by decide +kernel
theorem dX3_reads_8 : decode cX3_reads 8 = .ok (.aload_n 0, 1) := by decide +kernel
theorem dX3_reads_9 : decode cX3_reads 9 = .ok (.iload_n 1, 1) := by decide +kernel
theorem dX3_reads_10 : decode cX3_reads 10 = .ok (.invokevirtual 49, 3) := by decide +kernel
theorem dX3_reads_13 : decode cX3_reads 13 = .ok (.ireturn, 1) := by decide +kernel
theorem dX3_reads_14 : decode cX3_reads 14 = .ok (.aload_n 0, 1) := by decide +kernel
theorem dX3_reads_15 : decode cX3_reads 15 = .ok (.getfield 40, 3) := by decide +kernel
theorem dX3_reads_18 : decode cX3_reads 18 = .ok (.iconst 4, 1) := by decide +kernel
theorem dX3_reads_19 : decode cX3_reads 19 = .ok (.if_icmp .ne 13, 3) := by decide +kernel
theorem dX3_reads_22 : decode cX3_reads 22 = .ok (.aload_n 0, 1) := by decide +kernel
theorem dX3_reads_23 : decode cX3_reads 23 = .ok (.iload_n 1, 1) := by decide +kernel
theorem dX3_reads_24 : decode cX3_reads 24 = .ok (.bipush 48, 2) := by decide +kernel
theorem dX3_reads_26 : decode cX3_reads 26 = .ok (.isub, 1) := by decide +kernel
theorem dX3_reads_27 : decode cX3_reads 27 = .ok (.iconst 4, 1) := by decide +kernel
theorem dX3_reads_28 : decode cX3_reads 28 = .ok (.invokevirtual 52, 3) := by decide +kernel
theorem dX3_reads_31 : decode cX3_reads 31 = .ok (.ireturn, 1) := by decide +kernel
theorem dX3_reads_32 : decode cX3_reads 32 = .ok (.aload_n 0, 1) := by decide +kernel
theorem dX3_reads_33 : decode cX3_reads 33 = .ok (.getfield 40, 3) := by decide +kernel
theorem dX3_reads_36 : decode cX3_reads 36 = .ok (.iconst 5, 1) := by decide +kernel
theorem dX3_reads_37 : decode cX3_reads 37 = .ok (.if_icmp .ne 13, 3) := by decide +kernel
theorem dX3_reads_40 : decode cX3_reads 40 = .ok (.aload_n 0, 1) := by decide +kernel
theorem dX3_reads_41 : decode cX3_reads 41 = .ok (.iload_n 1, 1) := by decide +kernel
theorem dX3_reads_42 : decode cX3_reads 42 = .ok (.invokestatic 56, 3) := by decide +kernel
theorem dX3_reads_45 : decode cX3_reads 45 = .ok (.iconst 3, 1) := by decide +kernel
theorem dX3_reads_46 : decode cX3_reads 46 = .ok (.invokevirtual 52, 3) := by decide +kernel
theorem dX3_reads_49 : decode cX3_reads 49 = .ok (.ireturn, 1) := by decide +kernel
theorem dX3_reads_50 : decode cX3_reads 50 = .ok (.iload_n 1, 1) := by decide +kernel
theorem dX3_reads_51 : decode cX3_reads 51 = .ok (.bipush 59, 2) := by decide +kernel
theorem dX3_reads_53 : decode cX3_reads 53 = .ok (.if_icmp .eq 5, 3) := by decide +kernel
theorem dX3_reads_56 : decode cX3_reads 56 = .ok (.iconst 0, 1) := by decide +kernel
theorem dX3_reads_57 : decode cX3_reads 57 = .ok (.ireturn, 1) := by decide +kernel
theorem dX3_reads_58 : decode cX3_reads 58 = .ok (.aload_n 0, 1) := by decide +kernel
theorem dX3_reads_59 : decode cX3_reads 59 = .ok (.invokevirtual 26, 3) := by decide +kernel
theorem dX3_reads_62 : decode cX3_reads 62 = .ok (.iconst 1, 1) := by decide +kernel
theorem dX3_reads_63 : decode cX3_reads 63 = .ok (.ireturn, 1) := by decide +kernel
theorem dX3_readsInNumber_0 : decode cX3_readsInNumber 0 = .ok (.iload_n 1, 1) := by decide +kernel
theorem dX3_readsInNumber_1 : decode cX3_readsInNumber 1 = .ok (.getstatic 60, 3) := by decide +kernel
theorem dX3_readsInNumber_4 : decode cX3_readsInNumber 4 = .ok (.aload_n 0, 1) := by decide +kernel
theorem dX3_readsInNumber_5 : decode cX3_readsInNumber 5 = .ok (.getfield 40, 3) := by decide +kernel
theorem dX3_readsInNumber_8 : decode cX3_readsInNumber 8 = .ok (.caload, 1) := by decide +kernel
theorem dX3_readsInNumber_9 : decode cX3_readsInNumber 9 = .ok (.if_icmp .ne 8, 3) := by decide +kernel
theorem dX3_readsInNumber_12 : decode cX3_readsInNumber 12 = .ok (.aload_n 0, 1) := by decide +kernel
theorem dX3_readsInNumber_13 : decode cX3_readsInNumber 13 = .ok (.invokevirtual 64, 3) := by decide +kernel
theorem dX3_readsInNumber_16 : decode cX3_readsInNumber 16 = .ok (.ireturn, 1) := by decide +kernel
theorem dX3_readsInNumber_17 : decode cX3_readsInNumber 17 = .ok (.iload_n 1, 1) := by decide +kernel
theorem dX3_readsInNumber_18 : decode cX3_readsInNumber 18 = .ok (.bipush 48, 2) := by decide +kernel
theorem dX3_readsInNumber_20 : decode cX3_readsInNumber 20 = .ok (.if_icmp .lt 9, 3) := by decide +kernel
theorem dX3_readsInNumber_23 : decode cX3_readsInNumber 23 = .ok (.iload_n 1, 1) := by decide +kernel
theorem dX3_readsInNumber_24 : decode cX3_readsInNumber 24 = .ok (.bipush 57, 2) := by decide +kernel
theorem dX3_readsInNumber_26 : decode cX3_readsInNumber 26 = .ok (.if_icmp .le 5, 3) := by decide +kernel
theorem dX3_readsInNumber_29 : decode cX3_readsInNumber 29 = .ok (.iconst 0, 1) := by decide +kernel
theorem dX3_readsInNumber_30 : decode cX3_readsInNumber 30 = .ok (.ireturn, 1) := by decide +kernel
theorem dX3_readsInNumber_31 : decode cX3_readsInNumber 31 = .ok (.bipush 10, 2) := by decide +kernel
theorem dX3_readsInNumber_33 : decode cX3_readsInNumber 33 = .ok (.aload_n 0, 1) := by decide +kernel
theorem dX3_readsInNumber_34 : decode cX3_readsInNumber 34 = .ok (.getfield 15, 3) := by decide +kernel
theorem dX3_readsInNumber_37 : decode cX3_readsInNumber 37 = .ok (.aload_n 0, 1) := by decide +kernel
theorem dX3_readsInNumber_38 : decode cX3_readsInNumber 38 = .ok (.getfield 40, 3) := by decide +kernel
theorem dX3_readsInNumber_41 : decode cX3_readsInNumber 41 = .ok (.iaload, 1) := by decide +kernel
theorem dX3_readsInNumber_42 : decode cX3_readsInNumber 42 = .ok (.imul, 1) := by decide +kernel
theorem dX3_readsInNumber_43 : decode cX3_readsInNumber 43 = .ok (.iload_n 1, 1) := by decide +kernel
theorem dX3_readsInNumber_44 : decode cX3_readsInNumber 44 = .ok (.bipush 48, 2) := by decide +kernel
theorem dX3_readsInNumber_46 : decode cX3_readsInNumber 46 = .ok (.isub, 1) := by decide +kernel
theorem dX3_readsInNumber_47 : decode cX3_readsInNumber 47 = .ok (.iadd, 1) := by decide +kernel
theorem dX3_readsInNumber_48 : decode cX3_readsInNumber 48 = .ok (.istore_n 2, 1) := by decide +kernel
theorem dX3_readsInNumber_49 : decode cX3_readsInNumber 49 = .ok (.iload_n 2, 1) := by decide +kernel
theorem dX3_readsInNumber_50 : decode cX3_readsInNumber 50 = .ok (.iconst 1, 1) := by decide +kernel
theorem dX3_readsInNumber_51 : decode cX3_readsInNumber 51 = .ok (.if_icmp .lt 15, 3) := by decide +kernel
theorem dX3_readsInNumber_54 : decode cX3_readsInNumber 54 = .ok (.iload_n 2, 1) := by decide +kernel
theorem dX3_readsInNumber_55 : decode cX3_readsInNumber 55 = .ok (.getstatic 67, 3) := by decide +kernel
theorem dX3_readsInNumber_58 : decode cX3_readsInNumber 58 = .ok (.aload_n 0, 1) := by decide +kernel
theorem dX3_readsInNumber_59 : decode cX3_readsInNumber 59 = .ok (.getfield 40, 3) := by decide +kernel
theorem dX3_readsInNumber_62 : decode cX3_readsInNumber 62 = .ok (.iaload, 1) := by decide +kernel
theorem dX3_readsInNumber_63 : decode cX3_readsInNumber 63 = .ok (.if_icmp .le 5, 3) := by decide +kernel
theorem dX3_readsInNumber_66 : decode cX3_readsInNumber 66 = .ok (.iconst 0, 1) := by decide +kernel
theorem dX3_readsInNumber_67 : decode cX3_readsInNumber 67 = .ok (.ireturn, 1) := by decide +kernel
theorem dX3_readsInNumber_68 : decode cX3_readsInNumber 68 = .ok (.aload_n 0, 1) := by decide +kernel
theorem dX3_readsInNumber_69 : decode cX3_readsInNumber 69 = .ok (.getfield 15, 3) := by decide +kernel
theorem dX3_readsInNumber_72 : decode cX3_readsInNumber 72 = .ok (.aload_n 0, 1) := by decide +kernel
theorem dX3_readsInNumber_73 : decode cX3_readsInNumber 73 = .ok (.getfield 40, 3) := by decide +kernel
theorem dX3_readsInNumber_76 : decode cX3_readsInNumber 76 = .ok (.iload_n 2, 1) := by decide +kernel
theorem dX3_readsInNumber_77 : decode cX3_readsInNumber 77 = .ok (.iastore, 1) := by decide +kernel
theorem dX3_readsInNumber_78 : decode cX3_readsInNumber 78 = .ok (.iconst 1, 1) := by decide +kernel
theorem dX3_readsInNumber_79 : decode cX3_readsInNumber 79 = .ok (.ireturn, 1) := by decide +kernel
theorem dX3_endsNumber_0 : decode cX3_endsNumber 0 = .ok (.aload_n 0, 1) := by decide +kernel
theorem dX3_endsNumber_1 : decode cX3_endsNumber 1 = .ok (.getfield 15, 3) := by decide +kernel
theorem dX3_endsNumber_4 : decode cX3_endsNumber 4 = .ok (.aload_n 0, 1) := by decide +kernel
theorem dX3_endsNumber_5 : decode cX3_endsNumber 5 = .ok (.getfield 40, 3) := by decide +kernel
theorem dX3_endsNumber_8 : decode cX3_endsNumber 8 = .ok (.iaload, 1) := by decide +kernel
theorem dX3_endsNumber_9 : decode cX3_endsNumber 9 = .ok (.ifCond .ne 5, 3) := by decide +kernel
theorem dX3_endsNumber_12 : decode cX3_endsNumber 12 = .ok (.iconst 0, 1) := by decide +kernel
theorem dX3_endsNumber_13 : decode cX3_endsNumber 13 = .ok (.ireturn, 1) := by decide +kernel
theorem dX3_endsNumber_14 : decode cX3_endsNumber 14 = .ok (.aload_n 0, 1) := by decide +kernel
theorem dX3_endsNumber_15 : decode cX3_endsNumber 15 = .ok (.dup, 1) := by decide +kernel
theorem dX3_endsNumber_16 : decode cX3_endsNumber 16 = .ok (.getfield 40, 3) := by decide +kernel
theorem dX3_endsNumber_19 : decode cX3_endsNumber 19 = .ok (.iconst 1, 1) := by decide +kernel
theorem dX3_endsNumber_20 : decode cX3_endsNumber 20 = .ok (.iadd, 1) := by decide +kernel
theorem dX3_endsNumber_21 : decode cX3_endsNumber 21 = .ok (.putfield 40, 3) := by decide +kernel
theorem dX3_endsNumber_24 : decode cX3_endsNumber 24 = .ok (.aload_n 0, 1) := by decide +kernel
theorem dX3_endsNumber_25 : decode cX3_endsNumber 25 = .ok (.getfield 15, 3) := by decide +kernel
theorem dX3_endsNumber_28 : decode cX3_endsNumber 28 = .ok (.aload_n 0, 1) := by decide +kernel
theorem dX3_endsNumber_29 : decode cX3_endsNumber 29 = .ok (.getfield 40, 3) := by decide +kernel
theorem dX3_endsNumber_32 : decode cX3_endsNumber 32 = .ok (.iconst 0, 1) := by decide +kernel
theorem dX3_endsNumber_33 : decode cX3_endsNumber 33 = .ok (.iastore, 1) := by decide +kernel
theorem dX3_endsNumber_34 : decode cX3_endsNumber 34 = .ok (.iconst 1, 1) := by decide +kernel
theorem dX3_endsNumber_35 : decode cX3_endsNumber 35 = .ok (.ireturn, 1) := by decide +kernel
theorem dX3_readsChoice_0 : decode cX3_readsChoice 0 = .ok (.iload_n 1, 1) := by decide +kernel
theorem dX3_readsChoice_1 : decode cX3_readsChoice 1 = .ok (.ifCond .lt 8, 3) := by decide +kernel
theorem dX3_readsChoice_4 : decode cX3_readsChoice 4 = .ok (.iload_n 1, 1) := by decide +kernel
theorem dX3_readsChoice_5 : decode cX3_readsChoice 5 = .ok (.iload_n 2, 1) := by decide +kernel
theorem dX3_readsChoice_6 : decode cX3_readsChoice 6 = .ok (.if_icmp .lt 5, 3) := by decide +kernel
theorem dX3_readsChoice_9 : decode cX3_readsChoice 9 = .ok (.iconst 0, 1) := by decide +kernel
theorem dX3_readsChoice_10 : decode cX3_readsChoice 10 = .ok (.ireturn, 1) := by decide +kernel
theorem dX3_readsChoice_11 : decode cX3_readsChoice 11 = .ok (.aload_n 0, 1) := by decide +kernel
theorem dX3_readsChoice_12 : decode cX3_readsChoice 12 = .ok (.getfield 15, 3) := by decide +kernel
theorem dX3_readsChoice_15 : decode cX3_readsChoice 15 = .ok (.aload_n 0, 1) := by decide +kernel
theorem dX3_readsChoice_16 : decode cX3_readsChoice 16 = .ok (.getfield 40, 3) := by decide +kernel
theorem dX3_readsChoice_19 : decode cX3_readsChoice 19 = .ok (.iload_n 1, 1) := by decide +kernel
theorem dX3_readsChoice_20 : decode cX3_readsChoice 20 = .ok (.iastore, 1) := by decide +kernel
theorem dX3_readsChoice_21 : decode cX3_readsChoice 21 = .ok (.aload_n 0, 1) := by decide +kernel
theorem dX3_readsChoice_22 : decode cX3_readsChoice 22 = .ok (.dup, 1) := by decide +kernel
theorem dX3_readsChoice_23 : decode cX3_readsChoice 23 = .ok (.getfield 40, 3) := by decide +kernel
theorem dX3_readsChoice_26 : decode cX3_readsChoice 26 = .ok (.iconst 1, 1) := by decide +kernel
theorem dX3_readsChoice_27 : decode cX3_readsChoice 27 = .ok (.iadd, 1) := by decide +kernel
theorem dX3_readsChoice_28 : decode cX3_readsChoice 28 = .ok (.putfield 40, 3) := by decide +kernel
theorem dX3_readsChoice_31 : decode cX3_readsChoice 31 = .ok (.iconst 1, 1) := by decide +kernel
theorem dX3_readsChoice_32 : decode cX3_readsChoice 32 = .ok (.ireturn, 1) := by decide +kernel
theorem dX3_wayOf_0 : decode cX3_wayOf 0 = .ok (.iload_n 0, 1) := by decide +kernel
theorem dX3_wayOf_1 : decode cX3_wayOf 1 = .ok (.lookupswitch 41 #[(99, 37), (100, 39), (114, 35)], 35) := by decide +kernel
theorem dX3_wayOf_36 : decode cX3_wayOf 36 = .ok (.iconst 0, 1) := by decide +kernel
theorem dX3_wayOf_37 : decode cX3_wayOf 37 = .ok (.ireturn, 1) := by decide +kernel
theorem dX3_wayOf_38 : decode cX3_wayOf 38 = .ok (.iconst 1, 1) := by decide +kernel
theorem dX3_wayOf_39 : decode cX3_wayOf 39 = .ok (.ireturn, 1) := by decide +kernel
theorem dX3_wayOf_40 : decode cX3_wayOf 40 = .ok (.iconst 2, 1) := by decide +kernel
theorem dX3_wayOf_41 : decode cX3_wayOf 41 = .ok (.ireturn, 1) := by decide +kernel
theorem dX3_wayOf_42 : decode cX3_wayOf 42 = .ok (.iconst (-1), 1) := by decide +kernel
theorem dX3_wayOf_43 : decode cX3_wayOf 43 = .ok (.ireturn, 1) := by decide +kernel
theorem dX4_init_0 : decode cX4_init 0 = .ok (.aload_n 0, 1) := by decide +kernel
theorem dX4_init_1 : decode cX4_init 1 = .ok (.invokespecial 3, 3) := by decide +kernel
theorem dX4_init_4 : decode cX4_init 4 = .ok (.aload_n 0, 1) := by decide +kernel
theorem dX4_init_5 : decode cX4_init 5 = .ok (.bipush 6, 2) := by decide +kernel
theorem dX4_init_7 : decode cX4_init 7 = .ok (.anewarray 9, 3) := by decide +kernel
theorem dX4_init_10 : decode cX4_init 10 = .ok (.putfield 11, 3) := by decide +kernel
theorem dX4_init_13 : decode cX4_init 13 = .ok (.iconst 0, 1) := by decide +kernel
theorem dX4_init_14 : decode cX4_init 14 = .ok (.istore_n 1, 1) := by decide +kernel
theorem dX4_init_15 : decode cX4_init 15 = .ok (.iload_n 1, 1) := by decide +kernel
theorem dX4_init_16 : decode cX4_init 16 = .ok (.aload_n 0, 1) := by decide +kernel
theorem dX4_init_17 : decode cX4_init 17 = .ok (.getfield 11, 3) := by decide +kernel
theorem dX4_init_20 : decode cX4_init 20 = .ok (.arraylength, 1) := by decide +kernel
theorem dX4_init_21 : decode cX4_init 21 = .ok (.if_icmp .ge 22, 3) := by decide +kernel
theorem dX4_init_24 : decode cX4_init 24 = .ok (.aload_n 0, 1) := by decide +kernel
theorem dX4_init_25 : decode cX4_init 25 = .ok (.getfield 11, 3) := by decide +kernel
theorem dX4_init_28 : decode cX4_init 28 = .ok (.iload_n 1, 1) := by decide +kernel
theorem dX4_init_29 : decode cX4_init 29 = .ok (.new 9, 3) := by decide +kernel
theorem dX4_init_32 : decode cX4_init 32 = .ok (.dup, 1) := by decide +kernel
theorem dX4_init_33 : decode cX4_init 33 = .ok (.invokespecial 17, 3) := by decide +kernel
theorem dX4_init_36 : decode cX4_init 36 = .ok (.aastore, 1) := by decide +kernel
theorem dX4_init_37 : decode cX4_init 37 = .ok (.iinc 1 1, 3) := by decide +kernel
theorem dX4_init_40 : decode cX4_init 40 = .ok (.goto (-25), 3) := by decide +kernel
theorem dX4_init_43 : decode cX4_init 43 = .ok (.return_, 1) := by decide +kernel
theorem dX4_save_0 : decode cX4_save 0 = .ok (.aload_n 0, 1) := by decide +kernel
theorem dX4_save_1 : decode cX4_save 1 = .ok (.getfield 18, 3) := by decide +kernel
theorem dX4_save_4 : decode cX4_save 4 = .ok (.aload_n 0, 1) := by decide +kernel
theorem dX4_save_5 : decode cX4_save 5 = .ok (.getfield 11, 3) := by decide +kernel
theorem dX4_save_8 : decode cX4_save 8 = .ok (.arraylength, 1) := by decide +kernel
theorem dX4_save_9 : decode cX4_save 9 = .ok (.if_icmp .lt 7, 3) := by decide +kernel
theorem dX4_save_12 : decode cX4_save 12 = .ok (.aload_n 0, 1) := by decide +kernel
theorem dX4_save_13 : decode cX4_save 13 = .ok (.invokevirtual 22, 3) := by decide +kernel
theorem dX4_save_16 : decode cX4_save 16 = .ok (.aload_n 0, 1) := by decide +kernel
theorem dX4_save_17 : decode cX4_save 17 = .ok (.getfield 11, 3) := by decide +kernel
theorem dX4_save_20 : decode cX4_save 20 = .ok (.aload_n 0, 1) := by decide +kernel
theorem dX4_save_21 : decode cX4_save 21 = .ok (.getfield 18, 3) := by decide +kernel
theorem dX4_save_24 : decode cX4_save 24 = .ok (.aaload, 1) := by decide +kernel
theorem dX4_save_25 : decode cX4_save 25 = .ok (.aload_n 1, 1) := by decide +kernel
theorem dX4_save_26 : decode cX4_save 26 = .ok (.invokevirtual 25, 3) := by decide +kernel
theorem dX4_save_29 : decode cX4_save 29 = .ok (.aload_n 0, 1) := by decide +kernel
theorem dX4_save_30 : decode cX4_save 30 = .ok (.dup, 1) := by decide +kernel
theorem dX4_save_31 : decode cX4_save 31 = .ok (.getfield 18, 3) := by decide +kernel
theorem dX4_save_34 : decode cX4_save 34 = .ok (.iconst 1, 1) := by decide +kernel
theorem dX4_save_35 : decode cX4_save 35 = .ok (.iadd, 1) := by decide +kernel
theorem dX4_save_36 : decode cX4_save 36 = .ok (.putfield 18, 3) := by decide +kernel
theorem dX4_save_39 : decode cX4_save 39 = .ok (.return_, 1) := by decide +kernel
theorem dX4_restoreLatest_0 : decode cX4_restoreLatest 0 = .ok (.aload_n 0, 1) := by decide +kernel
theorem dX4_restoreLatest_1 : decode cX4_restoreLatest 1 = .ok (.getfield 18, 3) := by decide +kernel
theorem dX4_restoreLatest_4 : decode cX4_restoreLatest 4 = .ok (.ifCond .le 26, 3) := by decide +kernel
theorem dX4_restoreLatest_7 : decode cX4_restoreLatest 7 = .ok (.aload_n 0, 1) := by decide +kernel
theorem dX4_restoreLatest_8 : decode cX4_restoreLatest 8 = .ok (.dup, 1) := by decide +kernel
