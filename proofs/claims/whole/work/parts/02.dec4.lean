theorem dX6_bySets_17 : decode cX6_bySets 17 = .ok (.iaload, 1) := by decide +kernel
theorem dX6_bySets_18 : decode cX6_bySets 18 = .ok (.ishl, 1) := by decide +kernel
theorem dX6_bySets_19 : decode cX6_bySets 19 = .ok (.if_icmp .ge 136, 3) := by decide +kernel
theorem dX6_bySets_22 : decode cX6_bySets 22 = .ok (.iconst 0, 1) := by decide +kernel
theorem dX6_bySets_23 : decode cX6_bySets 23 = .ok (.istore_n 2, 1) := by decide +kernel
theorem dX6_bySets_24 : decode cX6_bySets 24 = .ok (.iload_n 1, 1) := by decide +kernel
theorem dX6_bySets_25 : decode cX6_bySets 25 = .ok (.iload_n 2, 1) := by decide +kernel
theorem dX6_bySets_26 : decode cX6_bySets 26 = .ok (.iconst 1, 1) := by decide +kernel
theorem dX6_bySets_27 : decode cX6_bySets 27 = .ok (.iadd, 1) := by decide +kernel
theorem dX6_bySets_28 : decode cX6_bySets 28 = .ok (.ishr, 1) := by decide +kernel
theorem dX6_bySets_29 : decode cX6_bySets 29 = .ok (.ifCond .le 9, 3) := by decide +kernel
theorem dX6_bySets_32 : decode cX6_bySets 32 = .ok (.iinc 2 1, 3) := by decide +kernel
theorem dX6_bySets_35 : decode cX6_bySets 35 = .ok (.goto (-11), 3) := by decide +kernel
theorem dX6_bySets_38 : decode cX6_bySets 38 = .ok (.iload_n 1, 1) := by decide +kernel
theorem dX6_bySets_39 : decode cX6_bySets 39 = .ok (.iconst 1, 1) := by decide +kernel
theorem dX6_bySets_40 : decode cX6_bySets 40 = .ok (.iload_n 2, 1) := by decide +kernel
theorem dX6_bySets_41 : decode cX6_bySets 41 = .ok (.ishl, 1) := by decide +kernel
theorem dX6_bySets_42 : decode cX6_bySets 42 = .ok (.isub, 1) := by decide +kernel
theorem dX6_bySets_43 : decode cX6_bySets 43 = .ok (.istore_n 3, 1) := by decide +kernel
theorem dX6_bySets_44 : decode cX6_bySets 44 = .ok (.aload_n 0, 1) := by decide +kernel
theorem dX6_bySets_45 : decode cX6_bySets 45 = .ok (.getfield 21, 3) := by decide +kernel
theorem dX6_bySets_48 : decode cX6_bySets 48 = .ok (.iload_n 1, 1) := by decide +kernel
theorem dX6_bySets_49 : decode cX6_bySets 49 = .ok (.aload_n 0, 1) := by decide +kernel
theorem dX6_bySets_50 : decode cX6_bySets 50 = .ok (.getfield 21, 3) := by decide +kernel
theorem dX6_bySets_53 : decode cX6_bySets 53 = .ok (.iload_n 3, 1) := by decide +kernel
theorem dX6_bySets_54 : decode cX6_bySets 54 = .ok (.iaload, 1) := by decide +kernel
theorem dX6_bySets_55 : decode cX6_bySets 55 = .ok (.aload_n 0, 1) := by decide +kernel
theorem dX6_bySets_56 : decode cX6_bySets 56 = .ok (.iload_n 2, 1) := by decide +kernel
theorem dX6_bySets_57 : decode cX6_bySets 57 = .ok (.invokevirtual 86, 3) := by decide +kernel
theorem dX6_bySets_60 : decode cX6_bySets 60 = .ok (.iadd, 1) := by decide +kernel
theorem dX6_bySets_61 : decode cX6_bySets 61 = .ok (.iastore, 1) := by decide +kernel
theorem dX6_bySets_62 : decode cX6_bySets 62 = .ok (.iconst 0, 1) := by decide +kernel
theorem dX6_bySets_63 : decode cX6_bySets 63 = .ok (.istore 4, 2) := by decide +kernel
theorem dX6_bySets_65 : decode cX6_bySets 65 = .ok (.iload 4, 2) := by decide +kernel
theorem dX6_bySets_67 : decode cX6_bySets 67 = .ok (.iload_n 2, 1) := by decide +kernel
theorem dX6_bySets_68 : decode cX6_bySets 68 = .ok (.if_icmp .ge 81, 3) := by decide +kernel
theorem dX6_bySets_71 : decode cX6_bySets 71 = .ok (.iload_n 3, 1) := by decide +kernel
theorem dX6_bySets_72 : decode cX6_bySets 72 = .ok (.iload 4, 2) := by decide +kernel
theorem dX6_bySets_74 : decode cX6_bySets 74 = .ok (.ishr, 1) := by decide +kernel
theorem dX6_bySets_75 : decode cX6_bySets 75 = .ok (.iconst 1, 1) := by decide +kernel
theorem dX6_bySets_76 : decode cX6_bySets 76 = .ok (.iand, 1) := by decide +kernel
theorem dX6_bySets_77 : decode cX6_bySets 77 = .ok (.iconst 1, 1) := by decide +kernel
theorem dX6_bySets_78 : decode cX6_bySets 78 = .ok (.if_icmp .ne 13, 3) := by decide +kernel
theorem dX6_bySets_81 : decode cX6_bySets 81 = .ok (.aload_n 0, 1) := by decide +kernel
theorem dX6_bySets_82 : decode cX6_bySets 82 = .ok (.iload 4, 2) := by decide +kernel
theorem dX6_bySets_84 : decode cX6_bySets 84 = .ok (.iload_n 2, 1) := by decide +kernel
theorem dX6_bySets_85 : decode cX6_bySets 85 = .ok (.invokevirtual 89, 3) := by decide +kernel
theorem dX6_bySets_88 : decode cX6_bySets 88 = .ok (.goto 4, 3) := by decide +kernel
theorem dX6_bySets_91 : decode cX6_bySets 91 = .ok (.iconst (-1), 1) := by decide +kernel
theorem dX6_bySets_92 : decode cX6_bySets 92 = .ok (.istore 5, 2) := by decide +kernel
theorem dX6_bySets_94 : decode cX6_bySets 94 = .ok (.iload 5, 2) := by decide +kernel
theorem dX6_bySets_96 : decode cX6_bySets 96 = .ok (.iconst (-1), 1) := by decide +kernel
theorem dX6_bySets_97 : decode cX6_bySets 97 = .ok (.if_icmp .eq 46, 3) := by decide +kernel
theorem dX6_bySets_100 : decode cX6_bySets 100 = .ok (.aload_n 0, 1) := by decide +kernel
theorem dX6_bySets_101 : decode cX6_bySets 101 = .ok (.getfield 21, 3) := by decide +kernel
theorem dX6_bySets_104 : decode cX6_bySets 104 = .ok (.iload_n 3, 1) := by decide +kernel
theorem dX6_bySets_105 : decode cX6_bySets 105 = .ok (.iconst 1, 1) := by decide +kernel
theorem dX6_bySets_106 : decode cX6_bySets 106 = .ok (.iload 4, 2) := by decide +kernel
theorem dX6_bySets_108 : decode cX6_bySets 108 = .ok (.ishl, 1) := by decide +kernel
theorem dX6_bySets_109 : decode cX6_bySets 109 = .ok (.isub, 1) := by decide +kernel
theorem dX6_bySets_110 : decode cX6_bySets 110 = .ok (.iaload, 1) := by decide +kernel
theorem dX6_bySets_111 : decode cX6_bySets 111 = .ok (.iload 5, 2) := by decide +kernel
theorem dX6_bySets_113 : decode cX6_bySets 113 = .ok (.iadd, 1) := by decide +kernel
theorem dX6_bySets_114 : decode cX6_bySets 114 = .ok (.aload_n 0, 1) := by decide +kernel
theorem dX6_bySets_115 : decode cX6_bySets 115 = .ok (.getfield 21, 3) := by decide +kernel
theorem dX6_bySets_118 : decode cX6_bySets 118 = .ok (.iload_n 1, 1) := by decide +kernel
theorem dX6_bySets_119 : decode cX6_bySets 119 = .ok (.iaload, 1) := by decide +kernel
theorem dX6_bySets_120 : decode cX6_bySets 120 = .ok (.if_icmp .ge 23, 3) := by decide +kernel
theorem dX6_bySets_123 : decode cX6_bySets 123 = .ok (.aload_n 0, 1) := by decide +kernel
theorem dX6_bySets_124 : decode cX6_bySets 124 = .ok (.getfield 21, 3) := by decide +kernel
theorem dX6_bySets_127 : decode cX6_bySets 127 = .ok (.iload_n 1, 1) := by decide +kernel
theorem dX6_bySets_128 : decode cX6_bySets 128 = .ok (.aload_n 0, 1) := by decide +kernel
theorem dX6_bySets_129 : decode cX6_bySets 129 = .ok (.getfield 21, 3) := by decide +kernel
theorem dX6_bySets_132 : decode cX6_bySets 132 = .ok (.iload_n 3, 1) := by decide +kernel
theorem dX6_bySets_133 : decode cX6_bySets 133 = .ok (.iconst 1, 1) := by decide +kernel
theorem dX6_bySets_134 : decode cX6_bySets 134 = .ok (.iload 4, 2) := by decide +kernel
theorem dX6_bySets_136 : decode cX6_bySets 136 = .ok (.ishl, 1) := by decide +kernel
theorem dX6_bySets_137 : decode cX6_bySets 137 = .ok (.isub, 1) := by decide +kernel
theorem dX6_bySets_138 : decode cX6_bySets 138 = .ok (.iaload, 1) := by decide +kernel
theorem dX6_bySets_139 : decode cX6_bySets 139 = .ok (.iload 5, 2) := by decide +kernel
theorem dX6_bySets_141 : decode cX6_bySets 141 = .ok (.iadd, 1) := by decide +kernel
theorem dX6_bySets_142 : decode cX6_bySets 142 = .ok (.iastore, 1) := by decide +kernel
theorem dX6_bySets_143 : decode cX6_bySets 143 = .ok (.iinc 4 1, 3) := by decide +kernel
theorem dX6_bySets_146 : decode cX6_bySets 146 = .ok (.goto (-81), 3) := by decide +kernel
theorem dX6_bySets_149 : decode cX6_bySets 149 = .ok (.iinc 1 1, 3) := by decide +kernel
theorem dX6_bySets_152 : decode cX6_bySets 152 = .ok (.goto (-143), 3) := by decide +kernel
theorem dX6_bySets_155 : decode cX6_bySets 155 = .ok (.aload_n 0, 1) := by decide +kernel
theorem dX6_bySets_156 : decode cX6_bySets 156 = .ok (.getfield 21, 3) := by decide +kernel
theorem dX6_bySets_159 : decode cX6_bySets 159 = .ok (.iconst 1, 1) := by decide +kernel
theorem dX6_bySets_160 : decode cX6_bySets 160 = .ok (.aload_n 0, 1) := by decide +kernel
theorem dX6_bySets_161 : decode cX6_bySets 161 = .ok (.getfield 7, 3) := by decide +kernel
theorem dX6_bySets_164 : decode cX6_bySets 164 = .ok (.bipush 20, 2) := by decide +kernel
theorem dX6_bySets_166 : decode cX6_bySets 166 = .ok (.iaload, 1) := by decide +kernel
theorem dX6_bySets_167 : decode cX6_bySets 167 = .ok (.ishl, 1) := by decide +kernel
theorem dX6_bySets_168 : decode cX6_bySets 168 = .ok (.iconst 1, 1) := by decide +kernel
theorem dX6_bySets_169 : decode cX6_bySets 169 = .ok (.isub, 1) := by decide +kernel
theorem dX6_bySets_170 : decode cX6_bySets 170 = .ok (.iaload, 1) := by decide +kernel
theorem dX6_bySets_171 : decode cX6_bySets 171 = .ok (.ireturn, 1) := by decide +kernel
theorem dX6_costOf_0 : decode cX6_costOf 0 = .ok (.iconst 0, 1) := by decide +kernel
theorem dX6_costOf_1 : decode cX6_costOf 1 = .ok (.istore_n 2, 1) := by decide +kernel
theorem dX6_costOf_2 : decode cX6_costOf 2 = .ok (.iconst 0, 1) := by decide +kernel
theorem dX6_costOf_3 : decode cX6_costOf 3 = .ok (.istore_n 3, 1) := by decide +kernel
theorem dX6_costOf_4 : decode cX6_costOf 4 = .ok (.iload_n 3, 1) := by decide +kernel
theorem dX6_costOf_5 : decode cX6_costOf 5 = .ok (.iload_n 1, 1) := by decide +kernel
theorem dX6_costOf_6 : decode cX6_costOf 6 = .ok (.if_icmp .ge 55, 3) := by decide +kernel
theorem dX6_costOf_9 : decode cX6_costOf 9 = .ok (.iload_n 2, 1) := by decide +kernel
theorem dX6_costOf_10 : decode cX6_costOf 10 = .ok (.aload_n 0, 1) := by decide +kernel
theorem dX6_costOf_11 : decode cX6_costOf 11 = .ok (.getfield 24, 3) := by decide +kernel
theorem dX6_costOf_14 : decode cX6_costOf 14 = .ok (.iload_n 3, 1) := by decide +kernel
theorem dX6_costOf_15 : decode cX6_costOf 15 = .ok (.iaload, 1) := by decide +kernel
theorem dX6_costOf_16 : decode cX6_costOf 16 = .ok (.iload_n 3, 1) := by decide +kernel
theorem dX6_costOf_17 : decode cX6_costOf 17 = .ok (.if_icmp .ne 11, 3) := by decide +kernel
theorem dX6_costOf_20 : decode cX6_costOf 20 = .ok (.aload_n 0, 1) := by decide +kernel
theorem dX6_costOf_21 : decode cX6_costOf 21 = .ok (.iload_n 3, 1) := by decide +kernel
theorem dX6_costOf_22 : decode cX6_costOf 22 = .ok (.invokevirtual 86, 3) := by decide +kernel
theorem dX6_costOf_25 : decode cX6_costOf 25 = .ok (.goto 28, 3) := by decide +kernel
theorem dX6_costOf_28 : decode cX6_costOf 28 = .ok (.aload_n 0, 1) := by decide +kernel
theorem dX6_costOf_29 : decode cX6_costOf 29 = .ok (.getfield 24, 3) := by decide +kernel
theorem dX6_costOf_32 : decode cX6_costOf 32 = .ok (.iload_n 3, 1) := by decide +kernel
theorem dX6_costOf_33 : decode cX6_costOf 33 = .ok (.iaload, 1) := by decide +kernel
theorem dX6_costOf_34 : decode cX6_costOf 34 = .ok (.iload_n 3, 1) := by decide +kernel
theorem dX6_costOf_35 : decode cX6_costOf 35 = .ok (.if_icmp .le 17, 3) := by decide +kernel
theorem dX6_costOf_38 : decode cX6_costOf 38 = .ok (.aload_n 0, 1) := by decide +kernel
theorem dX6_costOf_39 : decode cX6_costOf 39 = .ok (.iload_n 3, 1) := by decide +kernel
theorem dX6_costOf_40 : decode cX6_costOf 40 = .ok (.aload_n 0, 1) := by decide +kernel
theorem dX6_costOf_41 : decode cX6_costOf 41 = .ok (.getfield 24, 3) := by decide +kernel
theorem dX6_costOf_44 : decode cX6_costOf 44 = .ok (.iload_n 3, 1) := by decide +kernel
theorem dX6_costOf_45 : decode cX6_costOf 45 = .ok (.iaload, 1) := by decide +kernel
theorem dX6_costOf_46 : decode cX6_costOf 46 = .ok (.invokevirtual 89, 3) := by decide +kernel
theorem dX6_costOf_49 : decode cX6_costOf 49 = .ok (.goto 4, 3) := by decide +kernel
theorem dX6_costOf_52 : decode cX6_costOf 52 = .ok (.iconst 0, 1) := by decide +kernel
theorem dX6_costOf_53 : decode cX6_costOf 53 = .ok (.iadd, 1) := by decide +kernel
theorem dX6_costOf_54 : decode cX6_costOf 54 = .ok (.istore_n 2, 1) := by decide +kernel
theorem dX6_costOf_55 : decode cX6_costOf 55 = .ok (.iinc 3 1, 3) := by decide +kernel
theorem dX6_costOf_58 : decode cX6_costOf 58 = .ok (.goto (-54), 3) := by decide +kernel
theorem dX6_costOf_61 : decode cX6_costOf 61 = .ok (.iload_n 2, 1) := by decide +kernel
theorem dX6_costOf_62 : decode cX6_costOf 62 = .ok (.ireturn, 1) := by decide +kernel
theorem dX6_isFree_0 : decode cX6_isFree 0 = .ok (.iconst 1, 1) := by decide +kernel
theorem dX6_isFree_1 : decode cX6_isFree 1 = .ok (.istore_n 3, 1) := by decide +kernel
theorem dX6_isFree_2 : decode cX6_isFree 2 = .ok (.iconst 0, 1) := by decide +kernel
theorem dX6_isFree_3 : decode cX6_isFree 3 = .ok (.istore 4, 2) := by decide +kernel
theorem dX6_isFree_5 : decode cX6_isFree 5 = .ok (.iload 4, 2) := by decide +kernel
theorem dX6_isFree_7 : decode cX6_isFree 7 = .ok (.iload_n 2, 1) := by decide +kernel
theorem dX6_isFree_8 : decode cX6_isFree 8 = .ok (.if_icmp .ge 30, 3) := by decide +kernel
theorem dX6_isFree_11 : decode cX6_isFree 11 = .ok (.iload_n 3, 1) := by decide +kernel
theorem dX6_isFree_12 : decode cX6_isFree 12 = .ok (.ifCond .eq 18, 3) := by decide +kernel
theorem dX6_isFree_15 : decode cX6_isFree 15 = .ok (.aload_n 0, 1) := by decide +kernel
theorem dX6_isFree_16 : decode cX6_isFree 16 = .ok (.getfield 24, 3) := by decide +kernel
theorem dX6_isFree_19 : decode cX6_isFree 19 = .ok (.iload 4, 2) := by decide +kernel
theorem dX6_isFree_21 : decode cX6_isFree 21 = .ok (.iaload, 1) := by decide +kernel
theorem dX6_isFree_22 : decode cX6_isFree 22 = .ok (.iload_n 1, 1) := by decide +kernel
theorem dX6_isFree_23 : decode cX6_isFree 23 = .ok (.if_icmp .eq 7, 3) := by decide +kernel
theorem dX6_isFree_26 : decode cX6_isFree 26 = .ok (.iconst 1, 1) := by decide +kernel
theorem dX6_isFree_27 : decode cX6_isFree 27 = .ok (.goto 4, 3) := by decide +kernel
theorem dX6_isFree_30 : decode cX6_isFree 30 = .ok (.iconst 0, 1) := by decide +kernel
theorem dX6_isFree_31 : decode cX6_isFree 31 = .ok (.istore_n 3, 1) := by decide +kernel
theorem dX6_isFree_32 : decode cX6_isFree 32 = .ok (.iinc 4 1, 3) := by decide +kernel
theorem dX6_isFree_35 : decode cX6_isFree 35 = .ok (.goto (-30), 3) := by decide +kernel
theorem dX6_isFree_38 : decode cX6_isFree 38 = .ok (.iload_n 3, 1) := by decide +kernel
theorem dX6_isFree_39 : decode cX6_isFree 39 = .ok (.ireturn, 1) := by decide +kernel
theorem dX6_canHave_0 : decode cX6_canHave 0 = .ok (.iload_n 2, 1) := by decide +kernel
theorem dX6_canHave_1 : decode cX6_canHave 1 = .ok (.iload_n 1, 1) := by decide +kernel
theorem dX6_canHave_2 : decode cX6_canHave 2 = .ok (.if_icmp .ge 19, 3) := by decide +kernel
theorem dX6_canHave_5 : decode cX6_canHave 5 = .ok (.aload_n 0, 1) := by decide +kernel
theorem dX6_canHave_6 : decode cX6_canHave 6 = .ok (.getfield 24, 3) := by decide +kernel
theorem dX6_canHave_9 : decode cX6_canHave 9 = .ok (.iload_n 2, 1) := by decide +kernel
theorem dX6_canHave_10 : decode cX6_canHave 10 = .ok (.iaload, 1) := by decide +kernel
theorem dX6_canHave_11 : decode cX6_canHave 11 = .ok (.iload_n 1, 1) := by decide +kernel
theorem dX6_canHave_12 : decode cX6_canHave 12 = .ok (.if_icmp .ne 7, 3) := by decide +kernel
theorem dX6_canHave_15 : decode cX6_canHave 15 = .ok (.iconst 1, 1) := by decide +kernel
theorem dX6_canHave_16 : decode cX6_canHave 16 = .ok (.goto 4, 3) := by decide +kernel
theorem dX6_canHave_19 : decode cX6_canHave 19 = .ok (.iconst 0, 1) := by decide +kernel
theorem dX6_canHave_20 : decode cX6_canHave 20 = .ok (.ireturn, 1) := by decide +kernel
theorem dX6_canHave_21 : decode cX6_canHave 21 = .ok (.aload_n 0, 1) := by decide +kernel
theorem dX6_canHave_22 : decode cX6_canHave 22 = .ok (.iload_n 1, 1) := by decide +kernel
theorem dX6_canHave_23 : decode cX6_canHave 23 = .ok (.iload_n 1, 1) := by decide +kernel
theorem dX6_canHave_24 : decode cX6_canHave 24 = .ok (.invokevirtual 92, 3) := by decide +kernel
theorem dX6_canHave_27 : decode cX6_canHave 27 = .ok (.ifCond .eq 31, 3) := by decide +kernel
theorem dX6_canHave_30 : decode cX6_canHave 30 = .ok (.iload_n 2, 1) := by decide +kernel
theorem dX6_canHave_31 : decode cX6_canHave 31 = .ok (.iload_n 1, 1) := by decide +kernel
theorem dX6_canHave_32 : decode cX6_canHave 32 = .ok (.if_icmp .eq 22, 3) := by decide +kernel
theorem dX6_canHave_35 : decode cX6_canHave 35 = .ok (.aload_n 0, 1) := by decide +kernel
theorem dX6_canHave_36 : decode cX6_canHave 36 = .ok (.iload_n 2, 1) := by decide +kernel
theorem dX6_canHave_37 : decode cX6_canHave 37 = .ok (.iload_n 1, 1) := by decide +kernel
theorem dX6_canHave_38 : decode cX6_canHave 38 = .ok (.invokevirtual 92, 3) := by decide +kernel
theorem dX6_canHave_41 : decode cX6_canHave 41 = .ok (.ifCond .eq 17, 3) := by decide +kernel
theorem dX6_canHave_44 : decode cX6_canHave 44 = .ok (.aload_n 0, 1) := by decide +kernel
theorem dX6_canHave_45 : decode cX6_canHave 45 = .ok (.iload_n 1, 1) := by decide +kernel
theorem dX6_canHave_46 : decode cX6_canHave 46 = .ok (.iload_n 2, 1) := by decide +kernel
theorem dX6_canHave_47 : decode cX6_canHave 47 = .ok (.invokevirtual 89, 3) := by decide +kernel
theorem dX6_canHave_50 : decode cX6_canHave 50 = .ok (.iconst (-1), 1) := by decide +kernel
theorem dX6_canHave_51 : decode cX6_canHave 51 = .ok (.if_icmp .eq 7, 3) := by decide +kernel
theorem dX6_canHave_54 : decode cX6_canHave 54 = .ok (.iconst 1, 1) := by decide +kernel
theorem dX6_canHave_55 : decode cX6_canHave 55 = .ok (.goto 4, 3) := by decide +kernel
theorem dX6_canHave_58 : decode cX6_canHave 58 = .ok (.iconst 0, 1) := by decide +kernel
theorem dX6_canHave_59 : decode cX6_canHave 59 = .ok (.ireturn, 1) := by decide +kernel
theorem dX6_byTrying_0 : decode cX6_byTrying 0 = .ok (.aload_n 0, 1) := by decide +kernel
theorem dX6_byTrying_1 : decode cX6_byTrying 1 = .ok (.getfield 7, 3) := by decide +kernel
theorem dX6_byTrying_4 : decode cX6_byTrying 4 = .ok (.bipush 20, 2) := by decide +kernel
theorem dX6_byTrying_6 : decode cX6_byTrying 6 = .ok (.iaload, 1) := by decide +kernel
theorem dX6_byTrying_7 : decode cX6_byTrying 7 = .ok (.istore_n 1, 1) := by decide +kernel
theorem dX6_byTrying_8 : decode cX6_byTrying 8 = .ok (.iconst (-1), 1) := by decide +kernel
theorem dX6_byTrying_9 : decode cX6_byTrying 9 = .ok (.istore_n 2, 1) := by decide +kernel
theorem dX6_byTrying_10 : decode cX6_byTrying 10 = .ok (.iconst 0, 1) := by decide +kernel
theorem dX6_byTrying_11 : decode cX6_byTrying 11 = .ok (.istore_n 3, 1) := by decide +kernel
theorem dX6_byTrying_12 : decode cX6_byTrying 12 = .ok (.iconst 0, 1) := by decide +kernel
theorem dX6_byTrying_13 : decode cX6_byTrying 13 = .ok (.istore 4, 2) := by decide +kernel
theorem dX6_byTrying_15 : decode cX6_byTrying 15 = .ok (.iload 4, 2) := by decide +kernel
theorem dX6_byTrying_17 : decode cX6_byTrying 17 = .ok (.iload_n 1, 1) := by decide +kernel
theorem dX6_byTrying_18 : decode cX6_byTrying 18 = .ok (.if_icmp .ge 17, 3) := by decide +kernel
theorem dX6_byTrying_21 : decode cX6_byTrying 21 = .ok (.aload_n 0, 1) := by decide +kernel
theorem dX6_byTrying_22 : decode cX6_byTrying 22 = .ok (.getfield 24, 3) := by decide +kernel
theorem dX6_byTrying_25 : decode cX6_byTrying 25 = .ok (.iload 4, 2) := by decide +kernel
theorem dX6_byTrying_27 : decode cX6_byTrying 27 = .ok (.iconst (-1), 1) := by decide +kernel
theorem dX6_byTrying_28 : decode cX6_byTrying 28 = .ok (.iastore, 1) := by decide +kernel
theorem dX6_byTrying_29 : decode cX6_byTrying 29 = .ok (.iinc 4 1, 3) := by decide +kernel
theorem dX6_byTrying_32 : decode cX6_byTrying 32 = .ok (.goto (-17), 3) := by decide +kernel
theorem dX6_byTrying_35 : decode cX6_byTrying 35 = .ok (.iload_n 3, 1) := by decide +kernel
theorem dX6_byTrying_36 : decode cX6_byTrying 36 = .ok (.ifCond .lt 115, 3) := by decide +kernel
theorem dX6_byTrying_39 : decode cX6_byTrying 39 = .ok (.iload_n 3, 1) := by decide +kernel
theorem dX6_byTrying_40 : decode cX6_byTrying 40 = .ok (.iload_n 1, 1) := by decide +kernel
theorem dX6_byTrying_41 : decode cX6_byTrying 41 = .ok (.if_icmp .ne 34, 3) := by decide +kernel
theorem dX6_byTrying_44 : decode cX6_byTrying 44 = .ok (.aload_n 0, 1) := by decide +kernel
theorem dX6_byTrying_45 : decode cX6_byTrying 45 = .ok (.iload_n 1, 1) := by decide +kernel
theorem dX6_byTrying_46 : decode cX6_byTrying 46 = .ok (.invokevirtual 95, 3) := by decide +kernel
theorem dX6_byTrying_49 : decode cX6_byTrying 49 = .ok (.istore 4, 2) := by decide +kernel
theorem dX6_byTrying_51 : decode cX6_byTrying 51 = .ok (.iload_n 2, 1) := by decide +kernel
theorem dX6_byTrying_52 : decode cX6_byTrying 52 = .ok (.iconst (-1), 1) := by decide +kernel
theorem dX6_byTrying_53 : decode cX6_byTrying 53 = .ok (.if_icmp .eq 9, 3) := by decide +kernel
theorem dX6_byTrying_56 : decode cX6_byTrying 56 = .ok (.iload 4, 2) := by decide +kernel
theorem dX6_byTrying_58 : decode cX6_byTrying 58 = .ok (.iload_n 2, 1) := by decide +kernel
theorem dX6_byTrying_59 : decode cX6_byTrying 59 = .ok (.if_icmp .ge 8, 3) := by decide +kernel
theorem dX6_byTrying_62 : decode cX6_byTrying 62 = .ok (.iload 4, 2) := by decide +kernel
theorem dX6_byTrying_64 : decode cX6_byTrying 64 = .ok (.goto 4, 3) := by decide +kernel
theorem dX6_byTrying_67 : decode cX6_byTrying 67 = .ok (.iload_n 2, 1) := by decide +kernel
theorem dX6_byTrying_68 : decode cX6_byTrying 68 = .ok (.istore_n 2, 1) := by decide +kernel
theorem dX6_byTrying_69 : decode cX6_byTrying 69 = .ok (.iinc 3 (-1), 3) := by decide +kernel
theorem dX6_byTrying_72 : decode cX6_byTrying 72 = .ok (.goto (-37), 3) := by decide +kernel
theorem dX6_byTrying_75 : decode cX6_byTrying 75 = .ok (.aload_n 0, 1) := by decide +kernel
theorem dX6_byTrying_76 : decode cX6_byTrying 76 = .ok (.getfield 24, 3) := by decide +kernel
theorem dX6_byTrying_79 : decode cX6_byTrying 79 = .ok (.iload_n 3, 1) := by decide +kernel
theorem dX6_byTrying_80 : decode cX6_byTrying 80 = .ok (.dup2, 1) := by decide +kernel
theorem dX6_byTrying_81 : decode cX6_byTrying 81 = .ok (.iaload, 1) := by decide +kernel
theorem dX6_byTrying_82 : decode cX6_byTrying 82 = .ok (.iconst 1, 1) := by decide +kernel
theorem dX6_byTrying_83 : decode cX6_byTrying 83 = .ok (.iadd, 1) := by decide +kernel
theorem dX6_byTrying_84 : decode cX6_byTrying 84 = .ok (.iastore, 1) := by decide +kernel
theorem dX6_byTrying_85 : decode cX6_byTrying 85 = .ok (.aload_n 0, 1) := by decide +kernel
theorem dX6_byTrying_86 : decode cX6_byTrying 86 = .ok (.getfield 24, 3) := by decide +kernel
theorem dX6_byTrying_89 : decode cX6_byTrying 89 = .ok (.iload_n 3, 1) := by decide +kernel
theorem dX6_byTrying_90 : decode cX6_byTrying 90 = .ok (.iaload, 1) := by decide +kernel
theorem dX6_byTrying_91 : decode cX6_byTrying 91 = .ok (.iload_n 1, 1) := by decide +kernel
theorem dX6_byTrying_92 : decode cX6_byTrying 92 = .ok (.if_icmp .ge 30, 3) := by decide +kernel
theorem dX6_byTrying_95 : decode cX6_byTrying 95 = .ok (.aload_n 0, 1) := by decide +kernel
theorem dX6_byTrying_96 : decode cX6_byTrying 96 = .ok (.iload_n 3, 1) := by decide +kernel
theorem dX6_byTrying_97 : decode cX6_byTrying 97 = .ok (.aload_n 0, 1) := by decide +kernel
theorem dX6_byTrying_98 : decode cX6_byTrying 98 = .ok (.getfield 24, 3) := by decide +kernel
theorem dX6_byTrying_101 : decode cX6_byTrying 101 = .ok (.iload_n 3, 1) := by decide +kernel
theorem dX6_byTrying_102 : decode cX6_byTrying 102 = .ok (.iaload, 1) := by decide +kernel
theorem dX6_byTrying_103 : decode cX6_byTrying 103 = .ok (.invokevirtual 98, 3) := by decide +kernel
theorem dX6_byTrying_106 : decode cX6_byTrying 106 = .ok (.ifCond .ne 16, 3) := by decide +kernel
theorem dX6_byTrying_109 : decode cX6_byTrying 109 = .ok (.aload_n 0, 1) := by decide +kernel
theorem dX6_byTrying_110 : decode cX6_byTrying 110 = .ok (.getfield 24, 3) := by decide +kernel
theorem dX6_byTrying_113 : decode cX6_byTrying 113 = .ok (.iload_n 3, 1) := by decide +kernel
theorem dX6_byTrying_114 : decode cX6_byTrying 114 = .ok (.dup2, 1) := by decide +kernel
theorem dX6_byTrying_115 : decode cX6_byTrying 115 = .ok (.iaload, 1) := by decide +kernel
theorem dX6_byTrying_116 : decode cX6_byTrying 116 = .ok (.iconst 1, 1) := by decide +kernel
theorem dX6_byTrying_117 : decode cX6_byTrying 117 = .ok (.iadd, 1) := by decide +kernel
theorem dX6_byTrying_118 : decode cX6_byTrying 118 = .ok (.iastore, 1) := by decide +kernel
theorem dX6_byTrying_119 : decode cX6_byTrying 119 = .ok (.goto (-34), 3) := by decide +kernel
theorem dX6_byTrying_122 : decode cX6_byTrying 122 = .ok (.aload_n 0, 1) := by decide +kernel
theorem dX6_byTrying_123 : decode cX6_byTrying 123 = .ok (.getfield 24, 3) := by decide +kernel
theorem dX6_byTrying_126 : decode cX6_byTrying 126 = .ok (.iload_n 3, 1) := by decide +kernel
theorem dX6_byTrying_127 : decode cX6_byTrying 127 = .ok (.iaload, 1) := by decide +kernel
theorem dX6_byTrying_128 : decode cX6_byTrying 128 = .ok (.iload_n 1, 1) := by decide +kernel
theorem dX6_byTrying_129 : decode cX6_byTrying 129 = .ok (.if_icmp .ne 16, 3) := by decide +kernel
theorem dX6_byTrying_132 : decode cX6_byTrying 132 = .ok (.aload_n 0, 1) := by decide +kernel
theorem dX6_byTrying_133 : decode cX6_byTrying 133 = .ok (.getfield 24, 3) := by decide +kernel
theorem dX6_byTrying_136 : decode cX6_byTrying 136 = .ok (.iload_n 3, 1) := by decide +kernel
theorem dX6_byTrying_137 : decode cX6_byTrying 137 = .ok (.iconst (-1), 1) := by decide +kernel
theorem dX6_byTrying_138 : decode cX6_byTrying 138 = .ok (.iastore, 1) := by decide +kernel
theorem dX6_byTrying_139 : decode cX6_byTrying 139 = .ok (.iinc 3 (-1), 3) := by decide +kernel
theorem dX6_byTrying_142 : decode cX6_byTrying 142 = .ok (.goto (-107), 3) := by decide +kernel
theorem dX6_byTrying_145 : decode cX6_byTrying 145 = .ok (.iinc 3 1, 3) := by decide +kernel
theorem dX6_byTrying_148 : decode cX6_byTrying 148 = .ok (.goto (-113), 3) := by decide +kernel
theorem dX6_byTrying_151 : decode cX6_byTrying 151 = .ok (.iload_n 2, 1) := by decide +kernel
theorem dX6_byTrying_152 : decode cX6_byTrying 152 = .ok (.ireturn, 1) := by decide +kernel
theorem dX6_least_0 : decode cX6_least 0 = .ok (.iload_n 1, 1) := by decide +kernel
theorem dX6_least_1 : decode cX6_least 1 = .ok (.ifCond .ne 10, 3) := by decide +kernel
theorem dX6_least_4 : decode cX6_least 4 = .ok (.aload_n 0, 1) := by decide +kernel
theorem dX6_least_5 : decode cX6_least 5 = .ok (.invokevirtual 101, 3) := by decide +kernel
theorem dX6_least_8 : decode cX6_least 8 = .ok (.goto 7, 3) := by decide +kernel
theorem dX6_least_11 : decode cX6_least 11 = .ok (.aload_n 0, 1) := by decide +kernel
theorem dX6_least_12 : decode cX6_least 12 = .ok (.invokevirtual 105, 3) := by decide +kernel
theorem dX6_least_15 : decode cX6_least 15 = .ok (.ireturn, 1) := by decide +kernel
theorem dX6_comes_0 : decode cX6_comes 0 = .ok (.aload_n 0, 1) := by decide +kernel
theorem dX6_comes_1 : decode cX6_comes 1 = .ok (.getfield 7, 3) := by decide +kernel
theorem dX6_comes_4 : decode cX6_comes 4 = .ok (.bipush 20, 2) := by decide +kernel
theorem dX6_comes_6 : decode cX6_comes 6 = .ok (.iaload, 1) := by decide +kernel
theorem dX6_comes_7 : decode cX6_comes 7 = .ok (.bipush 7, 2) := by decide +kernel
theorem dX6_comes_9 : decode cX6_comes 9 = .ok (.if_icmp .ne 16, 3) := by decide +kernel
theorem dX6_comes_12 : decode cX6_comes 12 = .ok (.aload_n 0, 1) := by decide +kernel
theorem dX6_comes_13 : decode cX6_comes 13 = .ok (.getfield 7, 3) := by decide +kernel
theorem dX6_comes_16 : decode cX6_comes 16 = .ok (.bipush 74, 2) := by decide +kernel
theorem dX6_comes_18 : decode cX6_comes 18 = .ok (.dup2, 1) := by decide +kernel
theorem dX6_comes_19 : decode cX6_comes 19 = .ok (.iaload, 1) := by decide +kernel
theorem dX6_comes_20 : decode cX6_comes 20 = .ok (.iconst 1, 1) := by decide +kernel
theorem dX6_comes_21 : decode cX6_comes 21 = .ok (.iadd, 1) := by decide +kernel
theorem dX6_comes_22 : decode cX6_comes 22 = .ok (.iastore, 1) := by decide +kernel
theorem dX6_comes_23 : decode cX6_comes 23 = .ok (.iconst (-1), 1) := by decide +kernel
theorem dX6_comes_24 : decode cX6_comes 24 = .ok (.ireturn, 1) := by decide +kernel
theorem dX6_comes_25 : decode cX6_comes 25 = .ok (.aload_n 0, 1) := by decide +kernel
theorem dX6_comes_26 : decode cX6_comes 26 = .ok (.getfield 7, 3) := by decide +kernel
theorem dX6_comes_29 : decode cX6_comes 29 = .ok (.bipush 20, 2) := by decide +kernel
theorem dX6_comes_31 : decode cX6_comes 31 = .ok (.iaload, 1) := by decide +kernel
theorem dX6_comes_32 : decode cX6_comes 32 = .ok (.invokestatic 69, 3) := by decide +kernel
theorem dX6_comes_35 : decode cX6_comes 35 = .ok (.istore 7, 2) := by decide +kernel
theorem dX6_comes_37 : decode cX6_comes 37 = .ok (.aload_n 0, 1) := by decide +kernel
theorem dX6_comes_38 : decode cX6_comes 38 = .ok (.iload 7, 2) := by decide +kernel
theorem dX6_comes_40 : decode cX6_comes 40 = .ok (.iload_n 1, 1) := by decide +kernel
theorem dX6_comes_41 : decode cX6_comes 41 = .ok (.iload_n 2, 1) := by decide +kernel
theorem dX6_comes_42 : decode cX6_comes 42 = .ok (.iload_n 3, 1) := by decide +kernel
theorem dX6_comes_43 : decode cX6_comes 43 = .ok (.invokevirtual 72, 3) := by decide +kernel
theorem dX6_comes_46 : decode cX6_comes 46 = .ok (.aload_n 0, 1) := by decide +kernel
theorem dX6_comes_47 : decode cX6_comes 47 = .ok (.getfield 7, 3) := by decide +kernel
theorem dX6_comes_50 : decode cX6_comes 50 = .ok (.iload 7, 2) := by decide +kernel
theorem dX6_comes_52 : decode cX6_comes 52 = .ok (.iconst 3, 1) := by decide +kernel
theorem dX6_comes_53 : decode cX6_comes 53 = .ok (.iadd, 1) := by decide +kernel
theorem dX6_comes_54 : decode cX6_comes 54 = .ok (.iload 4, 2) := by decide +kernel
theorem dX6_comes_56 : decode cX6_comes 56 = .ok (.iastore, 1) := by decide +kernel
theorem dX6_comes_57 : decode cX6_comes 57 = .ok (.aload_n 0, 1) := by decide +kernel
theorem dX6_comes_58 : decode cX6_comes 58 = .ok (.getfield 7, 3) := by decide +kernel
theorem dX6_comes_61 : decode cX6_comes 61 = .ok (.iload 7, 2) := by decide +kernel
theorem dX6_comes_63 : decode cX6_comes 63 = .ok (.iconst 4, 1) := by decide +kernel
theorem dX6_comes_64 : decode cX6_comes 64 = .ok (.iadd, 1) := by decide +kernel
theorem dX6_comes_65 : decode cX6_comes 65 = .ok (.iload 5, 2) := by decide +kernel
theorem dX6_comes_67 : decode cX6_comes 67 = .ok (.iastore, 1) := by decide +kernel
theorem dX6_comes_68 : decode cX6_comes 68 = .ok (.aload_n 0, 1) := by decide +kernel
theorem dX6_comes_69 : decode cX6_comes 69 = .ok (.getfield 7, 3) := by decide +kernel
theorem dX6_comes_72 : decode cX6_comes 72 = .ok (.iload 7, 2) := by decide +kernel
theorem dX6_comes_74 : decode cX6_comes 74 = .ok (.iconst 5, 1) := by decide +kernel
theorem dX6_comes_75 : decode cX6_comes 75 = .ok (.iadd, 1) := by decide +kernel
theorem dX6_comes_76 : decode cX6_comes 76 = .ok (.iconst 0, 1) := by decide +kernel
theorem dX6_comes_77 : decode cX6_comes 77 = .ok (.iastore, 1) := by decide +kernel
theorem dX6_comes_78 : decode cX6_comes 78 = .ok (.aload_n 0, 1) := by decide +kernel
theorem dX6_comes_79 : decode cX6_comes 79 = .ok (.getfield 7, 3) := by decide +kernel
theorem dX6_comes_82 : decode cX6_comes 82 = .ok (.iload 7, 2) := by decide +kernel
theorem dX6_comes_84 : decode cX6_comes 84 = .ok (.bipush 6, 2) := by decide +kernel
theorem dX6_comes_86 : decode cX6_comes 86 = .ok (.iadd, 1) := by decide +kernel
theorem dX6_comes_87 : decode cX6_comes 87 = .ok (.iload 6, 2) := by decide +kernel
theorem dX6_comes_89 : decode cX6_comes 89 = .ok (.iastore, 1) := by decide +kernel
theorem dX6_comes_90 : decode cX6_comes 90 = .ok (.aload_n 0, 1) := by decide +kernel
theorem dX6_comes_91 : decode cX6_comes 91 = .ok (.getfield 7, 3) := by decide +kernel
theorem dX6_comes_94 : decode cX6_comes 94 = .ok (.bipush 20, 2) := by decide +kernel
theorem dX6_comes_96 : decode cX6_comes 96 = .ok (.dup2, 1) := by decide +kernel
theorem dX6_comes_97 : decode cX6_comes 97 = .ok (.iaload, 1) := by decide +kernel
theorem dX6_comes_98 : decode cX6_comes 98 = .ok (.iconst 1, 1) := by decide +kernel
theorem dX6_comes_99 : decode cX6_comes 99 = .ok (.iadd, 1) := by decide +kernel
theorem dX6_comes_100 : decode cX6_comes 100 = .ok (.iastore, 1) := by decide +kernel
theorem dX6_comes_101 : decode cX6_comes 101 = .ok (.aload_n 0, 1) := by decide +kernel
theorem dX6_comes_102 : decode cX6_comes 102 = .ok (.getfield 7, 3) := by decide +kernel
theorem dX6_comes_105 : decode cX6_comes 105 = .ok (.bipush 20, 2) := by decide +kernel
theorem dX6_comes_107 : decode cX6_comes 107 = .ok (.iaload, 1) := by decide +kernel
theorem dX6_comes_108 : decode cX6_comes 108 = .ok (.iconst 1, 1) := by decide +kernel
theorem dX6_comes_109 : decode cX6_comes 109 = .ok (.isub, 1) := by decide +kernel
theorem dX6_comes_110 : decode cX6_comes 110 = .ok (.ireturn, 1) := by decide +kernel
theorem dX6_isGone_0 : decode cX6_isGone 0 = .ok (.aload_n 0, 1) := by decide +kernel
theorem dX6_isGone_1 : decode cX6_isGone 1 = .ok (.getfield 7, 3) := by decide +kernel
theorem dX6_isGone_4 : decode cX6_isGone 4 = .ok (.bipush 20, 2) := by decide +kernel
theorem dX6_isGone_6 : decode cX6_isGone 6 = .ok (.dup2, 1) := by decide +kernel
theorem dX6_isGone_7 : decode cX6_isGone 7 = .ok (.iaload, 1) := by decide +kernel
theorem dX6_isGone_8 : decode cX6_isGone 8 = .ok (.iconst 1, 1) := by decide +kernel
theorem dX6_isGone_9 : decode cX6_isGone 9 = .ok (.isub, 1) := by decide +kernel
theorem dX6_isGone_10 : decode cX6_isGone 10 = .ok (.iastore, 1) := by decide +kernel
theorem dX6_isGone_11 : decode cX6_isGone 11 = .ok (.iload_n 1, 1) := by decide +kernel
theorem dX6_isGone_12 : decode cX6_isGone 12 = .ok (.invokestatic 69, 3) := by decide +kernel
theorem dX6_isGone_15 : decode cX6_isGone 15 = .ok (.istore_n 2, 1) := by decide +kernel
theorem dX6_isGone_16 : decode cX6_isGone 16 = .ok (.iload_n 2, 1) := by decide +kernel
theorem dX6_isGone_17 : decode cX6_isGone 17 = .ok (.aload_n 0, 1) := by decide +kernel
theorem dX6_isGone_18 : decode cX6_isGone 18 = .ok (.getfield 7, 3) := by decide +kernel
theorem dX6_isGone_21 : decode cX6_isGone 21 = .ok (.bipush 20, 2) := by decide +kernel
theorem dX6_isGone_23 : decode cX6_isGone 23 = .ok (.iaload, 1) := by decide +kernel
theorem dX6_isGone_24 : decode cX6_isGone 24 = .ok (.invokestatic 69, 3) := by decide +kernel
theorem dX6_isGone_27 : decode cX6_isGone 27 = .ok (.if_icmp .ge 24, 3) := by decide +kernel
theorem dX6_isGone_30 : decode cX6_isGone 30 = .ok (.aload_n 0, 1) := by decide +kernel
theorem dX6_isGone_31 : decode cX6_isGone 31 = .ok (.getfield 7, 3) := by decide +kernel
theorem dX6_isGone_34 : decode cX6_isGone 34 = .ok (.iload_n 2, 1) := by decide +kernel
theorem dX6_isGone_35 : decode cX6_isGone 35 = .ok (.aload_n 0, 1) := by decide +kernel
theorem dX6_isGone_36 : decode cX6_isGone 36 = .ok (.getfield 7, 3) := by decide +kernel
theorem dX6_isGone_39 : decode cX6_isGone 39 = .ok (.iload_n 2, 1) := by decide +kernel
theorem dX6_isGone_40 : decode cX6_isGone 40 = .ok (.bipush 7, 2) := by decide +kernel
theorem dX6_isGone_42 : decode cX6_isGone 42 = .ok (.iadd, 1) := by decide +kernel
theorem dX6_isGone_43 : decode cX6_isGone 43 = .ok (.iaload, 1) := by decide +kernel
theorem dX6_isGone_44 : decode cX6_isGone 44 = .ok (.iastore, 1) := by decide +kernel
theorem dX6_isGone_45 : decode cX6_isGone 45 = .ok (.iinc 2 1, 3) := by decide +kernel
theorem dX6_isGone_48 : decode cX6_isGone 48 = .ok (.goto (-32), 3) := by decide +kernel
theorem dX6_isGone_51 : decode cX6_isGone 51 = .ok (.return_, 1) := by decide +kernel
theorem dX6_isSide_0 : decode cX6_isSide 0 = .ok (.iload_n 0, 1) := by decide +kernel
theorem dX6_isSide_1 : decode cX6_isSide 1 = .ok (.iconst 1, 1) := by decide +kernel
theorem dX6_isSide_2 : decode cX6_isSide 2 = .ok (.bipush 60, 2) := by decide +kernel
theorem dX6_isSide_4 : decode cX6_isSide 4 = .ok (.invokestatic 41, 3) := by decide +kernel
theorem dX6_isSide_7 : decode cX6_isSide 7 = .ok (.ireturn, 1) := by decide +kernel
theorem dX6_bring_0 : decode cX6_bring 0 = .ok (.aload_n 0, 1) := by decide +kernel
theorem dX6_bring_1 : decode cX6_bring 1 = .ok (.iload_n 1, 1) := by decide +kernel
theorem dX6_bring_2 : decode cX6_bring 2 = .ok (.invokestatic 108, 3) := by decide +kernel
theorem dX6_bring_5 : decode cX6_bring 5 = .ok (.ifCond .eq 42, 3) := by decide +kernel
theorem dX6_bring_8 : decode cX6_bring 8 = .ok (.iload_n 2, 1) := by decide +kernel
theorem dX6_bring_9 : decode cX6_bring 9 = .ok (.invokestatic 108, 3) := by decide +kernel
theorem dX6_bring_12 : decode cX6_bring 12 = .ok (.ifCond .eq 35, 3) := by decide +kernel
theorem dX6_bring_15 : decode cX6_bring 15 = .ok (.iload_n 3, 1) := by decide +kernel
theorem dX6_bring_16 : decode cX6_bring 16 = .ok (.invokestatic 108, 3) := by decide +kernel
theorem dX6_bring_19 : decode cX6_bring 19 = .ok (.ifCond .eq 28, 3) := by decide +kernel
theorem dX6_bring_22 : decode cX6_bring 22 = .ok (.iload 4, 2) := by decide +kernel
theorem dX6_bring_24 : decode cX6_bring 24 = .ok (.iconst 1, 1) := by decide +kernel
theorem dX6_bring_25 : decode cX6_bring 25 = .ok (.bipush 99, 2) := by decide +kernel
theorem dX6_bring_27 : decode cX6_bring 27 = .ok (.invokestatic 41, 3) := by decide +kernel
theorem dX6_bring_30 : decode cX6_bring 30 = .ok (.ifCond .eq 17, 3) := by decide +kernel
theorem dX6_bring_33 : decode cX6_bring 33 = .ok (.iload 5, 2) := by decide +kernel
theorem dX6_bring_35 : decode cX6_bring 35 = .ok (.iconst 0, 1) := by decide +kernel
theorem dX6_bring_36 : decode cX6_bring 36 = .ok (.iconst 3, 1) := by decide +kernel
theorem dX6_bring_37 : decode cX6_bring 37 = .ok (.invokestatic 41, 3) := by decide +kernel
theorem dX6_bring_40 : decode cX6_bring 40 = .ok (.ifCond .eq 7, 3) := by decide +kernel
theorem dX6_bring_43 : decode cX6_bring 43 = .ok (.iconst 1, 1) := by decide +kernel
theorem dX6_bring_44 : decode cX6_bring 44 = .ok (.goto 4, 3) := by decide +kernel
theorem dX6_bring_47 : decode cX6_bring 47 = .ok (.iconst 0, 1) := by decide +kernel
theorem dX6_bring_48 : decode cX6_bring 48 = .ok (.iconst 1, 1) := by decide +kernel
theorem dX6_bring_49 : decode cX6_bring 49 = .ok (.invokevirtual 111, 3) := by decide +kernel
theorem dX6_bring_52 : decode cX6_bring 52 = .ok (.ifCond .ne 5, 3) := by decide +kernel
theorem dX6_bring_55 : decode cX6_bring 55 = .ok (.iconst 0, 1) := by decide +kernel
theorem dX6_bring_56 : decode cX6_bring 56 = .ok (.ireturn, 1) := by decide +kernel
theorem dX6_bring_57 : decode cX6_bring 57 = .ok (.aload_n 0, 1) := by decide +kernel
theorem dX6_bring_58 : decode cX6_bring 58 = .ok (.invokevirtual 38, 3) := by decide +kernel
theorem dX6_bring_61 : decode cX6_bring 61 = .ok (.aload_n 0, 1) := by decide +kernel
theorem dX6_bring_62 : decode cX6_bring 62 = .ok (.iload_n 1, 1) := by decide +kernel
theorem dX6_bring_63 : decode cX6_bring 63 = .ok (.iload_n 2, 1) := by decide +kernel
theorem dX6_bring_64 : decode cX6_bring 64 = .ok (.iload_n 3, 1) := by decide +kernel
theorem dX6_bring_65 : decode cX6_bring 65 = .ok (.iload 4, 2) := by decide +kernel
theorem dX6_bring_67 : decode cX6_bring 67 = .ok (.iload 5, 2) := by decide +kernel
theorem dX6_bring_69 : decode cX6_bring 69 = .ok (.iconst 0, 1) := by decide +kernel
theorem dX6_bring_70 : decode cX6_bring 70 = .ok (.invokevirtual 115, 3) := by decide +kernel
theorem dX6_bring_73 : decode cX6_bring 73 = .ok (.ireturn, 1) := by decide +kernel
theorem dX6_change_0 : decode cX6_change 0 = .ok (.aload_n 0, 1) := by decide +kernel
theorem dX6_change_1 : decode cX6_change 1 = .ok (.aload_n 0, 1) := by decide +kernel
theorem dX6_change_2 : decode cX6_change 2 = .ok (.iload_n 1, 1) := by decide +kernel
theorem dX6_change_3 : decode cX6_change 3 = .ok (.invokevirtual 119, 3) := by decide +kernel
theorem dX6_change_6 : decode cX6_change 6 = .ok (.iload_n 2, 1) := by decide +kernel
theorem dX6_change_7 : decode cX6_change 7 = .ok (.iconst 0, 1) := by decide +kernel
theorem dX6_change_8 : decode cX6_change 8 = .ok (.iconst 1, 1) := by decide +kernel
theorem dX6_change_9 : decode cX6_change 9 = .ok (.invokestatic 41, 3) := by decide +kernel
theorem dX6_change_12 : decode cX6_change 12 = .ok (.ifCond .eq 25, 3) := by decide +kernel
theorem dX6_change_15 : decode cX6_change 15 = .ok (.iload_n 3, 1) := by decide +kernel
theorem dX6_change_16 : decode cX6_change 16 = .ok (.iconst 0, 1) := by decide +kernel
theorem dX6_change_17 : decode cX6_change 17 = .ok (.iload_n 2, 1) := by decide +kernel
theorem dX6_change_18 : decode cX6_change 18 = .ok (.ifCond .ne 7, 3) := by decide +kernel
theorem dX6_change_21 : decode cX6_change 21 = .ok (.iconst 2, 1) := by decide +kernel
theorem dX6_change_22 : decode cX6_change 22 = .ok (.goto 5, 3) := by decide +kernel
theorem dX6_change_25 : decode cX6_change 25 = .ok (.bipush 8, 2) := by decide +kernel
theorem dX6_change_27 : decode cX6_change 27 = .ok (.invokestatic 41, 3) := by decide +kernel
theorem dX6_change_30 : decode cX6_change 30 = .ok (.ifCond .eq 7, 3) := by decide +kernel
theorem dX6_change_33 : decode cX6_change 33 = .ok (.iconst 1, 1) := by decide +kernel
theorem dX6_change_34 : decode cX6_change 34 = .ok (.goto 4, 3) := by decide +kernel
theorem dX6_change_37 : decode cX6_change 37 = .ok (.iconst 0, 1) := by decide +kernel
theorem dX6_change_38 : decode cX6_change 38 = .ok (.invokevirtual 111, 3) := by decide +kernel
theorem dX6_change_41 : decode cX6_change 41 = .ok (.ifCond .eq 26, 3) := by decide +kernel
theorem dX6_change_44 : decode cX6_change 44 = .ok (.aload_n 0, 1) := by decide +kernel
theorem dX6_change_45 : decode cX6_change 45 = .ok (.iload_n 1, 1) := by decide +kernel
theorem dX6_change_46 : decode cX6_change 46 = .ok (.invokestatic 69, 3) := by decide +kernel
theorem dX6_change_49 : decode cX6_change 49 = .ok (.iload_n 2, 1) := by decide +kernel
theorem dX6_change_50 : decode cX6_change 50 = .ok (.ifCond .ne 8, 3) := by decide +kernel
theorem dX6_change_53 : decode cX6_change 53 = .ok (.bipush 6, 2) := by decide +kernel
theorem dX6_change_55 : decode cX6_change 55 = .ok (.goto 4, 3) := by decide +kernel
theorem dX6_change_58 : decode cX6_change 58 = .ok (.iconst 5, 1) := by decide +kernel
theorem dX6_change_59 : decode cX6_change 59 = .ok (.iadd, 1) := by decide +kernel
theorem dX6_change_60 : decode cX6_change 60 = .ok (.iload_n 3, 1) := by decide +kernel
theorem dX6_change_61 : decode cX6_change 61 = .ok (.invokevirtual 122, 3) := by decide +kernel
theorem dX6_change_64 : decode cX6_change 64 = .ok (.goto 4, 3) := by decide +kernel
theorem dX6_change_67 : decode cX6_change 67 = .ok (.iconst 0, 1) := by decide +kernel
theorem dX6_change_68 : decode cX6_change 68 = .ok (.ireturn, 1) := by decide +kernel
theorem dX6_sends_0 : decode cX6_sends 0 = .ok (.aload_n 0, 1) := by decide +kernel
theorem dX6_sends_1 : decode cX6_sends 1 = .ok (.getfield 7, 3) := by decide +kernel
theorem dX6_sends_4 : decode cX6_sends 4 = .ok (.bipush 70, 2) := by decide +kernel
theorem dX6_sends_6 : decode cX6_sends 6 = .ok (.dup2, 1) := by decide +kernel
theorem dX6_sends_7 : decode cX6_sends 7 = .ok (.iaload, 1) := by decide +kernel
theorem dX6_sends_8 : decode cX6_sends 8 = .ok (.iload_n 2, 1) := by decide +kernel
theorem dX6_sends_9 : decode cX6_sends 9 = .ok (.iadd, 1) := by decide +kernel
theorem dX6_sends_10 : decode cX6_sends 10 = .ok (.iastore, 1) := by decide +kernel
theorem dX6_sends_11 : decode cX6_sends 11 = .ok (.aload_n 0, 1) := by decide +kernel
theorem dX6_sends_12 : decode cX6_sends 12 = .ok (.getfield 7, 3) := by decide +kernel
theorem dX6_sends_15 : decode cX6_sends 15 = .ok (.bipush 71, 2) := by decide +kernel
theorem dX6_sends_17 : decode cX6_sends 17 = .ok (.dup2, 1) := by decide +kernel
theorem dX6_sends_18 : decode cX6_sends 18 = .ok (.iaload, 1) := by decide +kernel
theorem dX6_sends_19 : decode cX6_sends 19 = .ok (.iconst 1, 1) := by decide +kernel
theorem dX6_sends_20 : decode cX6_sends 20 = .ok (.iadd, 1) := by decide +kernel
theorem dX6_sends_21 : decode cX6_sends 21 = .ok (.iastore, 1) := by decide +kernel
theorem dX6_sends_22 : decode cX6_sends 22 = .ok (.aload_n 0, 1) := by decide +kernel
theorem dX6_sends_23 : decode cX6_sends 23 = .ok (.iload_n 1, 1) := by decide +kernel
theorem dX6_sends_24 : decode cX6_sends 24 = .ok (.invokevirtual 125, 3) := by decide +kernel
theorem dX6_sends_27 : decode cX6_sends 27 = .ok (.bipush 10, 2) := by decide +kernel
theorem dX6_sends_29 : decode cX6_sends 29 = .ok (.iload_n 2, 1) := by decide +kernel
theorem dX6_sends_30 : decode cX6_sends 30 = .ok (.iadd, 1) := by decide +kernel
theorem dX6_sends_31 : decode cX6_sends 31 = .ok (.ireturn, 1) := by decide +kernel
theorem dX6_send_0 : decode cX6_send 0 = .ok (.aload_n 0, 1) := by decide +kernel
theorem dX6_send_1 : decode cX6_send 1 = .ok (.aload_n 0, 1) := by decide +kernel
theorem dX6_send_2 : decode cX6_send 2 = .ok (.iload_n 1, 1) := by decide +kernel
theorem dX6_send_3 : decode cX6_send 3 = .ok (.invokevirtual 119, 3) := by decide +kernel
theorem dX6_send_6 : decode cX6_send 6 = .ok (.iconst 1, 1) := by decide +kernel
theorem dX6_send_7 : decode cX6_send 7 = .ok (.invokevirtual 111, 3) := by decide +kernel
theorem dX6_send_10 : decode cX6_send 10 = .ok (.ifCond .ne 5, 3) := by decide +kernel
theorem dX6_send_13 : decode cX6_send 13 = .ok (.iconst 0, 1) := by decide +kernel
theorem dX6_send_14 : decode cX6_send 14 = .ok (.ireturn, 1) := by decide +kernel
theorem dX6_send_15 : decode cX6_send 15 = .ok (.aload_n 0, 1) := by decide +kernel
theorem dX6_send_16 : decode cX6_send 16 = .ok (.invokevirtual 38, 3) := by decide +kernel
theorem dX6_send_19 : decode cX6_send 19 = .ok (.aload_n 0, 1) := by decide +kernel
theorem dX6_send_20 : decode cX6_send 20 = .ok (.iload_n 1, 1) := by decide +kernel
theorem dX6_send_21 : decode cX6_send 21 = .ok (.invokestatic 69, 3) := by decide +kernel
theorem dX6_send_24 : decode cX6_send 24 = .ok (.invokevirtual 76, 3) := by decide +kernel
theorem dX6_send_27 : decode cX6_send 27 = .ok (.istore_n 2, 1) := by decide +kernel
theorem dX6_send_28 : decode cX6_send 28 = .ok (.aload_n 0, 1) := by decide +kernel
theorem dX6_send_29 : decode cX6_send 29 = .ok (.getfield 7, 3) := by decide +kernel
theorem dX6_send_32 : decode cX6_send 32 = .ok (.bipush 74, 2) := by decide +kernel
theorem dX6_send_34 : decode cX6_send 34 = .ok (.dup2, 1) := by decide +kernel
theorem dX6_send_35 : decode cX6_send 35 = .ok (.iaload, 1) := by decide +kernel
theorem dX6_send_36 : decode cX6_send 36 = .ok (.iload_n 2, 1) := by decide +kernel
theorem dX6_send_37 : decode cX6_send 37 = .ok (.ifCond .le 7, 3) := by decide +kernel
theorem dX6_send_40 : decode cX6_send 40 = .ok (.iconst 1, 1) := by decide +kernel
theorem dX6_send_41 : decode cX6_send 41 = .ok (.goto 4, 3) := by decide +kernel
theorem dX6_send_44 : decode cX6_send 44 = .ok (.iconst 0, 1) := by decide +kernel
theorem dX6_send_45 : decode cX6_send 45 = .ok (.iadd, 1) := by decide +kernel
theorem dX6_send_46 : decode cX6_send 46 = .ok (.iastore, 1) := by decide +kernel
theorem dX6_send_47 : decode cX6_send 47 = .ok (.iload_n 2, 1) := by decide +kernel
theorem dX6_send_48 : decode cX6_send 48 = .ok (.ifCond .le 7, 3) := by decide +kernel
theorem dX6_send_51 : decode cX6_send 51 = .ok (.iload_n 2, 1) := by decide +kernel
theorem dX6_send_52 : decode cX6_send 52 = .ok (.goto 16, 3) := by decide +kernel
theorem dX6_send_55 : decode cX6_send 55 = .ok (.aload_n 0, 1) := by decide +kernel
theorem dX6_send_56 : decode cX6_send 56 = .ok (.iload_n 1, 1) := by decide +kernel
theorem dX6_send_57 : decode cX6_send 57 = .ok (.aload_n 0, 1) := by decide +kernel
theorem dX6_send_58 : decode cX6_send 58 = .ok (.iload_n 1, 1) := by decide +kernel
theorem dX6_send_59 : decode cX6_send 59 = .ok (.invokestatic 69, 3) := by decide +kernel
theorem dX6_send_62 : decode cX6_send 62 = .ok (.invokevirtual 83, 3) := by decide +kernel
theorem dX6_send_65 : decode cX6_send 65 = .ok (.invokevirtual 129, 3) := by decide +kernel
theorem dX6_send_68 : decode cX6_send 68 = .ok (.ireturn, 1) := by decide +kernel
theorem dX6_dispute_0 : decode cX6_dispute 0 = .ok (.aload_n 0, 1) := by decide +kernel
theorem dX6_dispute_1 : decode cX6_dispute 1 = .ok (.aload_n 0, 1) := by decide +kernel
theorem dX6_dispute_2 : decode cX6_dispute 2 = .ok (.iload_n 1, 1) := by decide +kernel
theorem dX6_dispute_3 : decode cX6_dispute 3 = .ok (.invokevirtual 119, 3) := by decide +kernel
theorem dX6_dispute_6 : decode cX6_dispute 6 = .ok (.iload_n 2, 1) := by decide +kernel
theorem dX6_dispute_7 : decode cX6_dispute 7 = .ok (.iconst 1, 1) := by decide +kernel
theorem dX6_dispute_8 : decode cX6_dispute 8 = .ok (.sipush 999, 3) := by decide +kernel
theorem dX6_dispute_11 : decode cX6_dispute 11 = .ok (.invokestatic 41, 3) := by decide +kernel
theorem dX6_dispute_14 : decode cX6_dispute 14 = .ok (.invokevirtual 111, 3) := by decide +kernel
theorem dX6_dispute_17 : decode cX6_dispute 17 = .ok (.ifCond .ne 5, 3) := by decide +kernel
theorem dX6_dispute_20 : decode cX6_dispute 20 = .ok (.iconst 0, 1) := by decide +kernel
theorem dX6_dispute_21 : decode cX6_dispute 21 = .ok (.ireturn, 1) := by decide +kernel
theorem dX6_dispute_22 : decode cX6_dispute 22 = .ok (.aload_n 0, 1) := by decide +kernel
theorem dX6_dispute_23 : decode cX6_dispute 23 = .ok (.invokevirtual 38, 3) := by decide +kernel
theorem dX6_dispute_26 : decode cX6_dispute 26 = .ok (.aload_n 0, 1) := by decide +kernel
theorem dX6_dispute_27 : decode cX6_dispute 27 = .ok (.iload_n 1, 1) := by decide +kernel
theorem dX6_dispute_28 : decode cX6_dispute 28 = .ok (.invokestatic 69, 3) := by decide +kernel
theorem dX6_dispute_31 : decode cX6_dispute 31 = .ok (.invokevirtual 76, 3) := by decide +kernel
theorem dX6_dispute_34 : decode cX6_dispute 34 = .ok (.istore_n 3, 1) := by decide +kernel
theorem dX6_dispute_35 : decode cX6_dispute 35 = .ok (.iload_n 3, 1) := by decide +kernel
theorem dX6_dispute_36 : decode cX6_dispute 36 = .ok (.ifCond .le 16, 3) := by decide +kernel
theorem dX6_dispute_39 : decode cX6_dispute 39 = .ok (.aload_n 0, 1) := by decide +kernel
theorem dX6_dispute_40 : decode cX6_dispute 40 = .ok (.getfield 7, 3) := by decide +kernel
theorem dX6_dispute_43 : decode cX6_dispute 43 = .ok (.bipush 74, 2) := by decide +kernel
theorem dX6_dispute_45 : decode cX6_dispute 45 = .ok (.dup2, 1) := by decide +kernel
theorem dX6_dispute_46 : decode cX6_dispute 46 = .ok (.iaload, 1) := by decide +kernel
theorem dX6_dispute_47 : decode cX6_dispute 47 = .ok (.iconst 1, 1) := by decide +kernel
theorem dX6_dispute_48 : decode cX6_dispute 48 = .ok (.iadd, 1) := by decide +kernel
theorem dX6_dispute_49 : decode cX6_dispute 49 = .ok (.iastore, 1) := by decide +kernel
theorem dX6_dispute_50 : decode cX6_dispute 50 = .ok (.iload_n 3, 1) := by decide +kernel
theorem dX6_dispute_51 : decode cX6_dispute 51 = .ok (.ireturn, 1) := by decide +kernel
theorem dX6_dispute_52 : decode cX6_dispute 52 = .ok (.iload_n 2, 1) := by decide +kernel
theorem dX6_dispute_53 : decode cX6_dispute 53 = .ok (.aload_n 0, 1) := by decide +kernel
theorem dX6_dispute_54 : decode cX6_dispute 54 = .ok (.iload_n 1, 1) := by decide +kernel
theorem dX6_dispute_55 : decode cX6_dispute 55 = .ok (.invokestatic 69, 3) := by decide +kernel
theorem dX6_dispute_58 : decode cX6_dispute 58 = .ok (.invokevirtual 63, 3) := by decide +kernel
theorem dX6_dispute_61 : decode cX6_dispute 61 = .ok (.isub, 1) := by decide +kernel
theorem dX6_dispute_62 : decode cX6_dispute 62 = .ok (.istore 4, 2) := by decide +kernel
theorem dX6_dispute_64 : decode cX6_dispute 64 = .ok (.iload 4, 2) := by decide +kernel
theorem dX6_dispute_66 : decode cX6_dispute 66 = .ok (.aload_n 0, 1) := by decide +kernel
theorem dX6_dispute_67 : decode cX6_dispute 67 = .ok (.getfield 7, 3) := by decide +kernel
theorem dX6_dispute_70 : decode cX6_dispute 70 = .ok (.iconst 3, 1) := by decide +kernel
theorem dX6_dispute_71 : decode cX6_dispute 71 = .ok (.iaload, 1) := by decide +kernel
theorem dX6_dispute_72 : decode cX6_dispute 72 = .ok (.ineg, 1) := by decide +kernel
theorem dX6_dispute_73 : decode cX6_dispute 73 = .ok (.aload_n 0, 1) := by decide +kernel
theorem dX6_dispute_74 : decode cX6_dispute 74 = .ok (.getfield 7, 3) := by decide +kernel
theorem dX6_dispute_77 : decode cX6_dispute 77 = .ok (.iconst 3, 1) := by decide +kernel
theorem dX6_dispute_78 : decode cX6_dispute 78 = .ok (.iaload, 1) := by decide +kernel
theorem dX6_dispute_79 : decode cX6_dispute 79 = .ok (.invokestatic 41, 3) := by decide +kernel
theorem dX6_dispute_82 : decode cX6_dispute 82 = .ok (.ifCond .ne 16, 3) := by decide +kernel
theorem dX6_dispute_85 : decode cX6_dispute 85 = .ok (.aload_n 0, 1) := by decide +kernel
theorem dX6_dispute_86 : decode cX6_dispute 86 = .ok (.getfield 7, 3) := by decide +kernel
theorem dX6_dispute_89 : decode cX6_dispute 89 = .ok (.bipush 73, 2) := by decide +kernel
theorem dX6_dispute_91 : decode cX6_dispute 91 = .ok (.dup2, 1) := by decide +kernel
theorem dX6_dispute_92 : decode cX6_dispute 92 = .ok (.iaload, 1) := by decide +kernel
theorem dX6_dispute_93 : decode cX6_dispute 93 = .ok (.iconst 1, 1) := by decide +kernel
theorem dX6_dispute_94 : decode cX6_dispute 94 = .ok (.iadd, 1) := by decide +kernel
theorem dX6_dispute_95 : decode cX6_dispute 95 = .ok (.iastore, 1) := by decide +kernel
theorem dX6_dispute_96 : decode cX6_dispute 96 = .ok (.iconst 4, 1) := by decide +kernel
theorem dX6_dispute_97 : decode cX6_dispute 97 = .ok (.ireturn, 1) := by decide +kernel
theorem dX6_dispute_98 : decode cX6_dispute 98 = .ok (.aload_n 0, 1) := by decide +kernel
theorem dX6_dispute_99 : decode cX6_dispute 99 = .ok (.getfield 7, 3) := by decide +kernel
theorem dX6_dispute_102 : decode cX6_dispute 102 = .ok (.bipush 72, 2) := by decide +kernel
theorem dX6_dispute_104 : decode cX6_dispute 104 = .ok (.dup2, 1) := by decide +kernel
theorem dX6_dispute_105 : decode cX6_dispute 105 = .ok (.iaload, 1) := by decide +kernel
theorem dX6_dispute_106 : decode cX6_dispute 106 = .ok (.iconst 1, 1) := by decide +kernel
theorem dX6_dispute_107 : decode cX6_dispute 107 = .ok (.iadd, 1) := by decide +kernel
theorem dX6_dispute_108 : decode cX6_dispute 108 = .ok (.iastore, 1) := by decide +kernel
theorem dX6_dispute_109 : decode cX6_dispute 109 = .ok (.aload_n 0, 1) := by decide +kernel
theorem dX6_dispute_110 : decode cX6_dispute 110 = .ok (.iload_n 1, 1) := by decide +kernel
theorem dX6_dispute_111 : decode cX6_dispute 111 = .ok (.aload_n 0, 1) := by decide +kernel
theorem dX6_dispute_112 : decode cX6_dispute 112 = .ok (.iload_n 1, 1) := by decide +kernel
theorem dX6_dispute_113 : decode cX6_dispute 113 = .ok (.invokestatic 69, 3) := by decide +kernel
theorem dX6_dispute_116 : decode cX6_dispute 116 = .ok (.iload_n 2, 1) := by decide +kernel
theorem dX6_dispute_117 : decode cX6_dispute 117 = .ok (.invokevirtual 66, 3) := by decide +kernel
theorem dX6_dispute_120 : decode cX6_dispute 120 = .ok (.invokevirtual 129, 3) := by decide +kernel
theorem dX6_dispute_123 : decode cX6_dispute 123 = .ok (.ireturn, 1) := by decide +kernel
theorem dX6_takeBack_0 : decode cX6_takeBack 0 = .ok (.aload_n 0, 1) := by decide +kernel
theorem dX6_takeBack_1 : decode cX6_takeBack 1 = .ok (.aload_n 0, 1) := by decide +kernel
theorem dX6_takeBack_2 : decode cX6_takeBack 2 = .ok (.iload_n 1, 1) := by decide +kernel
theorem dX6_takeBack_3 : decode cX6_takeBack 3 = .ok (.invokevirtual 119, 3) := by decide +kernel
theorem dX6_takeBack_6 : decode cX6_takeBack 6 = .ok (.iconst 1, 1) := by decide +kernel
theorem dX6_takeBack_7 : decode cX6_takeBack 7 = .ok (.invokevirtual 111, 3) := by decide +kernel
theorem dX6_takeBack_10 : decode cX6_takeBack 10 = .ok (.ifCond .ne 5, 3) := by decide +kernel
theorem dX6_takeBack_13 : decode cX6_takeBack 13 = .ok (.iconst 0, 1) := by decide +kernel
theorem dX6_takeBack_14 : decode cX6_takeBack 14 = .ok (.ireturn, 1) := by decide +kernel
theorem dX6_takeBack_15 : decode cX6_takeBack 15 = .ok (.aload_n 0, 1) := by decide +kernel
theorem dX6_takeBack_16 : decode cX6_takeBack 16 = .ok (.invokevirtual 38, 3) := by decide +kernel
theorem dX6_takeBack_19 : decode cX6_takeBack 19 = .ok (.aload_n 0, 1) := by decide +kernel
theorem dX6_takeBack_20 : decode cX6_takeBack 20 = .ok (.iload_n 1, 1) := by decide +kernel
theorem dX6_takeBack_21 : decode cX6_takeBack 21 = .ok (.invokevirtual 125, 3) := by decide +kernel
theorem dX6_takeBack_24 : decode cX6_takeBack 24 = .ok (.aload_n 0, 1) := by decide +kernel
theorem dX6_takeBack_25 : decode cX6_takeBack 25 = .ok (.getfield 7, 3) := by decide +kernel
theorem dX6_takeBack_28 : decode cX6_takeBack 28 = .ok (.bipush 20, 2) := by decide +kernel
theorem dX6_takeBack_30 : decode cX6_takeBack 30 = .ok (.iaload, 1) := by decide +kernel
theorem dX6_takeBack_31 : decode cX6_takeBack 31 = .ok (.ireturn, 1) := by decide +kernel
theorem dX6_price_0 : decode cX6_price 0 = .ok (.aload_n 0, 1) := by decide +kernel
theorem dX6_price_1 : decode cX6_price 1 = .ok (.iload_n 1, 1) := by decide +kernel
theorem dX6_price_2 : decode cX6_price 2 = .ok (.iconst 0, 1) := by decide +kernel
theorem dX6_price_3 : decode cX6_price 3 = .ok (.bipush 11, 2) := by decide +kernel
theorem dX6_price_5 : decode cX6_price 5 = .ok (.invokestatic 41, 3) := by decide +kernel
theorem dX6_price_8 : decode cX6_price 8 = .ok (.iload_n 2, 1) := by decide +kernel
theorem dX6_price_9 : decode cX6_price 9 = .ok (.iconst 0, 1) := by decide +kernel
theorem dX6_price_10 : decode cX6_price 10 = .ok (.bipush 99, 2) := by decide +kernel
theorem dX6_price_12 : decode cX6_price 12 = .ok (.invokestatic 41, 3) := by decide +kernel
theorem dX6_price_15 : decode cX6_price 15 = .ok (.invokevirtual 111, 3) := by decide +kernel
theorem dX6_price_18 : decode cX6_price 18 = .ok (.ifCond .eq 14, 3) := by decide +kernel
theorem dX6_price_21 : decode cX6_price 21 = .ok (.aload_n 0, 1) := by decide +kernel
theorem dX6_price_22 : decode cX6_price 22 = .ok (.iconst 4, 1) := by decide +kernel
theorem dX6_price_23 : decode cX6_price 23 = .ok (.iload_n 1, 1) := by decide +kernel
theorem dX6_price_24 : decode cX6_price 24 = .ok (.iadd, 1) := by decide +kernel
theorem dX6_price_25 : decode cX6_price 25 = .ok (.iload_n 2, 1) := by decide +kernel
theorem dX6_price_26 : decode cX6_price 26 = .ok (.invokevirtual 122, 3) := by decide +kernel
theorem dX6_price_29 : decode cX6_price 29 = .ok (.goto 4, 3) := by decide +kernel
theorem dX6_price_32 : decode cX6_price 32 = .ok (.iconst 0, 1) := by decide +kernel
theorem dX6_price_33 : decode cX6_price 33 = .ok (.ireturn, 1) := by decide +kernel
theorem dX6_zone_0 : decode cX6_zone 0 = .ok (.aload_n 0, 1) := by decide +kernel
theorem dX6_zone_1 : decode cX6_zone 1 = .ok (.iload_n 1, 1) := by decide +kernel
theorem dX6_zone_2 : decode cX6_zone 2 = .ok (.iconst 0, 1) := by decide +kernel
theorem dX6_zone_3 : decode cX6_zone 3 = .ok (.iconst 3, 1) := by decide +kernel
theorem dX6_zone_4 : decode cX6_zone 4 = .ok (.invokestatic 41, 3) := by decide +kernel
theorem dX6_zone_7 : decode cX6_zone 7 = .ok (.iload_n 2, 1) := by decide +kernel
theorem dX6_zone_8 : decode cX6_zone 8 = .ok (.iconst 1, 1) := by decide +kernel
theorem dX6_zone_9 : decode cX6_zone 9 = .ok (.bipush 9, 2) := by decide +kernel
theorem dX6_zone_11 : decode cX6_zone 11 = .ok (.invokestatic 41, 3) := by decide +kernel
theorem dX6_zone_14 : decode cX6_zone 14 = .ok (.invokevirtual 111, 3) := by decide +kernel
theorem dX6_zone_17 : decode cX6_zone 17 = .ok (.ifCond .eq 15, 3) := by decide +kernel
theorem dX6_zone_20 : decode cX6_zone 20 = .ok (.aload_n 0, 1) := by decide +kernel
theorem dX6_zone_21 : decode cX6_zone 21 = .ok (.bipush 16, 2) := by decide +kernel
theorem dX6_zone_23 : decode cX6_zone 23 = .ok (.iload_n 1, 1) := by decide +kernel
theorem dX6_zone_24 : decode cX6_zone 24 = .ok (.iadd, 1) := by decide +kernel
theorem dX6_zone_25 : decode cX6_zone 25 = .ok (.iload_n 2, 1) := by decide +kernel
theorem dX6_zone_26 : decode cX6_zone 26 = .ok (.invokevirtual 122, 3) := by decide +kernel
theorem dX6_zone_29 : decode cX6_zone 29 = .ok (.goto 4, 3) := by decide +kernel
theorem dX6_zone_32 : decode cX6_zone 32 = .ok (.iconst 0, 1) := by decide +kernel
theorem dX6_zone_33 : decode cX6_zone 33 = .ok (.ireturn, 1) := by decide +kernel
theorem dX6_isValue_0 : decode cX6_isValue 0 = .ok (.iload_n 1, 1) := by decide +kernel
theorem dX6_isValue_1 : decode cX6_isValue 1 = .ok (.iload_n 0, 1) := by decide +kernel
theorem dX6_isValue_2 : decode cX6_isValue 2 = .ok (.iconst 1, 1) := by decide +kernel
theorem dX6_isValue_3 : decode cX6_isValue 3 = .ok (.if_icmp .ne 8, 3) := by decide +kernel
theorem dX6_isValue_6 : decode cX6_isValue 6 = .ok (.bipush 50, 2) := by decide +kernel
theorem dX6_isValue_8 : decode cX6_isValue 8 = .ok (.goto 4, 3) := by decide +kernel
theorem dX6_isValue_11 : decode cX6_isValue 11 = .ok (.iconst 0, 1) := by decide +kernel
theorem dX6_isValue_12 : decode cX6_isValue 12 = .ok (.iload_n 0, 1) := by decide +kernel
theorem dX6_isValue_13 : decode cX6_isValue 13 = .ok (.iconst 1, 1) := by decide +kernel
theorem dX6_isValue_14 : decode cX6_isValue 14 = .ok (.if_icmp .ne 9, 3) := by decide +kernel
theorem dX6_isValue_17 : decode cX6_isValue 17 = .ok (.sipush 300, 3) := by decide +kernel
theorem dX6_isValue_20 : decode cX6_isValue 20 = .ok (.goto 15, 3) := by decide +kernel
theorem dX6_isValue_23 : decode cX6_isValue 23 = .ok (.iload_n 0, 1) := by decide +kernel
theorem dX6_isValue_24 : decode cX6_isValue 24 = .ok (.iconst 3, 1) := by decide +kernel
theorem dX6_isValue_25 : decode cX6_isValue 25 = .ok (.if_icmp .ne 8, 3) := by decide +kernel
theorem dX6_isValue_28 : decode cX6_isValue 28 = .ok (.bipush 50, 2) := by decide +kernel
theorem dX6_isValue_30 : decode cX6_isValue 30 = .ok (.goto 5, 3) := by decide +kernel
theorem dX6_isValue_33 : decode cX6_isValue 33 = .ok (.bipush 20, 2) := by decide +kernel
theorem dX6_isValue_35 : decode cX6_isValue 35 = .ok (.invokestatic 41, 3) := by decide +kernel
theorem dX6_isValue_38 : decode cX6_isValue 38 = .ok (.ireturn, 1) := by decide +kernel
theorem dX6_set_0 : decode cX6_set 0 = .ok (.aload_n 0, 1) := by decide +kernel
theorem dX6_set_1 : decode cX6_set 1 = .ok (.iload_n 1, 1) := by decide +kernel
theorem dX6_set_2 : decode cX6_set 2 = .ok (.iconst 0, 1) := by decide +kernel
theorem dX6_set_3 : decode cX6_set 3 = .ok (.iconst 3, 1) := by decide +kernel
theorem dX6_set_4 : decode cX6_set 4 = .ok (.invokestatic 41, 3) := by decide +kernel
theorem dX6_set_7 : decode cX6_set 7 = .ok (.iload_n 1, 1) := by decide +kernel
theorem dX6_set_8 : decode cX6_set 8 = .ok (.iload_n 2, 1) := by decide +kernel
theorem dX6_set_9 : decode cX6_set 9 = .ok (.invokestatic 132, 3) := by decide +kernel
theorem dX6_set_12 : decode cX6_set 12 = .ok (.invokevirtual 111, 3) := by decide +kernel
theorem dX6_set_15 : decode cX6_set 15 = .ok (.ifCond .eq 12, 3) := by decide +kernel
theorem dX6_set_18 : decode cX6_set 18 = .ok (.aload_n 0, 1) := by decide +kernel
theorem dX6_set_19 : decode cX6_set 19 = .ok (.iload_n 1, 1) := by decide +kernel
theorem dX6_set_20 : decode cX6_set 20 = .ok (.iload_n 2, 1) := by decide +kernel
theorem dX6_set_21 : decode cX6_set 21 = .ok (.invokevirtual 122, 3) := by decide +kernel
theorem dX6_set_24 : decode cX6_set 24 = .ok (.goto 4, 3) := by decide +kernel
theorem dX6_set_27 : decode cX6_set 27 = .ok (.iconst 0, 1) := by decide +kernel
theorem dX6_set_28 : decode cX6_set 28 = .ok (.ireturn, 1) := by decide +kernel
theorem dX6_append_0 : decode cX6_append 0 = .ok (.aload_n 0, 1) := by decide +kernel
theorem dX6_append_1 : decode cX6_append 1 = .ok (.iload_n 1, 1) := by decide +kernel
theorem dX6_append_2 : decode cX6_append 2 = .ok (.bipush 33, 2) := by decide +kernel
theorem dX6_append_4 : decode cX6_append 4 = .ok (.bipush 126, 2) := by decide +kernel
theorem dX6_append_6 : decode cX6_append 6 = .ok (.invokestatic 41, 3) := by decide +kernel
theorem dX6_append_9 : decode cX6_append 9 = .ok (.aload_n 0, 1) := by decide +kernel
theorem dX6_append_10 : decode cX6_append 10 = .ok (.getfield 135, 3) := by decide +kernel
theorem dX6_append_13 : decode cX6_append 13 = .ok (.bipush 60, 2) := by decide +kernel
theorem dX6_append_15 : decode cX6_append 15 = .ok (.if_icmp .ge 7, 3) := by decide +kernel
theorem dX6_append_18 : decode cX6_append 18 = .ok (.iconst 1, 1) := by decide +kernel
theorem dX6_append_19 : decode cX6_append 19 = .ok (.goto 4, 3) := by decide +kernel
theorem dX6_append_22 : decode cX6_append 22 = .ok (.iconst 0, 1) := by decide +kernel
theorem dX6_append_23 : decode cX6_append 23 = .ok (.invokevirtual 111, 3) := by decide +kernel
theorem dX6_append_26 : decode cX6_append 26 = .ok (.ifCond .ne 5, 3) := by decide +kernel
theorem dX6_append_29 : decode cX6_append 29 = .ok (.iconst 0, 1) := by decide +kernel
theorem dX6_append_30 : decode cX6_append 30 = .ok (.ireturn, 1) := by decide +kernel
theorem dX6_append_31 : decode cX6_append 31 = .ok (.aload_n 0, 1) := by decide +kernel
theorem dX6_append_32 : decode cX6_append 32 = .ok (.getfield 17, 3) := by decide +kernel
theorem dX6_append_35 : decode cX6_append 35 = .ok (.aload_n 0, 1) := by decide +kernel
theorem dX6_append_36 : decode cX6_append 36 = .ok (.getfield 135, 3) := by decide +kernel
theorem dX6_append_39 : decode cX6_append 39 = .ok (.iload_n 1, 1) := by decide +kernel
theorem dX6_append_40 : decode cX6_append 40 = .ok (.i2c, 1) := by decide +kernel
theorem dX6_append_41 : decode cX6_append 41 = .ok (.castore, 1) := by decide +kernel
theorem dX6_append_42 : decode cX6_append 42 = .ok (.aload_n 0, 1) := by decide +kernel
theorem dX6_append_43 : decode cX6_append 43 = .ok (.dup, 1) := by decide +kernel
theorem dX6_append_44 : decode cX6_append 44 = .ok (.getfield 135, 3) := by decide +kernel
theorem dX6_append_47 : decode cX6_append 47 = .ok (.iconst 1, 1) := by decide +kernel
theorem dX6_append_48 : decode cX6_append 48 = .ok (.iadd, 1) := by decide +kernel
theorem dX6_append_49 : decode cX6_append 49 = .ok (.putfield 135, 3) := by decide +kernel
theorem dX6_append_52 : decode cX6_append 52 = .ok (.aload_n 0, 1) := by decide +kernel
theorem dX6_append_53 : decode cX6_append 53 = .ok (.getfield 135, 3) := by decide +kernel
theorem dX6_append_56 : decode cX6_append 56 = .ok (.ireturn, 1) := by decide +kernel
theorem dX6_clearBuffer_0 : decode cX6_clearBuffer 0 = .ok (.aload_n 0, 1) := by decide +kernel
theorem dX6_clearBuffer_1 : decode cX6_clearBuffer 1 = .ok (.iconst 0, 1) := by decide +kernel
theorem dX6_clearBuffer_2 : decode cX6_clearBuffer 2 = .ok (.putfield 27, 3) := by decide +kernel
theorem dX6_clearBuffer_5 : decode cX6_clearBuffer 5 = .ok (.aload_n 0, 1) := by decide +kernel
theorem dX6_clearBuffer_6 : decode cX6_clearBuffer 6 = .ok (.getfield 135, 3) := by decide +kernel
theorem dX6_clearBuffer_9 : decode cX6_clearBuffer 9 = .ok (.istore_n 1, 1) := by decide +kernel
theorem dX6_clearBuffer_10 : decode cX6_clearBuffer 10 = .ok (.aload_n 0, 1) := by decide +kernel
theorem dX6_clearBuffer_11 : decode cX6_clearBuffer 11 = .ok (.iconst 0, 1) := by decide +kernel
theorem dX6_clearBuffer_12 : decode cX6_clearBuffer 12 = .ok (.putfield 135, 3) := by decide +kernel
theorem dX6_clearBuffer_15 : decode cX6_clearBuffer 15 = .ok (.iload_n 1, 1) := by decide +kernel
theorem dX6_clearBuffer_16 : decode cX6_clearBuffer 16 = .ok (.ireturn, 1) := by decide +kernel
theorem dX6_isHere_0 : decode cX6_isHere 0 = .ok (.aload_n 0, 1) := by decide +kernel
theorem dX6_isHere_1 : decode cX6_isHere 1 = .ok (.getfield 138, 3) := by decide +kernel
theorem dX6_isHere_4 : decode cX6_isHere 4 = .ok (.aload_n 0, 1) := by decide +kernel
theorem dX6_isHere_5 : decode cX6_isHere 5 = .ok (.getfield 135, 3) := by decide +kernel
theorem dX6_isHere_8 : decode cX6_isHere 8 = .ok (.if_icmp .ge 24, 3) := by decide +kernel
theorem dX6_isHere_11 : decode cX6_isHere 11 = .ok (.aload_n 0, 1) := by decide +kernel
theorem dX6_isHere_12 : decode cX6_isHere 12 = .ok (.getfield 17, 3) := by decide +kernel
theorem dX6_isHere_15 : decode cX6_isHere 15 = .ok (.aload_n 0, 1) := by decide +kernel
theorem dX6_isHere_16 : decode cX6_isHere 16 = .ok (.getfield 138, 3) := by decide +kernel
theorem dX6_isHere_19 : decode cX6_isHere 19 = .ok (.caload, 1) := by decide +kernel
theorem dX6_isHere_20 : decode cX6_isHere 20 = .ok (.iload_n 1, 1) := by decide +kernel
theorem dX6_isHere_21 : decode cX6_isHere 21 = .ok (.iload_n 2, 1) := by decide +kernel
theorem dX6_isHere_22 : decode cX6_isHere 22 = .ok (.invokestatic 41, 3) := by decide +kernel
theorem dX6_isHere_25 : decode cX6_isHere 25 = .ok (.ifCond .eq 7, 3) := by decide +kernel
theorem dX6_isHere_28 : decode cX6_isHere 28 = .ok (.iconst 1, 1) := by decide +kernel
theorem dX6_isHere_29 : decode cX6_isHere 29 = .ok (.goto 4, 3) := by decide +kernel
theorem dX6_isHere_32 : decode cX6_isHere 32 = .ok (.iconst 0, 1) := by decide +kernel
theorem dX6_isHere_33 : decode cX6_isHere 33 = .ok (.ireturn, 1) := by decide +kernel
theorem dX6_takes_0 : decode cX6_takes 0 = .ok (.aload_n 0, 1) := by decide +kernel
theorem dX6_takes_1 : decode cX6_takes 1 = .ok (.iload_n 1, 1) := by decide +kernel
theorem dX6_takes_2 : decode cX6_takes 2 = .ok (.iload_n 1, 1) := by decide +kernel
theorem dX6_takes_3 : decode cX6_takes 3 = .ok (.invokevirtual 141, 3) := by decide +kernel
theorem dX6_takes_6 : decode cX6_takes 6 = .ok (.istore_n 2, 1) := by decide +kernel
theorem dX6_takes_7 : decode cX6_takes 7 = .ok (.aload_n 0, 1) := by decide +kernel
theorem dX6_takes_8 : decode cX6_takes 8 = .ok (.dup, 1) := by decide +kernel
theorem dX6_takes_9 : decode cX6_takes 9 = .ok (.getfield 138, 3) := by decide +kernel
theorem dX6_takes_12 : decode cX6_takes 12 = .ok (.iload_n 2, 1) := by decide +kernel
theorem dX6_takes_13 : decode cX6_takes 13 = .ok (.ifCond .eq 7, 3) := by decide +kernel
theorem dX6_takes_16 : decode cX6_takes 16 = .ok (.iconst 1, 1) := by decide +kernel
theorem dX6_takes_17 : decode cX6_takes 17 = .ok (.goto 4, 3) := by decide +kernel
theorem dX6_takes_20 : decode cX6_takes 20 = .ok (.iconst 0, 1) := by decide +kernel
theorem dX6_takes_21 : decode cX6_takes 21 = .ok (.iadd, 1) := by decide +kernel
theorem dX6_takes_22 : decode cX6_takes 22 = .ok (.putfield 138, 3) := by decide +kernel
theorem dX6_takes_25 : decode cX6_takes 25 = .ok (.iload_n 2, 1) := by decide +kernel
theorem dX6_takes_26 : decode cX6_takes 26 = .ok (.ireturn, 1) := by decide +kernel
theorem dX6_number_0 : decode cX6_number 0 = .ok (.aload_n 0, 1) := by decide +kernel
theorem dX6_number_1 : decode cX6_number 1 = .ok (.bipush 49, 2) := by decide +kernel
theorem dX6_number_3 : decode cX6_number 3 = .ok (.bipush 57, 2) := by decide +kernel
theorem dX6_number_5 : decode cX6_number 5 = .ok (.invokevirtual 141, 3) := by decide +kernel
theorem dX6_number_8 : decode cX6_number 8 = .ok (.ifCond .eq 18, 3) := by decide +kernel
theorem dX6_number_11 : decode cX6_number 11 = .ok (.aload_n 0, 1) := by decide +kernel
theorem dX6_number_12 : decode cX6_number 12 = .ok (.getfield 17, 3) := by decide +kernel
theorem dX6_number_15 : decode cX6_number 15 = .ok (.aload_n 0, 1) := by decide +kernel
theorem dX6_number_16 : decode cX6_number 16 = .ok (.getfield 138, 3) := by decide +kernel
