theorem dX6_number_19 : decode cX6_number 19 = .ok (.caload, 1) := by decide +kernel
theorem dX6_number_20 : decode cX6_number 20 = .ok (.bipush 48, 2) := by decide +kernel
theorem dX6_number_22 : decode cX6_number 22 = .ok (.isub, 1) := by decide +kernel
theorem dX6_number_23 : decode cX6_number 23 = .ok (.goto 4, 3) := by decide +kernel
theorem dX6_number_26 : decode cX6_number 26 = .ok (.iconst (-1), 1) := by decide +kernel
theorem dX6_number_27 : decode cX6_number 27 = .ok (.istore_n 2, 1) := by decide +kernel
theorem dX6_number_28 : decode cX6_number 28 = .ok (.aload_n 0, 1) := by decide +kernel
theorem dX6_number_29 : decode cX6_number 29 = .ok (.dup, 1) := by decide +kernel
theorem dX6_number_30 : decode cX6_number 30 = .ok (.getfield 138, 3) := by decide +kernel
theorem dX6_number_33 : decode cX6_number 33 = .ok (.iload_n 2, 1) := by decide +kernel
theorem dX6_number_34 : decode cX6_number 34 = .ok (.iconst (-1), 1) := by decide +kernel
theorem dX6_number_35 : decode cX6_number 35 = .ok (.if_icmp .ne 7, 3) := by decide +kernel
theorem dX6_number_38 : decode cX6_number 38 = .ok (.iconst 0, 1) := by decide +kernel
theorem dX6_number_39 : decode cX6_number 39 = .ok (.goto 4, 3) := by decide +kernel
theorem dX6_number_42 : decode cX6_number 42 = .ok (.iconst 1, 1) := by decide +kernel
theorem dX6_number_43 : decode cX6_number 43 = .ok (.iadd, 1) := by decide +kernel
theorem dX6_number_44 : decode cX6_number 44 = .ok (.putfield 138, 3) := by decide +kernel
theorem dX6_number_47 : decode cX6_number 47 = .ok (.iload_n 2, 1) := by decide +kernel
theorem dX6_number_48 : decode cX6_number 48 = .ok (.iconst (-1), 1) := by decide +kernel
theorem dX6_number_49 : decode cX6_number 49 = .ok (.if_icmp .eq 63, 3) := by decide +kernel
theorem dX6_number_52 : decode cX6_number 52 = .ok (.aload_n 0, 1) := by decide +kernel
theorem dX6_number_53 : decode cX6_number 53 = .ok (.bipush 48, 2) := by decide +kernel
theorem dX6_number_55 : decode cX6_number 55 = .ok (.bipush 57, 2) := by decide +kernel
theorem dX6_number_57 : decode cX6_number 57 = .ok (.invokevirtual 141, 3) := by decide +kernel
theorem dX6_number_60 : decode cX6_number 60 = .ok (.ifCond .eq 52, 3) := by decide +kernel
theorem dX6_number_63 : decode cX6_number 63 = .ok (.bipush 10, 2) := by decide +kernel
theorem dX6_number_65 : decode cX6_number 65 = .ok (.iload_n 2, 1) := by decide +kernel
theorem dX6_number_66 : decode cX6_number 66 = .ok (.imul, 1) := by decide +kernel
theorem dX6_number_67 : decode cX6_number 67 = .ok (.aload_n 0, 1) := by decide +kernel
theorem dX6_number_68 : decode cX6_number 68 = .ok (.getfield 17, 3) := by decide +kernel
theorem dX6_number_71 : decode cX6_number 71 = .ok (.aload_n 0, 1) := by decide +kernel
theorem dX6_number_72 : decode cX6_number 72 = .ok (.getfield 138, 3) := by decide +kernel
theorem dX6_number_75 : decode cX6_number 75 = .ok (.caload, 1) := by decide +kernel
theorem dX6_number_76 : decode cX6_number 76 = .ok (.iadd, 1) := by decide +kernel
theorem dX6_number_77 : decode cX6_number 77 = .ok (.bipush 48, 2) := by decide +kernel
theorem dX6_number_79 : decode cX6_number 79 = .ok (.isub, 1) := by decide +kernel
theorem dX6_number_80 : decode cX6_number 80 = .ok (.iload_n 1, 1) := by decide +kernel
theorem dX6_number_81 : decode cX6_number 81 = .ok (.if_icmp .gt 31, 3) := by decide +kernel
theorem dX6_number_84 : decode cX6_number 84 = .ok (.bipush 10, 2) := by decide +kernel
theorem dX6_number_86 : decode cX6_number 86 = .ok (.iload_n 2, 1) := by decide +kernel
theorem dX6_number_87 : decode cX6_number 87 = .ok (.imul, 1) := by decide +kernel
theorem dX6_number_88 : decode cX6_number 88 = .ok (.aload_n 0, 1) := by decide +kernel
theorem dX6_number_89 : decode cX6_number 89 = .ok (.getfield 17, 3) := by decide +kernel
theorem dX6_number_92 : decode cX6_number 92 = .ok (.aload_n 0, 1) := by decide +kernel
theorem dX6_number_93 : decode cX6_number 93 = .ok (.getfield 138, 3) := by decide +kernel
theorem dX6_number_96 : decode cX6_number 96 = .ok (.caload, 1) := by decide +kernel
theorem dX6_number_97 : decode cX6_number 97 = .ok (.iadd, 1) := by decide +kernel
theorem dX6_number_98 : decode cX6_number 98 = .ok (.bipush 48, 2) := by decide +kernel
theorem dX6_number_100 : decode cX6_number 100 = .ok (.isub, 1) := by decide +kernel
theorem dX6_number_101 : decode cX6_number 101 = .ok (.istore_n 2, 1) := by decide +kernel
theorem dX6_number_102 : decode cX6_number 102 = .ok (.aload_n 0, 1) := by decide +kernel
theorem dX6_number_103 : decode cX6_number 103 = .ok (.dup, 1) := by decide +kernel
theorem dX6_number_104 : decode cX6_number 104 = .ok (.getfield 138, 3) := by decide +kernel
theorem dX6_number_107 : decode cX6_number 107 = .ok (.iconst 1, 1) := by decide +kernel
theorem dX6_number_108 : decode cX6_number 108 = .ok (.iadd, 1) := by decide +kernel
theorem dX6_number_109 : decode cX6_number 109 = .ok (.putfield 138, 3) := by decide +kernel
theorem dX6_number_112 : decode cX6_number 112 = .ok (.iload_n 2, 1) := by decide +kernel
theorem dX6_number_113 : decode cX6_number 113 = .ok (.ireturn, 1) := by decide +kernel
theorem dX6_readsParcel_0 : decode cX6_readsParcel 0 = .ok (.iconst 0, 1) := by decide +kernel
theorem dX6_readsParcel_1 : decode cX6_readsParcel 1 = .ok (.istore_n 1, 1) := by decide +kernel
theorem dX6_readsParcel_2 : decode cX6_readsParcel 2 = .ok (.iload_n 1, 1) := by decide +kernel
theorem dX6_readsParcel_3 : decode cX6_readsParcel 3 = .ok (.iconst 4, 1) := by decide +kernel
theorem dX6_readsParcel_4 : decode cX6_readsParcel 4 = .ok (.if_icmp .ge 76, 3) := by decide +kernel
theorem dX6_readsParcel_7 : decode cX6_readsParcel 7 = .ok (.iload_n 1, 1) := by decide +kernel
theorem dX6_readsParcel_8 : decode cX6_readsParcel 8 = .ok (.ifCond .le 24, 3) := by decide +kernel
theorem dX6_readsParcel_11 : decode cX6_readsParcel 11 = .ok (.aload_n 0, 1) := by decide +kernel
theorem dX6_readsParcel_12 : decode cX6_readsParcel 12 = .ok (.iload_n 1, 1) := by decide +kernel
theorem dX6_readsParcel_13 : decode cX6_readsParcel 13 = .ok (.iconst 3, 1) := by decide +kernel
theorem dX6_readsParcel_14 : decode cX6_readsParcel 14 = .ok (.if_icmp .ge 8, 3) := by decide +kernel
theorem dX6_readsParcel_17 : decode cX6_readsParcel 17 = .ok (.bipush 120, 2) := by decide +kernel
theorem dX6_readsParcel_19 : decode cX6_readsParcel 19 = .ok (.goto 5, 3) := by decide +kernel
theorem dX6_readsParcel_22 : decode cX6_readsParcel 22 = .ok (.bipush 42, 2) := by decide +kernel
theorem dX6_readsParcel_24 : decode cX6_readsParcel 24 = .ok (.invokevirtual 145, 3) := by decide +kernel
theorem dX6_readsParcel_27 : decode cX6_readsParcel 27 = .ok (.ifCond .ne 5, 3) := by decide +kernel
theorem dX6_readsParcel_30 : decode cX6_readsParcel 30 = .ok (.iconst 0, 1) := by decide +kernel
theorem dX6_readsParcel_31 : decode cX6_readsParcel 31 = .ok (.ireturn, 1) := by decide +kernel
theorem dX6_readsParcel_32 : decode cX6_readsParcel 32 = .ok (.aload_n 0, 1) := by decide +kernel
theorem dX6_readsParcel_33 : decode cX6_readsParcel 33 = .ok (.getfield 7, 3) := by decide +kernel
theorem dX6_readsParcel_36 : decode cX6_readsParcel 36 = .ok (.sipush 675, 3) := by decide +kernel
theorem dX6_readsParcel_39 : decode cX6_readsParcel 39 = .ok (.iload_n 1, 1) := by decide +kernel
theorem dX6_readsParcel_40 : decode cX6_readsParcel 40 = .ok (.iadd, 1) := by decide +kernel
theorem dX6_readsParcel_41 : decode cX6_readsParcel 41 = .ok (.aload_n 0, 1) := by decide +kernel
theorem dX6_readsParcel_42 : decode cX6_readsParcel 42 = .ok (.iload_n 1, 1) := by decide +kernel
theorem dX6_readsParcel_43 : decode cX6_readsParcel 43 = .ok (.iconst 3, 1) := by decide +kernel
theorem dX6_readsParcel_44 : decode cX6_readsParcel 44 = .ok (.if_icmp .ge 8, 3) := by decide +kernel
theorem dX6_readsParcel_47 : decode cX6_readsParcel 47 = .ok (.bipush 60, 2) := by decide +kernel
theorem dX6_readsParcel_49 : decode cX6_readsParcel 49 = .ok (.goto 5, 3) := by decide +kernel
theorem dX6_readsParcel_52 : decode cX6_readsParcel 52 = .ok (.bipush 99, 2) := by decide +kernel
theorem dX6_readsParcel_54 : decode cX6_readsParcel 54 = .ok (.invokevirtual 149, 3) := by decide +kernel
theorem dX6_readsParcel_57 : decode cX6_readsParcel 57 = .ok (.iastore, 1) := by decide +kernel
theorem dX6_readsParcel_58 : decode cX6_readsParcel 58 = .ok (.aload_n 0, 1) := by decide +kernel
theorem dX6_readsParcel_59 : decode cX6_readsParcel 59 = .ok (.getfield 7, 3) := by decide +kernel
theorem dX6_readsParcel_62 : decode cX6_readsParcel 62 = .ok (.sipush 675, 3) := by decide +kernel
theorem dX6_readsParcel_65 : decode cX6_readsParcel 65 = .ok (.iload_n 1, 1) := by decide +kernel
theorem dX6_readsParcel_66 : decode cX6_readsParcel 66 = .ok (.iadd, 1) := by decide +kernel
theorem dX6_readsParcel_67 : decode cX6_readsParcel 67 = .ok (.iaload, 1) := by decide +kernel
theorem dX6_readsParcel_68 : decode cX6_readsParcel 68 = .ok (.iconst (-1), 1) := by decide +kernel
theorem dX6_readsParcel_69 : decode cX6_readsParcel 69 = .ok (.if_icmp .ne 5, 3) := by decide +kernel
theorem dX6_readsParcel_72 : decode cX6_readsParcel 72 = .ok (.iconst 0, 1) := by decide +kernel
theorem dX6_readsParcel_73 : decode cX6_readsParcel 73 = .ok (.ireturn, 1) := by decide +kernel
theorem dX6_readsParcel_74 : decode cX6_readsParcel 74 = .ok (.iinc 1 1, 3) := by decide +kernel
theorem dX6_readsParcel_77 : decode cX6_readsParcel 77 = .ok (.goto (-75), 3) := by decide +kernel
theorem dX6_readsParcel_80 : decode cX6_readsParcel 80 = .ok (.aload_n 0, 1) := by decide +kernel
theorem dX6_readsParcel_81 : decode cX6_readsParcel 81 = .ok (.bipush 122, 2) := by decide +kernel
theorem dX6_readsParcel_83 : decode cX6_readsParcel 83 = .ok (.invokevirtual 145, 3) := by decide +kernel
theorem dX6_readsParcel_86 : decode cX6_readsParcel 86 = .ok (.ifCond .eq 14, 3) := by decide +kernel
theorem dX6_readsParcel_89 : decode cX6_readsParcel 89 = .ok (.aload_n 0, 1) := by decide +kernel
theorem dX6_readsParcel_90 : decode cX6_readsParcel 90 = .ok (.bipush 48, 2) := by decide +kernel
theorem dX6_readsParcel_92 : decode cX6_readsParcel 92 = .ok (.bipush 51, 2) := by decide +kernel
theorem dX6_readsParcel_94 : decode cX6_readsParcel 94 = .ok (.invokevirtual 141, 3) := by decide +kernel
theorem dX6_readsParcel_97 : decode cX6_readsParcel 97 = .ok (.ifCond .ne 5, 3) := by decide +kernel
theorem dX6_readsParcel_100 : decode cX6_readsParcel 100 = .ok (.iconst 0, 1) := by decide +kernel
theorem dX6_readsParcel_101 : decode cX6_readsParcel 101 = .ok (.ireturn, 1) := by decide +kernel
theorem dX6_readsParcel_102 : decode cX6_readsParcel 102 = .ok (.aload_n 0, 1) := by decide +kernel
theorem dX6_readsParcel_103 : decode cX6_readsParcel 103 = .ok (.getfield 7, 3) := by decide +kernel
theorem dX6_readsParcel_106 : decode cX6_readsParcel 106 = .ok (.sipush 679, 3) := by decide +kernel
theorem dX6_readsParcel_109 : decode cX6_readsParcel 109 = .ok (.aload_n 0, 1) := by decide +kernel
theorem dX6_readsParcel_110 : decode cX6_readsParcel 110 = .ok (.getfield 17, 3) := by decide +kernel
theorem dX6_readsParcel_113 : decode cX6_readsParcel 113 = .ok (.aload_n 0, 1) := by decide +kernel
theorem dX6_readsParcel_114 : decode cX6_readsParcel 114 = .ok (.getfield 138, 3) := by decide +kernel
theorem dX6_readsParcel_117 : decode cX6_readsParcel 117 = .ok (.caload, 1) := by decide +kernel
theorem dX6_readsParcel_118 : decode cX6_readsParcel 118 = .ok (.bipush 48, 2) := by decide +kernel
theorem dX6_readsParcel_120 : decode cX6_readsParcel 120 = .ok (.isub, 1) := by decide +kernel
theorem dX6_readsParcel_121 : decode cX6_readsParcel 121 = .ok (.iastore, 1) := by decide +kernel
theorem dX6_readsParcel_122 : decode cX6_readsParcel 122 = .ok (.aload_n 0, 1) := by decide +kernel
theorem dX6_readsParcel_123 : decode cX6_readsParcel 123 = .ok (.dup, 1) := by decide +kernel
theorem dX6_readsParcel_124 : decode cX6_readsParcel 124 = .ok (.getfield 138, 3) := by decide +kernel
theorem dX6_readsParcel_127 : decode cX6_readsParcel 127 = .ok (.iconst 1, 1) := by decide +kernel
theorem dX6_readsParcel_128 : decode cX6_readsParcel 128 = .ok (.iadd, 1) := by decide +kernel
theorem dX6_readsParcel_129 : decode cX6_readsParcel 129 = .ok (.putfield 138, 3) := by decide +kernel
theorem dX6_readsParcel_132 : decode cX6_readsParcel 132 = .ok (.aload_n 0, 1) := by decide +kernel
theorem dX6_readsParcel_133 : decode cX6_readsParcel 133 = .ok (.getfield 7, 3) := by decide +kernel
theorem dX6_readsParcel_136 : decode cX6_readsParcel 136 = .ok (.sipush 681, 3) := by decide +kernel
theorem dX6_readsParcel_139 : decode cX6_readsParcel 139 = .ok (.aload_n 0, 1) := by decide +kernel
theorem dX6_readsParcel_140 : decode cX6_readsParcel 140 = .ok (.bipush 114, 2) := by decide +kernel
theorem dX6_readsParcel_142 : decode cX6_readsParcel 142 = .ok (.invokevirtual 145, 3) := by decide +kernel
theorem dX6_readsParcel_145 : decode cX6_readsParcel 145 = .ok (.ifCond .eq 7, 3) := by decide +kernel
theorem dX6_readsParcel_148 : decode cX6_readsParcel 148 = .ok (.iconst 0, 1) := by decide +kernel
theorem dX6_readsParcel_149 : decode cX6_readsParcel 149 = .ok (.goto 30, 3) := by decide +kernel
theorem dX6_readsParcel_152 : decode cX6_readsParcel 152 = .ok (.aload_n 0, 1) := by decide +kernel
theorem dX6_readsParcel_153 : decode cX6_readsParcel 153 = .ok (.bipush 99, 2) := by decide +kernel
theorem dX6_readsParcel_155 : decode cX6_readsParcel 155 = .ok (.invokevirtual 145, 3) := by decide +kernel
theorem dX6_readsParcel_158 : decode cX6_readsParcel 158 = .ok (.ifCond .eq 7, 3) := by decide +kernel
theorem dX6_readsParcel_161 : decode cX6_readsParcel 161 = .ok (.iconst 1, 1) := by decide +kernel
theorem dX6_readsParcel_162 : decode cX6_readsParcel 162 = .ok (.goto 17, 3) := by decide +kernel
theorem dX6_readsParcel_165 : decode cX6_readsParcel 165 = .ok (.aload_n 0, 1) := by decide +kernel
theorem dX6_readsParcel_166 : decode cX6_readsParcel 166 = .ok (.bipush 100, 2) := by decide +kernel
theorem dX6_readsParcel_168 : decode cX6_readsParcel 168 = .ok (.invokevirtual 145, 3) := by decide +kernel
theorem dX6_readsParcel_171 : decode cX6_readsParcel 171 = .ok (.ifCond .eq 7, 3) := by decide +kernel
theorem dX6_readsParcel_174 : decode cX6_readsParcel 174 = .ok (.iconst 2, 1) := by decide +kernel
theorem dX6_readsParcel_175 : decode cX6_readsParcel 175 = .ok (.goto 4, 3) := by decide +kernel
theorem dX6_readsParcel_178 : decode cX6_readsParcel 178 = .ok (.iconst (-1), 1) := by decide +kernel
theorem dX6_readsParcel_179 : decode cX6_readsParcel 179 = .ok (.iastore, 1) := by decide +kernel
theorem dX6_readsParcel_180 : decode cX6_readsParcel 180 = .ok (.aload_n 0, 1) := by decide +kernel
theorem dX6_readsParcel_181 : decode cX6_readsParcel 181 = .ok (.getfield 7, 3) := by decide +kernel
theorem dX6_readsParcel_184 : decode cX6_readsParcel 184 = .ok (.sipush 681, 3) := by decide +kernel
theorem dX6_readsParcel_187 : decode cX6_readsParcel 187 = .ok (.iaload, 1) := by decide +kernel
theorem dX6_readsParcel_188 : decode cX6_readsParcel 188 = .ok (.iconst (-1), 1) := by decide +kernel
theorem dX6_readsParcel_189 : decode cX6_readsParcel 189 = .ok (.if_icmp .eq 7, 3) := by decide +kernel
theorem dX6_readsParcel_192 : decode cX6_readsParcel 192 = .ok (.iconst 1, 1) := by decide +kernel
theorem dX6_readsParcel_193 : decode cX6_readsParcel 193 = .ok (.goto 4, 3) := by decide +kernel
theorem dX6_readsParcel_196 : decode cX6_readsParcel 196 = .ok (.iconst 0, 1) := by decide +kernel
theorem dX6_readsParcel_197 : decode cX6_readsParcel 197 = .ok (.ireturn, 1) := by decide +kernel
theorem dX6_error_0 : decode cX6_error 0 = .ok (.aload_n 0, 1) := by decide +kernel
theorem dX6_error_1 : decode cX6_error 1 = .ok (.iconst 0, 1) := by decide +kernel
theorem dX6_error_2 : decode cX6_error 2 = .ok (.putfield 138, 3) := by decide +kernel
theorem dX6_error_5 : decode cX6_error 5 = .ok (.aload_n 0, 1) := by decide +kernel
theorem dX6_error_6 : decode cX6_error 6 = .ok (.invokevirtual 152, 3) := by decide +kernel
theorem dX6_error_9 : decode cX6_error 9 = .ok (.ifCond .eq 30, 3) := by decide +kernel
theorem dX6_error_12 : decode cX6_error 12 = .ok (.aload_n 0, 1) := by decide +kernel
theorem dX6_error_13 : decode cX6_error 13 = .ok (.getfield 138, 3) := by decide +kernel
theorem dX6_error_16 : decode cX6_error 16 = .ok (.aload_n 0, 1) := by decide +kernel
theorem dX6_error_17 : decode cX6_error 17 = .ok (.getfield 135, 3) := by decide +kernel
theorem dX6_error_20 : decode cX6_error 20 = .ok (.if_icmp .ne 5, 3) := by decide +kernel
theorem dX6_error_23 : decode cX6_error 23 = .ok (.iconst (-1), 1) := by decide +kernel
theorem dX6_error_24 : decode cX6_error 24 = .ok (.ireturn, 1) := by decide +kernel
theorem dX6_error_25 : decode cX6_error 25 = .ok (.aload_n 0, 1) := by decide +kernel
theorem dX6_error_26 : decode cX6_error 26 = .ok (.bipush 59, 2) := by decide +kernel
theorem dX6_error_28 : decode cX6_error 28 = .ok (.invokevirtual 145, 3) := by decide +kernel
theorem dX6_error_31 : decode cX6_error 31 = .ok (.ifCond .ne (-26), 3) := by decide +kernel
theorem dX6_error_34 : decode cX6_error 34 = .ok (.aload_n 0, 1) := by decide +kernel
theorem dX6_error_35 : decode cX6_error 35 = .ok (.getfield 138, 3) := by decide +kernel
theorem dX6_error_38 : decode cX6_error 38 = .ok (.ireturn, 1) := by decide +kernel
theorem dX6_error_39 : decode cX6_error 39 = .ok (.aload_n 0, 1) := by decide +kernel
theorem dX6_error_40 : decode cX6_error 40 = .ok (.getfield 138, 3) := by decide +kernel
theorem dX6_error_43 : decode cX6_error 43 = .ok (.ireturn, 1) := by decide +kernel
theorem dX6_firstError_0 : decode cX6_firstError 0 = .ok (.aload_n 0, 1) := by decide +kernel
theorem dX6_firstError_1 : decode cX6_firstError 1 = .ok (.iconst 0, 1) := by decide +kernel
theorem dX6_firstError_2 : decode cX6_firstError 2 = .ok (.putfield 27, 3) := by decide +kernel
theorem dX6_firstError_5 : decode cX6_firstError 5 = .ok (.aload_n 0, 1) := by decide +kernel
theorem dX6_firstError_6 : decode cX6_firstError 6 = .ok (.invokevirtual 156, 3) := by decide +kernel
theorem dX6_firstError_9 : decode cX6_firstError 9 = .ok (.istore_n 1, 1) := by decide +kernel
theorem dX6_firstError_10 : decode cX6_firstError 10 = .ok (.iload_n 1, 1) := by decide +kernel
theorem dX6_firstError_11 : decode cX6_firstError 11 = .ok (.iconst (-1), 1) := by decide +kernel
theorem dX6_firstError_12 : decode cX6_firstError 12 = .ok (.if_icmp .ne 10, 3) := by decide +kernel
theorem dX6_firstError_15 : decode cX6_firstError 15 = .ok (.aload_n 0, 1) := by decide +kernel
theorem dX6_firstError_16 : decode cX6_firstError 16 = .ok (.getfield 135, 3) := by decide +kernel
theorem dX6_firstError_19 : decode cX6_firstError 19 = .ok (.goto 4, 3) := by decide +kernel
theorem dX6_firstError_22 : decode cX6_firstError 22 = .ok (.iload_n 1, 1) := by decide +kernel
theorem dX6_firstError_23 : decode cX6_firstError 23 = .ok (.ireturn, 1) := by decide +kernel
theorem dX6_run_0 : decode cX6_run 0 = .ok (.aload_n 0, 1) := by decide +kernel
theorem dX6_run_1 : decode cX6_run 1 = .ok (.aload_n 0, 1) := by decide +kernel
theorem dX6_run_2 : decode cX6_run 2 = .ok (.invokevirtual 156, 3) := by decide +kernel
theorem dX6_run_5 : decode cX6_run 5 = .ok (.iconst (-1), 1) := by decide +kernel
theorem dX6_run_6 : decode cX6_run 6 = .ok (.if_icmp .ne 7, 3) := by decide +kernel
theorem dX6_run_9 : decode cX6_run 9 = .ok (.iconst 1, 1) := by decide +kernel
theorem dX6_run_10 : decode cX6_run 10 = .ok (.goto 4, 3) := by decide +kernel
theorem dX6_run_13 : decode cX6_run 13 = .ok (.iconst 0, 1) := by decide +kernel
theorem dX6_run_14 : decode cX6_run 14 = .ok (.iconst 1, 1) := by decide +kernel
theorem dX6_run_15 : decode cX6_run 15 = .ok (.invokevirtual 111, 3) := by decide +kernel
theorem dX6_run_18 : decode cX6_run 18 = .ok (.ifCond .ne 5, 3) := by decide +kernel
theorem dX6_run_21 : decode cX6_run 21 = .ok (.iconst 0, 1) := by decide +kernel
theorem dX6_run_22 : decode cX6_run 22 = .ok (.ireturn, 1) := by decide +kernel
theorem dX6_run_23 : decode cX6_run 23 = .ok (.aload_n 0, 1) := by decide +kernel
theorem dX6_run_24 : decode cX6_run 24 = .ok (.invokevirtual 38, 3) := by decide +kernel
theorem dX6_run_27 : decode cX6_run 27 = .ok (.aload_n 0, 1) := by decide +kernel
theorem dX6_run_28 : decode cX6_run 28 = .ok (.iconst 0, 1) := by decide +kernel
theorem dX6_run_29 : decode cX6_run 29 = .ok (.putfield 138, 3) := by decide +kernel
theorem dX6_run_32 : decode cX6_run 32 = .ok (.iconst 0, 1) := by decide +kernel
theorem dX6_run_33 : decode cX6_run 33 = .ok (.istore_n 1, 1) := by decide +kernel
theorem dX6_run_34 : decode cX6_run 34 = .ok (.iconst 1, 1) := by decide +kernel
theorem dX6_run_35 : decode cX6_run 35 = .ok (.istore_n 2, 1) := by decide +kernel
theorem dX6_run_36 : decode cX6_run 36 = .ok (.iload_n 2, 1) := by decide +kernel
theorem dX6_run_37 : decode cX6_run 37 = .ok (.ifCond .eq 107, 3) := by decide +kernel
theorem dX6_run_40 : decode cX6_run 40 = .ok (.aload_n 0, 1) := by decide +kernel
theorem dX6_run_41 : decode cX6_run 41 = .ok (.invokevirtual 152, 3) := by decide +kernel
theorem dX6_run_44 : decode cX6_run 44 = .ok (.istore_n 3, 1) := by decide +kernel
theorem dX6_run_45 : decode cX6_run 45 = .ok (.aload_n 0, 1) := by decide +kernel
theorem dX6_run_46 : decode cX6_run 46 = .ok (.aload_n 0, 1) := by decide +kernel
theorem dX6_run_47 : decode cX6_run 47 = .ok (.getfield 7, 3) := by decide +kernel
theorem dX6_run_50 : decode cX6_run 50 = .ok (.sipush 675, 3) := by decide +kernel
theorem dX6_run_53 : decode cX6_run 53 = .ok (.iaload, 1) := by decide +kernel
theorem dX6_run_54 : decode cX6_run 54 = .ok (.aload_n 0, 1) := by decide +kernel
theorem dX6_run_55 : decode cX6_run 55 = .ok (.getfield 7, 3) := by decide +kernel
theorem dX6_run_58 : decode cX6_run 58 = .ok (.sipush 676, 3) := by decide +kernel
theorem dX6_run_61 : decode cX6_run 61 = .ok (.iaload, 1) := by decide +kernel
theorem dX6_run_62 : decode cX6_run 62 = .ok (.aload_n 0, 1) := by decide +kernel
theorem dX6_run_63 : decode cX6_run 63 = .ok (.getfield 7, 3) := by decide +kernel
theorem dX6_run_66 : decode cX6_run 66 = .ok (.sipush 677, 3) := by decide +kernel
theorem dX6_run_69 : decode cX6_run 69 = .ok (.iaload, 1) := by decide +kernel
theorem dX6_run_70 : decode cX6_run 70 = .ok (.aload_n 0, 1) := by decide +kernel
theorem dX6_run_71 : decode cX6_run 71 = .ok (.getfield 7, 3) := by decide +kernel
theorem dX6_run_74 : decode cX6_run 74 = .ok (.sipush 678, 3) := by decide +kernel
theorem dX6_run_77 : decode cX6_run 77 = .ok (.iaload, 1) := by decide +kernel
theorem dX6_run_78 : decode cX6_run 78 = .ok (.aload_n 0, 1) := by decide +kernel
theorem dX6_run_79 : decode cX6_run 79 = .ok (.getfield 7, 3) := by decide +kernel
theorem dX6_run_82 : decode cX6_run 82 = .ok (.sipush 679, 3) := by decide +kernel
theorem dX6_run_85 : decode cX6_run 85 = .ok (.iaload, 1) := by decide +kernel
theorem dX6_run_86 : decode cX6_run 86 = .ok (.aload_n 0, 1) := by decide +kernel
theorem dX6_run_87 : decode cX6_run 87 = .ok (.getfield 7, 3) := by decide +kernel
theorem dX6_run_90 : decode cX6_run 90 = .ok (.sipush 681, 3) := by decide +kernel
theorem dX6_run_93 : decode cX6_run 93 = .ok (.iaload, 1) := by decide +kernel
theorem dX6_run_94 : decode cX6_run 94 = .ok (.invokevirtual 115, 3) := by decide +kernel
theorem dX6_run_97 : decode cX6_run 97 = .ok (.iconst (-1), 1) := by decide +kernel
theorem dX6_run_98 : decode cX6_run 98 = .ok (.if_icmp .eq 7, 3) := by decide +kernel
theorem dX6_run_101 : decode cX6_run 101 = .ok (.iconst 1, 1) := by decide +kernel
theorem dX6_run_102 : decode cX6_run 102 = .ok (.goto 4, 3) := by decide +kernel
theorem dX6_run_105 : decode cX6_run 105 = .ok (.iconst 0, 1) := by decide +kernel
theorem dX6_run_106 : decode cX6_run 106 = .ok (.istore 4, 2) := by decide +kernel
theorem dX6_run_108 : decode cX6_run 108 = .ok (.iload_n 1, 1) := by decide +kernel
theorem dX6_run_109 : decode cX6_run 109 = .ok (.iload 4, 2) := by decide +kernel
theorem dX6_run_111 : decode cX6_run 111 = .ok (.ifCond .eq 7, 3) := by decide +kernel
theorem dX6_run_114 : decode cX6_run 114 = .ok (.iconst 1, 1) := by decide +kernel
theorem dX6_run_115 : decode cX6_run 115 = .ok (.goto 4, 3) := by decide +kernel
theorem dX6_run_118 : decode cX6_run 118 = .ok (.iconst 0, 1) := by decide +kernel
theorem dX6_run_119 : decode cX6_run 119 = .ok (.iadd, 1) := by decide +kernel
theorem dX6_run_120 : decode cX6_run 120 = .ok (.istore_n 1, 1) := by decide +kernel
theorem dX6_run_121 : decode cX6_run 121 = .ok (.iload 4, 2) := by decide +kernel
theorem dX6_run_123 : decode cX6_run 123 = .ok (.ifCond .eq 16, 3) := by decide +kernel
theorem dX6_run_126 : decode cX6_run 126 = .ok (.aload_n 0, 1) := by decide +kernel
theorem dX6_run_127 : decode cX6_run 127 = .ok (.bipush 59, 2) := by decide +kernel
theorem dX6_run_129 : decode cX6_run 129 = .ok (.invokevirtual 145, 3) := by decide +kernel
theorem dX6_run_132 : decode cX6_run 132 = .ok (.ifCond .eq 7, 3) := by decide +kernel
theorem dX6_run_135 : decode cX6_run 135 = .ok (.iconst 1, 1) := by decide +kernel
theorem dX6_run_136 : decode cX6_run 136 = .ok (.goto 4, 3) := by decide +kernel
theorem dX6_run_139 : decode cX6_run 139 = .ok (.iconst 0, 1) := by decide +kernel
theorem dX6_run_140 : decode cX6_run 140 = .ok (.istore_n 2, 1) := by decide +kernel
theorem dX6_run_141 : decode cX6_run 141 = .ok (.goto (-105), 3) := by decide +kernel
theorem dX6_run_144 : decode cX6_run 144 = .ok (.aload_n 0, 1) := by decide +kernel
theorem dX6_run_145 : decode cX6_run 145 = .ok (.iconst 0, 1) := by decide +kernel
theorem dX6_run_146 : decode cX6_run 146 = .ok (.putfield 135, 3) := by decide +kernel
theorem dX6_run_149 : decode cX6_run 149 = .ok (.iload_n 1, 1) := by decide +kernel
theorem dX6_run_150 : decode cX6_run 150 = .ok (.ireturn, 1) := by decide +kernel
theorem dX6_isSlot_0 : decode cX6_isSlot 0 = .ok (.iload_n 0, 1) := by decide +kernel
theorem dX6_isSlot_1 : decode cX6_isSlot 1 = .ok (.ifCond .eq 8, 3) := by decide +kernel
theorem dX6_isSlot_4 : decode cX6_isSlot 4 = .ok (.iload_n 0, 1) := by decide +kernel
theorem dX6_isSlot_5 : decode cX6_isSlot 5 = .ok (.iconst 1, 1) := by decide +kernel
theorem dX6_isSlot_6 : decode cX6_isSlot 6 = .ok (.if_icmp .ne 7, 3) := by decide +kernel
theorem dX6_isSlot_9 : decode cX6_isSlot 9 = .ok (.iconst 1, 1) := by decide +kernel
theorem dX6_isSlot_10 : decode cX6_isSlot 10 = .ok (.goto 4, 3) := by decide +kernel
theorem dX6_isSlot_13 : decode cX6_isSlot 13 = .ok (.iconst 0, 1) := by decide +kernel
theorem dX6_isSlot_14 : decode cX6_isSlot 14 = .ok (.ireturn, 1) := by decide +kernel
theorem dX6_keep_0 : decode cX6_keep 0 = .ok (.aload_n 0, 1) := by decide +kernel
theorem dX6_keep_1 : decode cX6_keep 1 = .ok (.iload_n 1, 1) := by decide +kernel
theorem dX6_keep_2 : decode cX6_keep 2 = .ok (.invokestatic 159, 3) := by decide +kernel
theorem dX6_keep_5 : decode cX6_keep 5 = .ok (.iconst 1, 1) := by decide +kernel
theorem dX6_keep_6 : decode cX6_keep 6 = .ok (.invokevirtual 111, 3) := by decide +kernel
theorem dX6_keep_9 : decode cX6_keep 9 = .ok (.ifCond .ne 5, 3) := by decide +kernel
theorem dX6_keep_12 : decode cX6_keep 12 = .ok (.iconst 0, 1) := by decide +kernel
theorem dX6_keep_13 : decode cX6_keep 13 = .ok (.ireturn, 1) := by decide +kernel
theorem dX6_keep_14 : decode cX6_keep 14 = .ok (.aload_n 0, 1) := by decide +kernel
theorem dX6_keep_15 : decode cX6_keep 15 = .ok (.iconst 0, 1) := by decide +kernel
theorem dX6_keep_16 : decode cX6_keep 16 = .ok (.bipush 7, 2) := by decide +kernel
theorem dX6_keep_18 : decode cX6_keep 18 = .ok (.iload_n 1, 1) := by decide +kernel
theorem dX6_keep_19 : decode cX6_keep 19 = .ok (.iadd, 1) := by decide +kernel
theorem dX6_keep_20 : decode cX6_keep 20 = .ok (.invokevirtual 34, 3) := by decide +kernel
theorem dX6_keep_23 : decode cX6_keep 23 = .ok (.aload_n 0, 1) := by decide +kernel
theorem dX6_keep_24 : decode cX6_keep 24 = .ok (.getfield 13, 3) := by decide +kernel
theorem dX6_keep_27 : decode cX6_keep 27 = .ok (.iload_n 1, 1) := by decide +kernel
theorem dX6_keep_28 : decode cX6_keep 28 = .ok (.iconst 1, 1) := by decide +kernel
theorem dX6_keep_29 : decode cX6_keep 29 = .ok (.bastore, 1) := by decide +kernel
theorem dX6_keep_30 : decode cX6_keep 30 = .ok (.aload_n 0, 1) := by decide +kernel
theorem dX6_keep_31 : decode cX6_keep 31 = .ok (.getfield 7, 3) := by decide +kernel
theorem dX6_keep_34 : decode cX6_keep 34 = .ok (.bipush 70, 2) := by decide +kernel
theorem dX6_keep_36 : decode cX6_keep 36 = .ok (.iaload, 1) := by decide +kernel
theorem dX6_keep_37 : decode cX6_keep 37 = .ok (.ireturn, 1) := by decide +kernel
theorem dX6_goBack_0 : decode cX6_goBack 0 = .ok (.aload_n 0, 1) := by decide +kernel
theorem dX6_goBack_1 : decode cX6_goBack 1 = .ok (.iload_n 1, 1) := by decide +kernel
theorem dX6_goBack_2 : decode cX6_goBack 2 = .ok (.invokestatic 159, 3) := by decide +kernel
theorem dX6_goBack_5 : decode cX6_goBack 5 = .ok (.iload_n 1, 1) := by decide +kernel
theorem dX6_goBack_6 : decode cX6_goBack 6 = .ok (.invokestatic 159, 3) := by decide +kernel
theorem dX6_goBack_9 : decode cX6_goBack 9 = .ok (.ifCond .eq 16, 3) := by decide +kernel
theorem dX6_goBack_12 : decode cX6_goBack 12 = .ok (.aload_n 0, 1) := by decide +kernel
theorem dX6_goBack_13 : decode cX6_goBack 13 = .ok (.getfield 13, 3) := by decide +kernel
theorem dX6_goBack_16 : decode cX6_goBack 16 = .ok (.iload_n 1, 1) := by decide +kernel
theorem dX6_goBack_17 : decode cX6_goBack 17 = .ok (.baload, 1) := by decide +kernel
theorem dX6_goBack_18 : decode cX6_goBack 18 = .ok (.ifCond .eq 7, 3) := by decide +kernel
theorem dX6_goBack_21 : decode cX6_goBack 21 = .ok (.iconst 1, 1) := by decide +kernel
theorem dX6_goBack_22 : decode cX6_goBack 22 = .ok (.goto 4, 3) := by decide +kernel
theorem dX6_goBack_25 : decode cX6_goBack 25 = .ok (.iconst 0, 1) := by decide +kernel
theorem dX6_goBack_26 : decode cX6_goBack 26 = .ok (.invokevirtual 111, 3) := by decide +kernel
theorem dX6_goBack_29 : decode cX6_goBack 29 = .ok (.ifCond .ne 5, 3) := by decide +kernel
theorem dX6_goBack_32 : decode cX6_goBack 32 = .ok (.iconst 0, 1) := by decide +kernel
theorem dX6_goBack_33 : decode cX6_goBack 33 = .ok (.ireturn, 1) := by decide +kernel
theorem dX6_goBack_34 : decode cX6_goBack 34 = .ok (.aload_n 0, 1) := by decide +kernel
theorem dX6_goBack_35 : decode cX6_goBack 35 = .ok (.invokevirtual 38, 3) := by decide +kernel
theorem dX6_goBack_38 : decode cX6_goBack 38 = .ok (.aload_n 0, 1) := by decide +kernel
theorem dX6_goBack_39 : decode cX6_goBack 39 = .ok (.bipush 7, 2) := by decide +kernel
theorem dX6_goBack_41 : decode cX6_goBack 41 = .ok (.iload_n 1, 1) := by decide +kernel
theorem dX6_goBack_42 : decode cX6_goBack 42 = .ok (.iadd, 1) := by decide +kernel
theorem dX6_goBack_43 : decode cX6_goBack 43 = .ok (.iconst 0, 1) := by decide +kernel
theorem dX6_goBack_44 : decode cX6_goBack 44 = .ok (.invokevirtual 34, 3) := by decide +kernel
theorem dX6_goBack_47 : decode cX6_goBack 47 = .ok (.aload_n 0, 1) := by decide +kernel
theorem dX6_goBack_48 : decode cX6_goBack 48 = .ok (.getfield 7, 3) := by decide +kernel
theorem dX6_goBack_51 : decode cX6_goBack 51 = .ok (.bipush 70, 2) := by decide +kernel
theorem dX6_goBack_53 : decode cX6_goBack 53 = .ok (.iaload, 1) := by decide +kernel
theorem dX6_goBack_54 : decode cX6_goBack 54 = .ok (.ireturn, 1) := by decide +kernel
theorem dX6_undo_0 : decode cX6_undo 0 = .ok (.aload_n 0, 1) := by decide +kernel
theorem dX6_undo_1 : decode cX6_undo 1 = .ok (.aload_n 0, 1) := by decide +kernel
theorem dX6_undo_2 : decode cX6_undo 2 = .ok (.getfield 31, 3) := by decide +kernel
theorem dX6_undo_5 : decode cX6_undo 5 = .ok (.ifCond .le 7, 3) := by decide +kernel
theorem dX6_undo_8 : decode cX6_undo 8 = .ok (.iconst 1, 1) := by decide +kernel
theorem dX6_undo_9 : decode cX6_undo 9 = .ok (.goto 4, 3) := by decide +kernel
theorem dX6_undo_12 : decode cX6_undo 12 = .ok (.iconst 0, 1) := by decide +kernel
theorem dX6_undo_13 : decode cX6_undo 13 = .ok (.iconst 1, 1) := by decide +kernel
theorem dX6_undo_14 : decode cX6_undo 14 = .ok (.invokevirtual 111, 3) := by decide +kernel
theorem dX6_undo_17 : decode cX6_undo 17 = .ok (.ifCond .ne 5, 3) := by decide +kernel
theorem dX6_undo_20 : decode cX6_undo 20 = .ok (.iconst 0, 1) := by decide +kernel
theorem dX6_undo_21 : decode cX6_undo 21 = .ok (.ireturn, 1) := by decide +kernel
theorem dX6_undo_22 : decode cX6_undo 22 = .ok (.aload_n 0, 1) := by decide +kernel
theorem dX6_undo_23 : decode cX6_undo 23 = .ok (.aload_n 0, 1) := by decide +kernel
theorem dX6_undo_24 : decode cX6_undo 24 = .ok (.getfield 31, 3) := by decide +kernel
theorem dX6_undo_27 : decode cX6_undo 27 = .ok (.iconst 0, 1) := by decide +kernel
theorem dX6_undo_28 : decode cX6_undo 28 = .ok (.invokevirtual 34, 3) := by decide +kernel
theorem dX6_undo_31 : decode cX6_undo 31 = .ok (.aload_n 0, 1) := by decide +kernel
theorem dX6_undo_32 : decode cX6_undo 32 = .ok (.dup, 1) := by decide +kernel
theorem dX6_undo_33 : decode cX6_undo 33 = .ok (.getfield 31, 3) := by decide +kernel
theorem dX6_undo_36 : decode cX6_undo 36 = .ok (.iconst 1, 1) := by decide +kernel
theorem dX6_undo_37 : decode cX6_undo 37 = .ok (.isub, 1) := by decide +kernel
theorem dX6_undo_38 : decode cX6_undo 38 = .ok (.putfield 31, 3) := by decide +kernel
theorem dX6_undo_41 : decode cX6_undo 41 = .ok (.aload_n 0, 1) := by decide +kernel
theorem dX6_undo_42 : decode cX6_undo 42 = .ok (.getfield 31, 3) := by decide +kernel
theorem dX6_undo_45 : decode cX6_undo 45 = .ok (.ireturn, 1) := by decide +kernel
theorem dX6_property_0 : decode cX6_property 0 = .ok (.iload_n 1, 1) := by decide +kernel
theorem dX6_property_1 : decode cX6_property 1 = .ok (.invokestatic 69, 3) := by decide +kernel
theorem dX6_property_4 : decode cX6_property 4 = .ok (.istore_n 3, 1) := by decide +kernel
theorem dX6_property_5 : decode cX6_property 5 = .ok (.iload_n 2, 1) := by decide +kernel
theorem dX6_property_6 : decode cX6_property 6 = .ok (.tableswitch 54 7 10 #[30, 36, 42, 48], 30) := by decide +kernel
theorem dX6_property_36 : decode cX6_property 36 = .ok (.aload_n 0, 1) := by decide +kernel
theorem dX6_property_37 : decode cX6_property 37 = .ok (.iload_n 3, 1) := by decide +kernel
theorem dX6_property_38 : decode cX6_property 38 = .ok (.invokevirtual 53, 3) := by decide +kernel
theorem dX6_property_41 : decode cX6_property 41 = .ok (.ireturn, 1) := by decide +kernel
theorem dX6_property_42 : decode cX6_property 42 = .ok (.aload_n 0, 1) := by decide +kernel
theorem dX6_property_43 : decode cX6_property 43 = .ok (.iload_n 3, 1) := by decide +kernel
theorem dX6_property_44 : decode cX6_property 44 = .ok (.invokevirtual 63, 3) := by decide +kernel
theorem dX6_property_47 : decode cX6_property 47 = .ok (.ireturn, 1) := by decide +kernel
theorem dX6_property_48 : decode cX6_property 48 = .ok (.aload_n 0, 1) := by decide +kernel
theorem dX6_property_49 : decode cX6_property 49 = .ok (.iload_n 3, 1) := by decide +kernel
theorem dX6_property_50 : decode cX6_property 50 = .ok (.invokevirtual 83, 3) := by decide +kernel
theorem dX6_property_53 : decode cX6_property 53 = .ok (.ireturn, 1) := by decide +kernel
theorem dX6_property_54 : decode cX6_property 54 = .ok (.aload_n 0, 1) := by decide +kernel
theorem dX6_property_55 : decode cX6_property 55 = .ok (.iload_n 3, 1) := by decide +kernel
theorem dX6_property_56 : decode cX6_property 56 = .ok (.invokevirtual 76, 3) := by decide +kernel
theorem dX6_property_59 : decode cX6_property 59 = .ok (.ireturn, 1) := by decide +kernel
theorem dX6_property_60 : decode cX6_property 60 = .ok (.aload_n 0, 1) := by decide +kernel
theorem dX6_property_61 : decode cX6_property 61 = .ok (.getfield 7, 3) := by decide +kernel
theorem dX6_property_64 : decode cX6_property 64 = .ok (.iload_n 3, 1) := by decide +kernel
theorem dX6_property_65 : decode cX6_property 65 = .ok (.iload_n 2, 1) := by decide +kernel
theorem dX6_property_66 : decode cX6_property 66 = .ok (.iadd, 1) := by decide +kernel
theorem dX6_property_67 : decode cX6_property 67 = .ok (.iaload, 1) := by decide +kernel
theorem dX6_property_68 : decode cX6_property 68 = .ok (.ireturn, 1) := by decide +kernel
theorem dX6_parcelOf_0 : decode cX6_parcelOf 0 = .ok (.aload_n 0, 1) := by decide +kernel
theorem dX6_parcelOf_1 : decode cX6_parcelOf 1 = .ok (.aload_n 0, 1) := by decide +kernel
theorem dX6_parcelOf_2 : decode cX6_parcelOf 2 = .ok (.iload_n 1, 1) := by decide +kernel
theorem dX6_parcelOf_3 : decode cX6_parcelOf 3 = .ok (.invokevirtual 119, 3) := by decide +kernel
theorem dX6_parcelOf_6 : decode cX6_parcelOf 6 = .ok (.iload_n 2, 1) := by decide +kernel
theorem dX6_parcelOf_7 : decode cX6_parcelOf 7 = .ok (.iconst 0, 1) := by decide +kernel
theorem dX6_parcelOf_8 : decode cX6_parcelOf 8 = .ok (.bipush 10, 2) := by decide +kernel
theorem dX6_parcelOf_10 : decode cX6_parcelOf 10 = .ok (.invokestatic 41, 3) := by decide +kernel
theorem dX6_parcelOf_13 : decode cX6_parcelOf 13 = .ok (.invokevirtual 111, 3) := by decide +kernel
theorem dX6_parcelOf_16 : decode cX6_parcelOf 16 = .ok (.ifCond .eq 12, 3) := by decide +kernel
theorem dX6_parcelOf_19 : decode cX6_parcelOf 19 = .ok (.aload_n 0, 1) := by decide +kernel
theorem dX6_parcelOf_20 : decode cX6_parcelOf 20 = .ok (.iload_n 1, 1) := by decide +kernel
theorem dX6_parcelOf_21 : decode cX6_parcelOf 21 = .ok (.iload_n 2, 1) := by decide +kernel
theorem dX6_parcelOf_22 : decode cX6_parcelOf 22 = .ok (.invokevirtual 162, 3) := by decide +kernel
theorem dX6_parcelOf_25 : decode cX6_parcelOf 25 = .ok (.goto 4, 3) := by decide +kernel
theorem dX6_parcelOf_28 : decode cX6_parcelOf 28 = .ok (.iconst 0, 1) := by decide +kernel
theorem dX6_parcelOf_29 : decode cX6_parcelOf 29 = .ok (.ireturn, 1) := by decide +kernel
theorem dX6_rateDown_0 : decode cX6_rateDown 0 = .ok (.iload_n 1, 1) := by decide +kernel
theorem dX6_rateDown_1 : decode cX6_rateDown 1 = .ok (.invokestatic 45, 3) := by decide +kernel
theorem dX6_rateDown_4 : decode cX6_rateDown 4 = .ok (.istore_n 2, 1) := by decide +kernel
theorem dX6_rateDown_5 : decode cX6_rateDown 5 = .ok (.iload_n 1, 1) := by decide +kernel
theorem dX6_rateDown_6 : decode cX6_rateDown 6 = .ok (.invokestatic 45, 3) := by decide +kernel
theorem dX6_rateDown_9 : decode cX6_rateDown 9 = .ok (.iconst 1, 1) := by decide +kernel
theorem dX6_rateDown_10 : decode cX6_rateDown 10 = .ok (.isub, 1) := by decide +kernel
theorem dX6_rateDown_11 : decode cX6_rateDown 11 = .ok (.istore_n 3, 1) := by decide +kernel
theorem dX6_rateDown_12 : decode cX6_rateDown 12 = .ok (.iload_n 3, 1) := by decide +kernel
theorem dX6_rateDown_13 : decode cX6_rateDown 13 = .ok (.ifCond .lt 34, 3) := by decide +kernel
theorem dX6_rateDown_16 : decode cX6_rateDown 16 = .ok (.aload_n 0, 1) := by decide +kernel
theorem dX6_rateDown_17 : decode cX6_rateDown 17 = .ok (.getfield 7, 3) := by decide +kernel
theorem dX6_rateDown_20 : decode cX6_rateDown 20 = .ok (.iconst 4, 1) := by decide +kernel
theorem dX6_rateDown_21 : decode cX6_rateDown 21 = .ok (.iload_n 3, 1) := by decide +kernel
theorem dX6_rateDown_22 : decode cX6_rateDown 22 = .ok (.iadd, 1) := by decide +kernel
theorem dX6_rateDown_23 : decode cX6_rateDown 23 = .ok (.iaload, 1) := by decide +kernel
theorem dX6_rateDown_24 : decode cX6_rateDown 24 = .ok (.aload_n 0, 1) := by decide +kernel
theorem dX6_rateDown_25 : decode cX6_rateDown 25 = .ok (.getfield 7, 3) := by decide +kernel
theorem dX6_rateDown_28 : decode cX6_rateDown 28 = .ok (.iconst 4, 1) := by decide +kernel
theorem dX6_rateDown_29 : decode cX6_rateDown 29 = .ok (.iload_n 2, 1) := by decide +kernel
theorem dX6_rateDown_30 : decode cX6_rateDown 30 = .ok (.iadd, 1) := by decide +kernel
theorem dX6_rateDown_31 : decode cX6_rateDown 31 = .ok (.iaload, 1) := by decide +kernel
theorem dX6_rateDown_32 : decode cX6_rateDown 32 = .ok (.if_icmp .le 7, 3) := by decide +kernel
theorem dX6_rateDown_35 : decode cX6_rateDown 35 = .ok (.iload_n 3, 1) := by decide +kernel
theorem dX6_rateDown_36 : decode cX6_rateDown 36 = .ok (.goto 4, 3) := by decide +kernel
theorem dX6_rateDown_39 : decode cX6_rateDown 39 = .ok (.iload_n 2, 1) := by decide +kernel
theorem dX6_rateDown_40 : decode cX6_rateDown 40 = .ok (.istore_n 2, 1) := by decide +kernel
theorem dX6_rateDown_41 : decode cX6_rateDown 41 = .ok (.iinc 3 (-1), 3) := by decide +kernel
theorem dX6_rateDown_44 : decode cX6_rateDown 44 = .ok (.goto (-32), 3) := by decide +kernel
theorem dX6_rateDown_47 : decode cX6_rateDown 47 = .ok (.aload_n 0, 1) := by decide +kernel
theorem dX6_rateDown_48 : decode cX6_rateDown 48 = .ok (.getfield 7, 3) := by decide +kernel
theorem dX6_rateDown_51 : decode cX6_rateDown 51 = .ok (.iconst 4, 1) := by decide +kernel
theorem dX6_rateDown_52 : decode cX6_rateDown 52 = .ok (.iload_n 2, 1) := by decide +kernel
theorem dX6_rateDown_53 : decode cX6_rateDown 53 = .ok (.iadd, 1) := by decide +kernel
theorem dX6_rateDown_54 : decode cX6_rateDown 54 = .ok (.iaload, 1) := by decide +kernel
theorem dX6_rateDown_55 : decode cX6_rateDown 55 = .ok (.ireturn, 1) := by decide +kernel
theorem dX6_rated_0 : decode cX6_rated 0 = .ok (.iload_n 2, 1) := by decide +kernel
theorem dX6_rated_1 : decode cX6_rated 1 = .ok (.ifCond .ne 11, 3) := by decide +kernel
theorem dX6_rated_4 : decode cX6_rated 4 = .ok (.aload_n 0, 1) := by decide +kernel
theorem dX6_rated_5 : decode cX6_rated 5 = .ok (.iload_n 1, 1) := by decide +kernel
theorem dX6_rated_6 : decode cX6_rated 6 = .ok (.invokevirtual 56, 3) := by decide +kernel
theorem dX6_rated_9 : decode cX6_rated 9 = .ok (.goto 8, 3) := by decide +kernel
theorem dX6_rated_12 : decode cX6_rated 12 = .ok (.aload_n 0, 1) := by decide +kernel
theorem dX6_rated_13 : decode cX6_rated 13 = .ok (.iload_n 1, 1) := by decide +kernel
theorem dX6_rated_14 : decode cX6_rated 14 = .ok (.invokevirtual 165, 3) := by decide +kernel
theorem dX6_rated_17 : decode cX6_rated 17 = .ok (.ireturn, 1) := by decide +kernel
theorem dX6_rate_0 : decode cX6_rate 0 = .ok (.aload_n 0, 1) := by decide +kernel
theorem dX6_rate_1 : decode cX6_rate 1 = .ok (.iload_n 1, 1) := by decide +kernel
theorem dX6_rate_2 : decode cX6_rate 2 = .ok (.iconst 1, 1) := by decide +kernel
theorem dX6_rate_3 : decode cX6_rate 3 = .ok (.sipush 999, 3) := by decide +kernel
theorem dX6_rate_6 : decode cX6_rate 6 = .ok (.invokestatic 41, 3) := by decide +kernel
theorem dX6_rate_9 : decode cX6_rate 9 = .ok (.ifCond .eq 16, 3) := by decide +kernel
theorem dX6_rate_12 : decode cX6_rate 12 = .ok (.iload_n 2, 1) := by decide +kernel
theorem dX6_rate_13 : decode cX6_rate 13 = .ok (.iconst 0, 1) := by decide +kernel
theorem dX6_rate_14 : decode cX6_rate 14 = .ok (.iconst 1, 1) := by decide +kernel
theorem dX6_rate_15 : decode cX6_rate 15 = .ok (.invokestatic 41, 3) := by decide +kernel
theorem dX6_rate_18 : decode cX6_rate 18 = .ok (.ifCond .eq 7, 3) := by decide +kernel
theorem dX6_rate_21 : decode cX6_rate 21 = .ok (.iconst 1, 1) := by decide +kernel
theorem dX6_rate_22 : decode cX6_rate 22 = .ok (.goto 4, 3) := by decide +kernel
theorem dX6_rate_25 : decode cX6_rate 25 = .ok (.iconst 0, 1) := by decide +kernel
theorem dX6_rate_26 : decode cX6_rate 26 = .ok (.iconst 1, 1) := by decide +kernel
theorem dX6_rate_27 : decode cX6_rate 27 = .ok (.invokevirtual 111, 3) := by decide +kernel
theorem dX6_rate_30 : decode cX6_rate 30 = .ok (.ifCond .eq 12, 3) := by decide +kernel
theorem dX6_rate_33 : decode cX6_rate 33 = .ok (.aload_n 0, 1) := by decide +kernel
theorem dX6_rate_34 : decode cX6_rate 34 = .ok (.iload_n 1, 1) := by decide +kernel
theorem dX6_rate_35 : decode cX6_rate 35 = .ok (.iload_n 2, 1) := by decide +kernel
theorem dX6_rate_36 : decode cX6_rate 36 = .ok (.invokevirtual 168, 3) := by decide +kernel
theorem dX6_rate_39 : decode cX6_rate 39 = .ok (.goto 4, 3) := by decide +kernel
theorem dX6_rate_42 : decode cX6_rate 42 = .ok (.iconst 0, 1) := by decide +kernel
theorem dX6_rate_43 : decode cX6_rate 43 = .ok (.ireturn, 1) := by decide +kernel
theorem dX6_parcels_0 : decode cX6_parcels 0 = .ok (.iconst 0, 1) := by decide +kernel
theorem dX6_parcels_1 : decode cX6_parcels 1 = .ok (.istore_n 2, 1) := by decide +kernel
theorem dX6_parcels_2 : decode cX6_parcels 2 = .ok (.iconst 0, 1) := by decide +kernel
theorem dX6_parcels_3 : decode cX6_parcels 3 = .ok (.istore_n 3, 1) := by decide +kernel
theorem dX6_parcels_4 : decode cX6_parcels 4 = .ok (.iload_n 3, 1) := by decide +kernel
theorem dX6_parcels_5 : decode cX6_parcels 5 = .ok (.aload_n 0, 1) := by decide +kernel
theorem dX6_parcels_6 : decode cX6_parcels 6 = .ok (.getfield 7, 3) := by decide +kernel
theorem dX6_parcels_9 : decode cX6_parcels 9 = .ok (.bipush 20, 2) := by decide +kernel
theorem dX6_parcels_11 : decode cX6_parcels 11 = .ok (.iaload, 1) := by decide +kernel
theorem dX6_parcels_12 : decode cX6_parcels 12 = .ok (.if_icmp .ge 46, 3) := by decide +kernel
theorem dX6_parcels_15 : decode cX6_parcels 15 = .ok (.iload_n 2, 1) := by decide +kernel
theorem dX6_parcels_16 : decode cX6_parcels 16 = .ok (.iload_n 1, 1) := by decide +kernel
theorem dX6_parcels_17 : decode cX6_parcels 17 = .ok (.ifCond .eq 17, 3) := by decide +kernel
theorem dX6_parcels_20 : decode cX6_parcels 20 = .ok (.aload_n 0, 1) := by decide +kernel
theorem dX6_parcels_21 : decode cX6_parcels 21 = .ok (.iload_n 3, 1) := by decide +kernel
theorem dX6_parcels_22 : decode cX6_parcels 22 = .ok (.invokestatic 69, 3) := by decide +kernel
theorem dX6_parcels_25 : decode cX6_parcels 25 = .ok (.invokevirtual 59, 3) := by decide +kernel
theorem dX6_parcels_28 : decode cX6_parcels 28 = .ok (.ifCond .eq 21, 3) := by decide +kernel
theorem dX6_parcels_31 : decode cX6_parcels 31 = .ok (.goto 14, 3) := by decide +kernel
theorem dX6_parcels_34 : decode cX6_parcels 34 = .ok (.aload_n 0, 1) := by decide +kernel
theorem dX6_parcels_35 : decode cX6_parcels 35 = .ok (.iload_n 3, 1) := by decide +kernel
theorem dX6_parcels_36 : decode cX6_parcels 36 = .ok (.invokestatic 69, 3) := by decide +kernel
theorem dX6_parcels_39 : decode cX6_parcels 39 = .ok (.invokevirtual 76, 3) := by decide +kernel
theorem dX6_parcels_42 : decode cX6_parcels 42 = .ok (.ifCond .ne 7, 3) := by decide +kernel
theorem dX6_parcels_45 : decode cX6_parcels 45 = .ok (.iconst 1, 1) := by decide +kernel
theorem dX6_parcels_46 : decode cX6_parcels 46 = .ok (.goto 4, 3) := by decide +kernel
theorem dX6_parcels_49 : decode cX6_parcels 49 = .ok (.iconst 0, 1) := by decide +kernel
theorem dX6_parcels_50 : decode cX6_parcels 50 = .ok (.iadd, 1) := by decide +kernel
theorem dX6_parcels_51 : decode cX6_parcels 51 = .ok (.istore_n 2, 1) := by decide +kernel
theorem dX6_parcels_52 : decode cX6_parcels 52 = .ok (.iinc 3 1, 3) := by decide +kernel
theorem dX6_parcels_55 : decode cX6_parcels 55 = .ok (.goto (-51), 3) := by decide +kernel
theorem dX6_parcels_58 : decode cX6_parcels 58 = .ok (.iload_n 2, 1) := by decide +kernel
theorem dX6_parcels_59 : decode cX6_parcels 59 = .ok (.ireturn, 1) := by decide +kernel
theorem dX6_lowBands_0 : decode cX6_lowBands 0 = .ok (.iconst 0, 1) := by decide +kernel
theorem dX6_lowBands_1 : decode cX6_lowBands 1 = .ok (.istore_n 1, 1) := by decide +kernel
theorem dX6_lowBands_2 : decode cX6_lowBands 2 = .ok (.iconst 0, 1) := by decide +kernel
theorem dX6_lowBands_3 : decode cX6_lowBands 3 = .ok (.istore_n 2, 1) := by decide +kernel
theorem dX6_lowBands_4 : decode cX6_lowBands 4 = .ok (.iconst 0, 1) := by decide +kernel
theorem dX6_lowBands_5 : decode cX6_lowBands 5 = .ok (.istore_n 3, 1) := by decide +kernel
theorem dX6_lowBands_6 : decode cX6_lowBands 6 = .ok (.iload_n 3, 1) := by decide +kernel
theorem dX6_lowBands_7 : decode cX6_lowBands 7 = .ok (.bipush 12, 2) := by decide +kernel
theorem dX6_lowBands_9 : decode cX6_lowBands 9 = .ok (.if_icmp .ge 42, 3) := by decide +kernel
theorem dX6_lowBands_12 : decode cX6_lowBands 12 = .ok (.iload_n 1, 1) := by decide +kernel
theorem dX6_lowBands_13 : decode cX6_lowBands 13 = .ok (.aload_n 0, 1) := by decide +kernel
theorem dX6_lowBands_14 : decode cX6_lowBands 14 = .ok (.getfield 7, 3) := by decide +kernel
theorem dX6_lowBands_17 : decode cX6_lowBands 17 = .ok (.iconst 4, 1) := by decide +kernel
theorem dX6_lowBands_18 : decode cX6_lowBands 18 = .ok (.iload_n 3, 1) := by decide +kernel
theorem dX6_lowBands_19 : decode cX6_lowBands 19 = .ok (.iadd, 1) := by decide +kernel
theorem dX6_lowBands_20 : decode cX6_lowBands 20 = .ok (.iaload, 1) := by decide +kernel
theorem dX6_lowBands_21 : decode cX6_lowBands 21 = .ok (.iload_n 2, 1) := by decide +kernel
theorem dX6_lowBands_22 : decode cX6_lowBands 22 = .ok (.if_icmp .ge 7, 3) := by decide +kernel
theorem dX6_lowBands_25 : decode cX6_lowBands 25 = .ok (.iconst 1, 1) := by decide +kernel
theorem dX6_lowBands_26 : decode cX6_lowBands 26 = .ok (.goto 4, 3) := by decide +kernel
theorem dX6_lowBands_29 : decode cX6_lowBands 29 = .ok (.iconst 0, 1) := by decide +kernel
theorem dX6_lowBands_30 : decode cX6_lowBands 30 = .ok (.iadd, 1) := by decide +kernel
theorem dX6_lowBands_31 : decode cX6_lowBands 31 = .ok (.istore_n 1, 1) := by decide +kernel
theorem dX6_lowBands_32 : decode cX6_lowBands 32 = .ok (.aload_n 0, 1) := by decide +kernel
theorem dX6_lowBands_33 : decode cX6_lowBands 33 = .ok (.getfield 7, 3) := by decide +kernel
theorem dX6_lowBands_36 : decode cX6_lowBands 36 = .ok (.iconst 4, 1) := by decide +kernel
theorem dX6_lowBands_37 : decode cX6_lowBands 37 = .ok (.iload_n 3, 1) := by decide +kernel
theorem dX6_lowBands_38 : decode cX6_lowBands 38 = .ok (.iadd, 1) := by decide +kernel
theorem dX6_lowBands_39 : decode cX6_lowBands 39 = .ok (.iaload, 1) := by decide +kernel
theorem dX6_lowBands_40 : decode cX6_lowBands 40 = .ok (.iload_n 2, 1) := by decide +kernel
theorem dX6_lowBands_41 : decode cX6_lowBands 41 = .ok (.invokestatic 49, 3) := by decide +kernel
theorem dX6_lowBands_44 : decode cX6_lowBands 44 = .ok (.istore_n 2, 1) := by decide +kernel
theorem dX6_lowBands_45 : decode cX6_lowBands 45 = .ok (.iinc 3 1, 3) := by decide +kernel
theorem dX6_lowBands_48 : decode cX6_lowBands 48 = .ok (.goto (-42), 3) := by decide +kernel
theorem dX6_lowBands_51 : decode cX6_lowBands 51 = .ok (.iload_n 1, 1) := by decide +kernel
theorem dX6_lowBands_52 : decode cX6_lowBands 52 = .ok (.ireturn, 1) := by decide +kernel
theorem dX6_counted_0 : decode cX6_counted 0 = .ok (.iload_n 1, 1) := by decide +kernel
theorem dX6_counted_1 : decode cX6_counted 1 = .ok (.tableswitch 88 0 9 #[55, 63, 63, 88, 88, 88, 88, 88, 78, 83], 55) := by decide +kernel
theorem dX6_counted_56 : decode cX6_counted 56 = .ok (.aload_n 0, 1) := by decide +kernel
theorem dX6_counted_57 : decode cX6_counted 57 = .ok (.getfield 7, 3) := by decide +kernel
theorem dX6_counted_60 : decode cX6_counted 60 = .ok (.bipush 20, 2) := by decide +kernel
theorem dX6_counted_62 : decode cX6_counted 62 = .ok (.iaload, 1) := by decide +kernel
theorem dX6_counted_63 : decode cX6_counted 63 = .ok (.ireturn, 1) := by decide +kernel
theorem dX6_counted_64 : decode cX6_counted 64 = .ok (.aload_n 0, 1) := by decide +kernel
theorem dX6_counted_65 : decode cX6_counted 65 = .ok (.iload_n 1, 1) := by decide +kernel
theorem dX6_counted_66 : decode cX6_counted 66 = .ok (.iconst 2, 1) := by decide +kernel
theorem dX6_counted_67 : decode cX6_counted 67 = .ok (.if_icmp .ne 7, 3) := by decide +kernel
theorem dX6_counted_70 : decode cX6_counted 70 = .ok (.iconst 1, 1) := by decide +kernel
theorem dX6_counted_71 : decode cX6_counted 71 = .ok (.goto 4, 3) := by decide +kernel
theorem dX6_counted_74 : decode cX6_counted 74 = .ok (.iconst 0, 1) := by decide +kernel
theorem dX6_counted_75 : decode cX6_counted 75 = .ok (.invokevirtual 171, 3) := by decide +kernel
theorem dX6_counted_78 : decode cX6_counted 78 = .ok (.ireturn, 1) := by decide +kernel
theorem dX6_counted_79 : decode cX6_counted 79 = .ok (.aload_n 0, 1) := by decide +kernel
theorem dX6_counted_80 : decode cX6_counted 80 = .ok (.invokevirtual 175, 3) := by decide +kernel
theorem dX6_counted_83 : decode cX6_counted 83 = .ok (.ireturn, 1) := by decide +kernel
theorem dX6_counted_84 : decode cX6_counted 84 = .ok (.aload_n 0, 1) := by decide +kernel
theorem dX6_counted_85 : decode cX6_counted 85 = .ok (.getfield 31, 3) := by decide +kernel
theorem dX6_counted_88 : decode cX6_counted 88 = .ok (.ireturn, 1) := by decide +kernel
theorem dX6_counted_89 : decode cX6_counted 89 = .ok (.aload_n 0, 1) := by decide +kernel
theorem dX6_counted_90 : decode cX6_counted 90 = .ok (.getfield 7, 3) := by decide +kernel
theorem dX6_counted_93 : decode cX6_counted 93 = .ok (.bipush 70, 2) := by decide +kernel
theorem dX6_counted_95 : decode cX6_counted 95 = .ok (.iload_n 1, 1) := by decide +kernel
theorem dX6_counted_96 : decode cX6_counted 96 = .ok (.iadd, 1) := by decide +kernel
theorem dX6_counted_97 : decode cX6_counted 97 = .ok (.iconst 3, 1) := by decide +kernel
theorem dX6_counted_98 : decode cX6_counted 98 = .ok (.isub, 1) := by decide +kernel
theorem dX6_counted_99 : decode cX6_counted 99 = .ok (.iaload, 1) := by decide +kernel
theorem dX6_counted_100 : decode cX6_counted 100 = .ok (.ireturn, 1) := by decide +kernel
theorem dX6_count_0 : decode cX6_count 0 = .ok (.aload_n 0, 1) := by decide +kernel
theorem dX6_count_1 : decode cX6_count 1 = .ok (.iload_n 1, 1) := by decide +kernel
theorem dX6_count_2 : decode cX6_count 2 = .ok (.iconst 0, 1) := by decide +kernel
theorem dX6_count_3 : decode cX6_count 3 = .ok (.bipush 9, 2) := by decide +kernel
theorem dX6_count_5 : decode cX6_count 5 = .ok (.invokestatic 41, 3) := by decide +kernel
theorem dX6_count_8 : decode cX6_count 8 = .ok (.iconst 1, 1) := by decide +kernel
theorem dX6_count_9 : decode cX6_count 9 = .ok (.invokevirtual 111, 3) := by decide +kernel
theorem dX6_count_12 : decode cX6_count 12 = .ok (.ifCond .eq 11, 3) := by decide +kernel
theorem dX6_count_15 : decode cX6_count 15 = .ok (.aload_n 0, 1) := by decide +kernel
theorem dX6_count_16 : decode cX6_count 16 = .ok (.iload_n 1, 1) := by decide +kernel
theorem dX6_count_17 : decode cX6_count 17 = .ok (.invokevirtual 178, 3) := by decide +kernel
theorem dX6_count_20 : decode cX6_count 20 = .ok (.goto 4, 3) := by decide +kernel
theorem dX6_count_23 : decode cX6_count 23 = .ok (.iconst 0, 1) := by decide +kernel
theorem dX6_count_24 : decode cX6_count 24 = .ok (.ireturn, 1) := by decide +kernel
theorem dX6_setting_0 : decode cX6_setting 0 = .ok (.aload_n 0, 1) := by decide +kernel
theorem dX6_setting_1 : decode cX6_setting 1 = .ok (.iload_n 1, 1) := by decide +kernel
theorem dX6_setting_2 : decode cX6_setting 2 = .ok (.iconst 0, 1) := by decide +kernel
theorem dX6_setting_3 : decode cX6_setting 3 = .ok (.iconst 3, 1) := by decide +kernel
theorem dX6_setting_4 : decode cX6_setting 4 = .ok (.invokestatic 41, 3) := by decide +kernel
theorem dX6_setting_7 : decode cX6_setting 7 = .ok (.iconst 1, 1) := by decide +kernel
theorem dX6_setting_8 : decode cX6_setting 8 = .ok (.invokevirtual 111, 3) := by decide +kernel
theorem dX6_setting_11 : decode cX6_setting 11 = .ok (.ifCond .eq 12, 3) := by decide +kernel
theorem dX6_setting_14 : decode cX6_setting 14 = .ok (.aload_n 0, 1) := by decide +kernel
theorem dX6_setting_15 : decode cX6_setting 15 = .ok (.getfield 7, 3) := by decide +kernel
theorem dX6_setting_18 : decode cX6_setting 18 = .ok (.iload_n 1, 1) := by decide +kernel
theorem dX6_setting_19 : decode cX6_setting 19 = .ok (.iaload, 1) := by decide +kernel
theorem dX6_setting_20 : decode cX6_setting 20 = .ok (.goto 4, 3) := by decide +kernel
theorem dX6_setting_23 : decode cX6_setting 23 = .ok (.iconst 0, 1) := by decide +kernel
theorem dX6_setting_24 : decode cX6_setting 24 = .ok (.ireturn, 1) := by decide +kernel
theorem dX6_wayFor_0 : decode cX6_wayFor 0 = .ok (.iconst (-1), 1) := by decide +kernel
theorem dX6_wayFor_1 : decode cX6_wayFor 1 = .ok (.istore_n 2, 1) := by decide +kernel
theorem dX6_wayFor_2 : decode cX6_wayFor 2 = .ok (.iconst 0, 1) := by decide +kernel
theorem dX6_wayFor_3 : decode cX6_wayFor 3 = .ok (.istore_n 3, 1) := by decide +kernel
theorem dX6_wayFor_4 : decode cX6_wayFor 4 = .ok (.iconst 0, 1) := by decide +kernel
theorem dX6_wayFor_5 : decode cX6_wayFor 5 = .ok (.istore 4, 2) := by decide +kernel
theorem dX6_wayFor_7 : decode cX6_wayFor 7 = .ok (.iload 4, 2) := by decide +kernel
theorem dX6_wayFor_9 : decode cX6_wayFor 9 = .ok (.bipush 7, 2) := by decide +kernel
theorem dX6_wayFor_11 : decode cX6_wayFor 11 = .ok (.if_icmp .ge 32, 3) := by decide +kernel
theorem dX6_wayFor_14 : decode cX6_wayFor 14 = .ok (.aload_n 0, 1) := by decide +kernel
theorem dX6_wayFor_15 : decode cX6_wayFor 15 = .ok (.getfield 7, 3) := by decide +kernel
theorem dX6_wayFor_18 : decode cX6_wayFor 18 = .ok (.sipush 675, 3) := by decide +kernel
theorem dX6_wayFor_21 : decode cX6_wayFor 21 = .ok (.iload 4, 2) := by decide +kernel
theorem dX6_wayFor_23 : decode cX6_wayFor 23 = .ok (.iadd, 1) := by decide +kernel
theorem dX6_wayFor_24 : decode cX6_wayFor 24 = .ok (.aload_n 0, 1) := by decide +kernel
theorem dX6_wayFor_25 : decode cX6_wayFor 25 = .ok (.getfield 7, 3) := by decide +kernel
theorem dX6_wayFor_28 : decode cX6_wayFor 28 = .ok (.iload_n 1, 1) := by decide +kernel
theorem dX6_wayFor_29 : decode cX6_wayFor 29 = .ok (.invokestatic 69, 3) := by decide +kernel
theorem dX6_wayFor_32 : decode cX6_wayFor 32 = .ok (.iload 4, 2) := by decide +kernel
theorem dX6_wayFor_34 : decode cX6_wayFor 34 = .ok (.iadd, 1) := by decide +kernel
theorem dX6_wayFor_35 : decode cX6_wayFor 35 = .ok (.iaload, 1) := by decide +kernel
theorem dX6_wayFor_36 : decode cX6_wayFor 36 = .ok (.iastore, 1) := by decide +kernel
theorem dX6_wayFor_37 : decode cX6_wayFor 37 = .ok (.iinc 4 1, 3) := by decide +kernel
theorem dX6_wayFor_40 : decode cX6_wayFor 40 = .ok (.goto (-33), 3) := by decide +kernel
theorem dX6_wayFor_43 : decode cX6_wayFor 43 = .ok (.iconst 0, 1) := by decide +kernel
theorem dX6_wayFor_44 : decode cX6_wayFor 44 = .ok (.istore 4, 2) := by decide +kernel
theorem dX6_wayFor_46 : decode cX6_wayFor 46 = .ok (.iload 4, 2) := by decide +kernel
theorem dX6_wayFor_48 : decode cX6_wayFor 48 = .ok (.iconst 3, 1) := by decide +kernel
theorem dX6_wayFor_49 : decode cX6_wayFor 49 = .ok (.if_icmp .ge 81, 3) := by decide +kernel
theorem dX6_wayFor_52 : decode cX6_wayFor 52 = .ok (.aload_n 0, 1) := by decide +kernel
theorem dX6_wayFor_53 : decode cX6_wayFor 53 = .ok (.getfield 7, 3) := by decide +kernel
theorem dX6_wayFor_56 : decode cX6_wayFor 56 = .ok (.sipush 681, 3) := by decide +kernel
theorem dX6_wayFor_59 : decode cX6_wayFor 59 = .ok (.iload 4, 2) := by decide +kernel
theorem dX6_wayFor_61 : decode cX6_wayFor 61 = .ok (.iastore, 1) := by decide +kernel
theorem dX6_wayFor_62 : decode cX6_wayFor 62 = .ok (.aload_n 0, 1) := by decide +kernel
theorem dX6_wayFor_63 : decode cX6_wayFor 63 = .ok (.sipush 675, 3) := by decide +kernel
theorem dX6_wayFor_66 : decode cX6_wayFor 66 = .ok (.invokevirtual 76, 3) := by decide +kernel
theorem dX6_wayFor_69 : decode cX6_wayFor 69 = .ok (.ifCond .ne 23, 3) := by decide +kernel
theorem dX6_wayFor_72 : decode cX6_wayFor 72 = .ok (.iload_n 2, 1) := by decide +kernel
theorem dX6_wayFor_73 : decode cX6_wayFor 73 = .ok (.iconst (-1), 1) := by decide +kernel
theorem dX6_wayFor_74 : decode cX6_wayFor 74 = .ok (.if_icmp .eq 14, 3) := by decide +kernel
theorem dX6_wayFor_77 : decode cX6_wayFor 77 = .ok (.aload_n 0, 1) := by decide +kernel
theorem dX6_wayFor_78 : decode cX6_wayFor 78 = .ok (.sipush 675, 3) := by decide +kernel
theorem dX6_wayFor_81 : decode cX6_wayFor 81 = .ok (.invokevirtual 83, 3) := by decide +kernel
theorem dX6_wayFor_84 : decode cX6_wayFor 84 = .ok (.iload_n 3, 1) := by decide +kernel
theorem dX6_wayFor_85 : decode cX6_wayFor 85 = .ok (.if_icmp .ge 7, 3) := by decide +kernel
theorem dX6_wayFor_88 : decode cX6_wayFor 88 = .ok (.iconst 1, 1) := by decide +kernel
theorem dX6_wayFor_89 : decode cX6_wayFor 89 = .ok (.goto 4, 3) := by decide +kernel
theorem dX6_wayFor_92 : decode cX6_wayFor 92 = .ok (.iconst 0, 1) := by decide +kernel
theorem dX6_wayFor_93 : decode cX6_wayFor 93 = .ok (.istore 5, 2) := by decide +kernel
theorem dX6_wayFor_95 : decode cX6_wayFor 95 = .ok (.iload 5, 2) := by decide +kernel
theorem dX6_wayFor_97 : decode cX6_wayFor 97 = .ok (.ifCond .eq 8, 3) := by decide +kernel
theorem dX6_wayFor_100 : decode cX6_wayFor 100 = .ok (.iload 4, 2) := by decide +kernel
theorem dX6_wayFor_102 : decode cX6_wayFor 102 = .ok (.goto 4, 3) := by decide +kernel
theorem dX6_wayFor_105 : decode cX6_wayFor 105 = .ok (.iload_n 2, 1) := by decide +kernel
theorem dX6_wayFor_106 : decode cX6_wayFor 106 = .ok (.istore_n 2, 1) := by decide +kernel
theorem dX6_wayFor_107 : decode cX6_wayFor 107 = .ok (.iload 5, 2) := by decide +kernel
theorem dX6_wayFor_109 : decode cX6_wayFor 109 = .ok (.ifCond .eq 13, 3) := by decide +kernel
theorem dX6_wayFor_112 : decode cX6_wayFor 112 = .ok (.aload_n 0, 1) := by decide +kernel
theorem dX6_wayFor_113 : decode cX6_wayFor 113 = .ok (.sipush 675, 3) := by decide +kernel
theorem dX6_wayFor_116 : decode cX6_wayFor 116 = .ok (.invokevirtual 83, 3) := by decide +kernel
theorem dX6_wayFor_119 : decode cX6_wayFor 119 = .ok (.goto 4, 3) := by decide +kernel
theorem dX6_wayFor_122 : decode cX6_wayFor 122 = .ok (.iload_n 3, 1) := by decide +kernel
theorem dX6_wayFor_123 : decode cX6_wayFor 123 = .ok (.istore_n 3, 1) := by decide +kernel
theorem dX6_wayFor_124 : decode cX6_wayFor 124 = .ok (.iinc 4 1, 3) := by decide +kernel
theorem dX6_wayFor_127 : decode cX6_wayFor 127 = .ok (.goto (-81), 3) := by decide +kernel
theorem dX6_wayFor_130 : decode cX6_wayFor 130 = .ok (.iload_n 2, 1) := by decide +kernel
theorem dX6_wayFor_131 : decode cX6_wayFor 131 = .ok (.ireturn, 1) := by decide +kernel
theorem dX6_cheapestWay_0 : decode cX6_cheapestWay 0 = .ok (.aload_n 0, 1) := by decide +kernel
theorem dX6_cheapestWay_1 : decode cX6_cheapestWay 1 = .ok (.aload_n 0, 1) := by decide +kernel
theorem dX6_cheapestWay_2 : decode cX6_cheapestWay 2 = .ok (.iload_n 1, 1) := by decide +kernel
theorem dX6_cheapestWay_3 : decode cX6_cheapestWay 3 = .ok (.invokevirtual 119, 3) := by decide +kernel
theorem dX6_cheapestWay_6 : decode cX6_cheapestWay 6 = .ok (.iconst 1, 1) := by decide +kernel
theorem dX6_cheapestWay_7 : decode cX6_cheapestWay 7 = .ok (.invokevirtual 111, 3) := by decide +kernel
theorem dX6_cheapestWay_10 : decode cX6_cheapestWay 10 = .ok (.ifCond .eq 11, 3) := by decide +kernel
theorem dX6_cheapestWay_13 : decode cX6_cheapestWay 13 = .ok (.aload_n 0, 1) := by decide +kernel
theorem dX6_cheapestWay_14 : decode cX6_cheapestWay 14 = .ok (.iload_n 1, 1) := by decide +kernel
theorem dX6_cheapestWay_15 : decode cX6_cheapestWay 15 = .ok (.invokevirtual 181, 3) := by decide +kernel
theorem dX6_cheapestWay_18 : decode cX6_cheapestWay 18 = .ok (.goto 4, 3) := by decide +kernel
theorem dX6_cheapestWay_21 : decode cX6_cheapestWay 21 = .ok (.iconst 0, 1) := by decide +kernel
theorem dX6_cheapestWay_22 : decode cX6_cheapestWay 22 = .ok (.ireturn, 1) := by decide +kernel
theorem dX6_ifBundled_0 : decode cX6_ifBundled 0 = .ok (.aload_n 0, 1) := by decide +kernel
theorem dX6_ifBundled_1 : decode cX6_ifBundled 1 = .ok (.aload_n 0, 1) := by decide +kernel
theorem dX6_ifBundled_2 : decode cX6_ifBundled 2 = .ok (.iload_n 1, 1) := by decide +kernel
theorem dX6_ifBundled_3 : decode cX6_ifBundled 3 = .ok (.invokevirtual 119, 3) := by decide +kernel
theorem dX6_ifBundled_6 : decode cX6_ifBundled 6 = .ok (.ifCond .eq 15, 3) := by decide +kernel
theorem dX6_ifBundled_9 : decode cX6_ifBundled 9 = .ok (.aload_n 0, 1) := by decide +kernel
theorem dX6_ifBundled_10 : decode cX6_ifBundled 10 = .ok (.iload_n 2, 1) := by decide +kernel
theorem dX6_ifBundled_11 : decode cX6_ifBundled 11 = .ok (.invokevirtual 119, 3) := by decide +kernel
theorem dX6_ifBundled_14 : decode cX6_ifBundled 14 = .ok (.ifCond .eq 7, 3) := by decide +kernel
theorem dX6_ifBundled_17 : decode cX6_ifBundled 17 = .ok (.iconst 1, 1) := by decide +kernel
theorem dX6_ifBundled_18 : decode cX6_ifBundled 18 = .ok (.goto 4, 3) := by decide +kernel
theorem dX6_ifBundled_21 : decode cX6_ifBundled 21 = .ok (.iconst 0, 1) := by decide +kernel
theorem dX6_ifBundled_22 : decode cX6_ifBundled 22 = .ok (.iload_n 1, 1) := by decide +kernel
theorem dX6_ifBundled_23 : decode cX6_ifBundled 23 = .ok (.iload_n 2, 1) := by decide +kernel
theorem dX6_ifBundled_24 : decode cX6_ifBundled 24 = .ok (.if_icmp .eq 7, 3) := by decide +kernel
theorem dX6_ifBundled_27 : decode cX6_ifBundled 27 = .ok (.iconst 1, 1) := by decide +kernel
theorem dX6_ifBundled_28 : decode cX6_ifBundled 28 = .ok (.goto 4, 3) := by decide +kernel
theorem dX6_ifBundled_31 : decode cX6_ifBundled 31 = .ok (.iconst 0, 1) := by decide +kernel
theorem dX6_ifBundled_32 : decode cX6_ifBundled 32 = .ok (.invokevirtual 111, 3) := by decide +kernel
theorem dX6_ifBundled_35 : decode cX6_ifBundled 35 = .ok (.ifCond .eq 12, 3) := by decide +kernel
theorem dX6_ifBundled_38 : decode cX6_ifBundled 38 = .ok (.aload_n 0, 1) := by decide +kernel
theorem dX6_ifBundled_39 : decode cX6_ifBundled 39 = .ok (.iload_n 1, 1) := by decide +kernel
theorem dX6_ifBundled_40 : decode cX6_ifBundled 40 = .ok (.iload_n 2, 1) := by decide +kernel
theorem dX6_ifBundled_41 : decode cX6_ifBundled 41 = .ok (.invokevirtual 89, 3) := by decide +kernel
theorem dX6_ifBundled_44 : decode cX6_ifBundled 44 = .ok (.goto 4, 3) := by decide +kernel
theorem dX6_ifBundled_47 : decode cX6_ifBundled 47 = .ok (.iconst 0, 1) := by decide +kernel
theorem dX6_ifBundled_48 : decode cX6_ifBundled 48 = .ok (.ireturn, 1) := by decide +kernel
theorem dX6_cheapest_0 : decode cX6_cheapest 0 = .ok (.aload_n 0, 1) := by decide +kernel
theorem dX6_cheapest_1 : decode cX6_cheapest 1 = .ok (.iload_n 1, 1) := by decide +kernel
theorem dX6_cheapest_2 : decode cX6_cheapest 2 = .ok (.iconst 0, 1) := by decide +kernel
theorem dX6_cheapest_3 : decode cX6_cheapest 3 = .ok (.iconst 1, 1) := by decide +kernel
theorem dX6_cheapest_4 : decode cX6_cheapest 4 = .ok (.invokestatic 41, 3) := by decide +kernel
theorem dX6_cheapest_7 : decode cX6_cheapest 7 = .ok (.iconst 1, 1) := by decide +kernel
theorem dX6_cheapest_8 : decode cX6_cheapest 8 = .ok (.invokevirtual 111, 3) := by decide +kernel
theorem dX6_cheapest_11 : decode cX6_cheapest 11 = .ok (.ifCond .eq 11, 3) := by decide +kernel
theorem dX6_cheapest_14 : decode cX6_cheapest 14 = .ok (.aload_n 0, 1) := by decide +kernel
theorem dX6_cheapest_15 : decode cX6_cheapest 15 = .ok (.iload_n 1, 1) := by decide +kernel
theorem dX6_cheapest_16 : decode cX6_cheapest 16 = .ok (.invokevirtual 184, 3) := by decide +kernel
theorem dX6_cheapest_19 : decode cX6_cheapest 19 = .ok (.goto 4, 3) := by decide +kernel
theorem dX6_cheapest_22 : decode cX6_cheapest 22 = .ok (.iconst 0, 1) := by decide +kernel
theorem dX6_cheapest_23 : decode cX6_cheapest 23 = .ok (.ireturn, 1) := by decide +kernel
theorem dX6_dearestParcel_0 : decode cX6_dearestParcel 0 = .ok (.iconst (-1), 1) := by decide +kernel
theorem dX6_dearestParcel_1 : decode cX6_dearestParcel 1 = .ok (.istore_n 1, 1) := by decide +kernel
theorem dX6_dearestParcel_2 : decode cX6_dearestParcel 2 = .ok (.iconst 0, 1) := by decide +kernel
theorem dX6_dearestParcel_3 : decode cX6_dearestParcel 3 = .ok (.istore_n 2, 1) := by decide +kernel
theorem dX6_dearestParcel_4 : decode cX6_dearestParcel 4 = .ok (.iload_n 2, 1) := by decide +kernel
theorem dX6_dearestParcel_5 : decode cX6_dearestParcel 5 = .ok (.aload_n 0, 1) := by decide +kernel
theorem dX6_dearestParcel_6 : decode cX6_dearestParcel 6 = .ok (.getfield 7, 3) := by decide +kernel
theorem dX6_dearestParcel_9 : decode cX6_dearestParcel 9 = .ok (.bipush 20, 2) := by decide +kernel
theorem dX6_dearestParcel_11 : decode cX6_dearestParcel 11 = .ok (.iaload, 1) := by decide +kernel
theorem dX6_dearestParcel_12 : decode cX6_dearestParcel 12 = .ok (.if_icmp .ge 50, 3) := by decide +kernel
theorem dX6_dearestParcel_15 : decode cX6_dearestParcel 15 = .ok (.aload_n 0, 1) := by decide +kernel
theorem dX6_dearestParcel_16 : decode cX6_dearestParcel 16 = .ok (.iload_n 2, 1) := by decide +kernel
theorem dX6_dearestParcel_17 : decode cX6_dearestParcel 17 = .ok (.invokestatic 69, 3) := by decide +kernel
theorem dX6_dearestParcel_20 : decode cX6_dearestParcel 20 = .ok (.invokevirtual 76, 3) := by decide +kernel
theorem dX6_dearestParcel_23 : decode cX6_dearestParcel 23 = .ok (.ifCond .ne 31, 3) := by decide +kernel
theorem dX6_dearestParcel_26 : decode cX6_dearestParcel 26 = .ok (.iload_n 1, 1) := by decide +kernel
theorem dX6_dearestParcel_27 : decode cX6_dearestParcel 27 = .ok (.iconst (-1), 1) := by decide +kernel
theorem dX6_dearestParcel_28 : decode cX6_dearestParcel 28 = .ok (.if_icmp .eq 22, 3) := by decide +kernel
theorem dX6_dearestParcel_31 : decode cX6_dearestParcel 31 = .ok (.aload_n 0, 1) := by decide +kernel
theorem dX6_dearestParcel_32 : decode cX6_dearestParcel 32 = .ok (.iload_n 2, 1) := by decide +kernel
theorem dX6_dearestParcel_33 : decode cX6_dearestParcel 33 = .ok (.invokestatic 69, 3) := by decide +kernel
theorem dX6_dearestParcel_36 : decode cX6_dearestParcel 36 = .ok (.invokevirtual 83, 3) := by decide +kernel
theorem dX6_dearestParcel_39 : decode cX6_dearestParcel 39 = .ok (.aload_n 0, 1) := by decide +kernel
theorem dX6_dearestParcel_40 : decode cX6_dearestParcel 40 = .ok (.iload_n 1, 1) := by decide +kernel
theorem dX6_dearestParcel_41 : decode cX6_dearestParcel 41 = .ok (.invokestatic 69, 3) := by decide +kernel
theorem dX6_dearestParcel_44 : decode cX6_dearestParcel 44 = .ok (.invokevirtual 83, 3) := by decide +kernel
theorem dX6_dearestParcel_47 : decode cX6_dearestParcel 47 = .ok (.if_icmp .le 7, 3) := by decide +kernel
theorem dX6_dearestParcel_50 : decode cX6_dearestParcel 50 = .ok (.iload_n 2, 1) := by decide +kernel
theorem dX6_dearestParcel_51 : decode cX6_dearestParcel 51 = .ok (.goto 4, 3) := by decide +kernel
theorem dX6_dearestParcel_54 : decode cX6_dearestParcel 54 = .ok (.iload_n 1, 1) := by decide +kernel
theorem dX6_dearestParcel_55 : decode cX6_dearestParcel 55 = .ok (.istore_n 1, 1) := by decide +kernel
theorem dX6_dearestParcel_56 : decode cX6_dearestParcel 56 = .ok (.iinc 2 1, 3) := by decide +kernel
theorem dX6_dearestParcel_59 : decode cX6_dearestParcel 59 = .ok (.goto (-55), 3) := by decide +kernel
theorem dX6_dearestParcel_62 : decode cX6_dearestParcel 62 = .ok (.iload_n 1, 1) := by decide +kernel
theorem dX6_dearestParcel_63 : decode cX6_dearestParcel 63 = .ok (.ireturn, 1) := by decide +kernel
theorem dX6_dearest_0 : decode cX6_dearest 0 = .ok (.aload_n 0, 1) := by decide +kernel
theorem dX6_dearest_1 : decode cX6_dearest 1 = .ok (.iconst 0, 1) := by decide +kernel
theorem dX6_dearest_2 : decode cX6_dearest 2 = .ok (.putfield 27, 3) := by decide +kernel
theorem dX6_dearest_5 : decode cX6_dearest 5 = .ok (.aload_n 0, 1) := by decide +kernel
theorem dX6_dearest_6 : decode cX6_dearest 6 = .ok (.invokevirtual 187, 3) := by decide +kernel
theorem dX6_dearest_9 : decode cX6_dearest 9 = .ok (.ireturn, 1) := by decide +kernel
theorem dX6_savedShare_0 : decode cX6_savedShare 0 = .ok (.aload_n 0, 1) := by decide +kernel
theorem dX6_savedShare_1 : decode cX6_savedShare 1 = .ok (.iconst 0, 1) := by decide +kernel
theorem dX6_savedShare_2 : decode cX6_savedShare 2 = .ok (.putfield 27, 3) := by decide +kernel
theorem dX6_savedShare_5 : decode cX6_savedShare 5 = .ok (.iconst 0, 1) := by decide +kernel
theorem dX6_savedShare_6 : decode cX6_savedShare 6 = .ok (.istore_n 1, 1) := by decide +kernel
theorem dX6_savedShare_7 : decode cX6_savedShare 7 = .ok (.iconst 0, 1) := by decide +kernel
theorem dX6_savedShare_8 : decode cX6_savedShare 8 = .ok (.istore_n 2, 1) := by decide +kernel
theorem dX6_savedShare_9 : decode cX6_savedShare 9 = .ok (.iload_n 2, 1) := by decide +kernel
theorem dX6_savedShare_10 : decode cX6_savedShare 10 = .ok (.aload_n 0, 1) := by decide +kernel
theorem dX6_savedShare_11 : decode cX6_savedShare 11 = .ok (.getfield 7, 3) := by decide +kernel
theorem dX6_savedShare_14 : decode cX6_savedShare 14 = .ok (.bipush 20, 2) := by decide +kernel
theorem dX6_savedShare_16 : decode cX6_savedShare 16 = .ok (.iaload, 1) := by decide +kernel
theorem dX6_savedShare_17 : decode cX6_savedShare 17 = .ok (.if_icmp .ge 17, 3) := by decide +kernel
theorem dX6_savedShare_20 : decode cX6_savedShare 20 = .ok (.iload_n 1, 1) := by decide +kernel
theorem dX6_savedShare_21 : decode cX6_savedShare 21 = .ok (.aload_n 0, 1) := by decide +kernel
theorem dX6_savedShare_22 : decode cX6_savedShare 22 = .ok (.iload_n 2, 1) := by decide +kernel
theorem dX6_savedShare_23 : decode cX6_savedShare 23 = .ok (.invokevirtual 86, 3) := by decide +kernel
theorem dX6_savedShare_26 : decode cX6_savedShare 26 = .ok (.iadd, 1) := by decide +kernel
theorem dX6_savedShare_27 : decode cX6_savedShare 27 = .ok (.istore_n 1, 1) := by decide +kernel
theorem dX6_savedShare_28 : decode cX6_savedShare 28 = .ok (.iinc 2 1, 3) := by decide +kernel
