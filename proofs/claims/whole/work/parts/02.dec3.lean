theorem dX5_admitAllOfText_31 : decode cX5_admitAllOfText 31 = .ok (.if_icmp .ge 56, 3) := by decide +kernel
theorem dX5_admitAllOfText_34 : decode cX5_admitAllOfText 34 = .ok (.aload_n 0, 1) := by decide +kernel
theorem dX5_admitAllOfText_35 : decode cX5_admitAllOfText 35 = .ok (.getfield 34, 3) := by decide +kernel
theorem dX5_admitAllOfText_38 : decode cX5_admitAllOfText 38 = .ok (.aload_n 0, 1) := by decide +kernel
theorem dX5_admitAllOfText_39 : decode cX5_admitAllOfText 39 = .ok (.getfield 34, 3) := by decide +kernel
theorem dX5_admitAllOfText_42 : decode cX5_admitAllOfText 42 = .ok (.getfield 226, 3) := by decide +kernel
theorem dX5_admitAllOfText_45 : decode cX5_admitAllOfText 45 = .ok (.iload_n 2, 1) := by decide +kernel
theorem dX5_admitAllOfText_46 : decode cX5_admitAllOfText 46 = .ok (.iaload, 1) := by decide +kernel
theorem dX5_admitAllOfText_47 : decode cX5_admitAllOfText 47 = .ok (.invokevirtual 242, 3) := by decide +kernel
theorem dX5_admitAllOfText_50 : decode cX5_admitAllOfText 50 = .ok (.pop, 1) := by decide +kernel
theorem dX5_admitAllOfText_51 : decode cX5_admitAllOfText 51 = .ok (.aload_n 0, 1) := by decide +kernel
theorem dX5_admitAllOfText_52 : decode cX5_admitAllOfText 52 = .ok (.getfield 34, 3) := by decide +kernel
theorem dX5_admitAllOfText_55 : decode cX5_admitAllOfText 55 = .ok (.invokevirtual 246, 3) := by decide +kernel
theorem dX5_admitAllOfText_58 : decode cX5_admitAllOfText 58 = .ok (.ifCond .eq 23, 3) := by decide +kernel
theorem dX5_admitAllOfText_61 : decode cX5_admitAllOfText 61 = .ok (.aload_n 0, 1) := by decide +kernel
theorem dX5_admitAllOfText_62 : decode cX5_admitAllOfText 62 = .ok (.getfield 34, 3) := by decide +kernel
theorem dX5_admitAllOfText_65 : decode cX5_admitAllOfText 65 = .ok (.aload_n 0, 1) := by decide +kernel
theorem dX5_admitAllOfText_66 : decode cX5_admitAllOfText 66 = .ok (.getfield 10, 3) := by decide +kernel
theorem dX5_admitAllOfText_69 : decode cX5_admitAllOfText 69 = .ok (.invokevirtual 249, 3) := by decide +kernel
theorem dX5_admitAllOfText_72 : decode cX5_admitAllOfText 72 = .ok (.iconst (-1), 1) := by decide +kernel
theorem dX5_admitAllOfText_73 : decode cX5_admitAllOfText 73 = .ok (.if_icmp .ne 5, 3) := by decide +kernel
theorem dX5_admitAllOfText_76 : decode cX5_admitAllOfText 76 = .ok (.iload_n 1, 1) := by decide +kernel
theorem dX5_admitAllOfText_77 : decode cX5_admitAllOfText 77 = .ok (.ireturn, 1) := by decide +kernel
theorem dX5_admitAllOfText_78 : decode cX5_admitAllOfText 78 = .ok (.iinc 1 1, 3) := by decide +kernel
theorem dX5_admitAllOfText_81 : decode cX5_admitAllOfText 81 = .ok (.iinc 2 1, 3) := by decide +kernel
theorem dX5_admitAllOfText_84 : decode cX5_admitAllOfText 84 = .ok (.goto (-73), 3) := by decide +kernel
theorem dX5_admitAllOfText_87 : decode cX5_admitAllOfText 87 = .ok (.iload_n 1, 1) := by decide +kernel
theorem dX5_admitAllOfText_88 : decode cX5_admitAllOfText 88 = .ok (.ireturn, 1) := by decide +kernel
theorem dX5_fold_0 : decode cX5_fold 0 = .ok (.ldc2_w 253, 3) := by decide +kernel
theorem dX5_fold_3 : decode cX5_fold 3 = .ok (.lload_n 0, 1) := by decide +kernel
theorem dX5_fold_4 : decode cX5_fold 4 = .ok (.lmul, 1) := by decide +kernel
theorem dX5_fold_5 : decode cX5_fold 5 = .ok (.lload_n 2, 1) := by decide +kernel
theorem dX5_fold_6 : decode cX5_fold 6 = .ok (.ladd, 1) := by decide +kernel
theorem dX5_fold_7 : decode cX5_fold 7 = .ok (.lreturn, 1) := by decide +kernel
theorem dX5_foldRow_0 : decode cX5_foldRow 0 = .ok (.lload_n 0, 1) := by decide +kernel
theorem dX5_foldRow_1 : decode cX5_foldRow 1 = .ok (.lstore 4, 2) := by decide +kernel
theorem dX5_foldRow_3 : decode cX5_foldRow 3 = .ok (.iconst 0, 1) := by decide +kernel
theorem dX5_foldRow_4 : decode cX5_foldRow 4 = .ok (.istore 6, 2) := by decide +kernel
theorem dX5_foldRow_6 : decode cX5_foldRow 6 = .ok (.iload 6, 2) := by decide +kernel
theorem dX5_foldRow_8 : decode cX5_foldRow 8 = .ok (.iload_n 3, 1) := by decide +kernel
theorem dX5_foldRow_9 : decode cX5_foldRow 9 = .ok (.if_icmp .ge 28, 3) := by decide +kernel
theorem dX5_foldRow_12 : decode cX5_foldRow 12 = .ok (.iload 6, 2) := by decide +kernel
theorem dX5_foldRow_14 : decode cX5_foldRow 14 = .ok (.aload_n 2, 1) := by decide +kernel
theorem dX5_foldRow_15 : decode cX5_foldRow 15 = .ok (.arraylength, 1) := by decide +kernel
theorem dX5_foldRow_16 : decode cX5_foldRow 16 = .ok (.if_icmp .ge 21, 3) := by decide +kernel
theorem dX5_foldRow_19 : decode cX5_foldRow 19 = .ok (.lload 4, 2) := by decide +kernel
theorem dX5_foldRow_21 : decode cX5_foldRow 21 = .ok (.aload_n 2, 1) := by decide +kernel
theorem dX5_foldRow_22 : decode cX5_foldRow 22 = .ok (.iload 6, 2) := by decide +kernel
theorem dX5_foldRow_24 : decode cX5_foldRow 24 = .ok (.iaload, 1) := by decide +kernel
theorem dX5_foldRow_25 : decode cX5_foldRow 25 = .ok (.i2l, 1) := by decide +kernel
theorem dX5_foldRow_26 : decode cX5_foldRow 26 = .ok (.invokestatic 197, 3) := by decide +kernel
theorem dX5_foldRow_29 : decode cX5_foldRow 29 = .ok (.lstore 4, 2) := by decide +kernel
theorem dX5_foldRow_31 : decode cX5_foldRow 31 = .ok (.iinc 6 1, 3) := by decide +kernel
theorem dX5_foldRow_34 : decode cX5_foldRow 34 = .ok (.goto (-28), 3) := by decide +kernel
theorem dX5_foldRow_37 : decode cX5_foldRow 37 = .ok (.lload 4, 2) := by decide +kernel
theorem dX5_foldRow_39 : decode cX5_foldRow 39 = .ok (.lreturn, 1) := by decide +kernel
theorem dX5_foldParcel_0 : decode cX5_foldParcel 0 = .ok (.lload_n 1, 1) := by decide +kernel
theorem dX5_foldParcel_1 : decode cX5_foldParcel 1 = .ok (.lstore 4, 2) := by decide +kernel
theorem dX5_foldParcel_3 : decode cX5_foldParcel 3 = .ok (.iconst 0, 1) := by decide +kernel
theorem dX5_foldParcel_4 : decode cX5_foldParcel 4 = .ok (.istore 6, 2) := by decide +kernel
theorem dX5_foldParcel_6 : decode cX5_foldParcel 6 = .ok (.iload 6, 2) := by decide +kernel
theorem dX5_foldParcel_8 : decode cX5_foldParcel 8 = .ok (.bipush 10, 2) := by decide +kernel
theorem dX5_foldParcel_10 : decode cX5_foldParcel 10 = .ok (.if_icmp .gt 24, 3) := by decide +kernel
theorem dX5_foldParcel_13 : decode cX5_foldParcel 13 = .ok (.lload 4, 2) := by decide +kernel
theorem dX5_foldParcel_15 : decode cX5_foldParcel 15 = .ok (.aload_n 0, 1) := by decide +kernel
theorem dX5_foldParcel_16 : decode cX5_foldParcel 16 = .ok (.iload_n 3, 1) := by decide +kernel
theorem dX5_foldParcel_17 : decode cX5_foldParcel 17 = .ok (.iload 6, 2) := by decide +kernel
theorem dX5_foldParcel_19 : decode cX5_foldParcel 19 = .ok (.invokevirtual 255, 3) := by decide +kernel
theorem dX5_foldParcel_22 : decode cX5_foldParcel 22 = .ok (.i2l, 1) := by decide +kernel
theorem dX5_foldParcel_23 : decode cX5_foldParcel 23 = .ok (.invokestatic 197, 3) := by decide +kernel
theorem dX5_foldParcel_26 : decode cX5_foldParcel 26 = .ok (.lstore 4, 2) := by decide +kernel
theorem dX5_foldParcel_28 : decode cX5_foldParcel 28 = .ok (.iinc 6 1, 3) := by decide +kernel
theorem dX5_foldParcel_31 : decode cX5_foldParcel 31 = .ok (.goto (-25), 3) := by decide +kernel
theorem dX5_foldParcel_34 : decode cX5_foldParcel 34 = .ok (.lload 4, 2) := by decide +kernel
theorem dX5_foldParcel_36 : decode cX5_foldParcel 36 = .ok (.aload_n 0, 1) := by decide +kernel
theorem dX5_foldParcel_37 : decode cX5_foldParcel 37 = .ok (.iload_n 3, 1) := by decide +kernel
theorem dX5_foldParcel_38 : decode cX5_foldParcel 38 = .ok (.invokevirtual 258, 3) := by decide +kernel
theorem dX5_foldParcel_41 : decode cX5_foldParcel 41 = .ok (.i2l, 1) := by decide +kernel
theorem dX5_foldParcel_42 : decode cX5_foldParcel 42 = .ok (.invokestatic 197, 3) := by decide +kernel
theorem dX5_foldParcel_45 : decode cX5_foldParcel 45 = .ok (.lstore 4, 2) := by decide +kernel
theorem dX5_foldParcel_47 : decode cX5_foldParcel 47 = .ok (.iconst 0, 1) := by decide +kernel
theorem dX5_foldParcel_48 : decode cX5_foldParcel 48 = .ok (.istore 6, 2) := by decide +kernel
theorem dX5_foldParcel_50 : decode cX5_foldParcel 50 = .ok (.iload 6, 2) := by decide +kernel
theorem dX5_foldParcel_52 : decode cX5_foldParcel 52 = .ok (.aload_n 0, 1) := by decide +kernel
theorem dX5_foldParcel_53 : decode cX5_foldParcel 53 = .ok (.getfield 10, 3) := by decide +kernel
theorem dX5_foldParcel_56 : decode cX5_foldParcel 56 = .ok (.getfield 88, 3) := by decide +kernel
theorem dX5_foldParcel_59 : decode cX5_foldParcel 59 = .ok (.if_icmp .ge 30, 3) := by decide +kernel
theorem dX5_foldParcel_62 : decode cX5_foldParcel 62 = .ok (.iload 6, 2) := by decide +kernel
theorem dX5_foldParcel_64 : decode cX5_foldParcel 64 = .ok (.iload_n 3, 1) := by decide +kernel
theorem dX5_foldParcel_65 : decode cX5_foldParcel 65 = .ok (.if_icmp .eq 18, 3) := by decide +kernel
theorem dX5_foldParcel_68 : decode cX5_foldParcel 68 = .ok (.lload 4, 2) := by decide +kernel
theorem dX5_foldParcel_70 : decode cX5_foldParcel 70 = .ok (.aload_n 0, 1) := by decide +kernel
theorem dX5_foldParcel_71 : decode cX5_foldParcel 71 = .ok (.iload_n 3, 1) := by decide +kernel
theorem dX5_foldParcel_72 : decode cX5_foldParcel 72 = .ok (.iload 6, 2) := by decide +kernel
theorem dX5_foldParcel_74 : decode cX5_foldParcel 74 = .ok (.invokevirtual 261, 3) := by decide +kernel
theorem dX5_foldParcel_77 : decode cX5_foldParcel 77 = .ok (.i2l, 1) := by decide +kernel
theorem dX5_foldParcel_78 : decode cX5_foldParcel 78 = .ok (.invokestatic 197, 3) := by decide +kernel
theorem dX5_foldParcel_81 : decode cX5_foldParcel 81 = .ok (.lstore 4, 2) := by decide +kernel
theorem dX5_foldParcel_83 : decode cX5_foldParcel 83 = .ok (.iinc 6 1, 3) := by decide +kernel
theorem dX5_foldParcel_86 : decode cX5_foldParcel 86 = .ok (.goto (-36), 3) := by decide +kernel
theorem dX5_foldParcel_89 : decode cX5_foldParcel 89 = .ok (.lload 4, 2) := by decide +kernel
theorem dX5_foldParcel_91 : decode cX5_foldParcel 91 = .ok (.lreturn, 1) := by decide +kernel
theorem dX5_bitsOfShare_0 : decode cX5_bitsOfShare 0 = .ok (.dload_n 0, 1) := by decide +kernel
theorem dX5_bitsOfShare_1 : decode cX5_bitsOfShare 1 = .ok (.dconst 0, 1) := by decide +kernel
theorem dX5_bitsOfShare_2 : decode cX5_bitsOfShare 2 = .ok (.dcmp .g, 1) := by decide +kernel
theorem dX5_bitsOfShare_3 : decode cX5_bitsOfShare 3 = .ok (.ifCond .gt 5, 3) := by decide +kernel
theorem dX5_bitsOfShare_6 : decode cX5_bitsOfShare 6 = .ok (.lconst 0, 1) := by decide +kernel
theorem dX5_bitsOfShare_7 : decode cX5_bitsOfShare 7 = .ok (.lreturn, 1) := by decide +kernel
theorem dX5_bitsOfShare_8 : decode cX5_bitsOfShare 8 = .ok (.dload_n 0, 1) := by decide +kernel
theorem dX5_bitsOfShare_9 : decode cX5_bitsOfShare 9 = .ok (.dstore_n 2, 1) := by decide +kernel
theorem dX5_bitsOfShare_10 : decode cX5_bitsOfShare 10 = .ok (.ldc2_w 264, 3) := by decide +kernel
theorem dX5_bitsOfShare_13 : decode cX5_bitsOfShare 13 = .ok (.lstore 4, 2) := by decide +kernel
theorem dX5_bitsOfShare_15 : decode cX5_bitsOfShare 15 = .ok (.iconst 0, 1) := by decide +kernel
theorem dX5_bitsOfShare_16 : decode cX5_bitsOfShare 16 = .ok (.istore 6, 2) := by decide +kernel
theorem dX5_bitsOfShare_18 : decode cX5_bitsOfShare 18 = .ok (.iload 6, 2) := by decide +kernel
theorem dX5_bitsOfShare_20 : decode cX5_bitsOfShare 20 = .ok (.bipush 64, 2) := by decide +kernel
theorem dX5_bitsOfShare_22 : decode cX5_bitsOfShare 22 = .ok (.if_icmp .ge 27, 3) := by decide +kernel
theorem dX5_bitsOfShare_25 : decode cX5_bitsOfShare 25 = .ok (.dload_n 2, 1) := by decide +kernel
theorem dX5_bitsOfShare_26 : decode cX5_bitsOfShare 26 = .ok (.dconst 1, 1) := by decide +kernel
theorem dX5_bitsOfShare_27 : decode cX5_bitsOfShare 27 = .ok (.dcmp .g, 1) := by decide +kernel
theorem dX5_bitsOfShare_28 : decode cX5_bitsOfShare 28 = .ok (.ifCond .ge 21, 3) := by decide +kernel
theorem dX5_bitsOfShare_31 : decode cX5_bitsOfShare 31 = .ok (.dload_n 2, 1) := by decide +kernel
theorem dX5_bitsOfShare_32 : decode cX5_bitsOfShare 32 = .ok (.ldc2_w 266, 3) := by decide +kernel
theorem dX5_bitsOfShare_35 : decode cX5_bitsOfShare 35 = .ok (.dmul, 1) := by decide +kernel
theorem dX5_bitsOfShare_36 : decode cX5_bitsOfShare 36 = .ok (.dstore_n 2, 1) := by decide +kernel
theorem dX5_bitsOfShare_37 : decode cX5_bitsOfShare 37 = .ok (.lload 4, 2) := by decide +kernel
theorem dX5_bitsOfShare_39 : decode cX5_bitsOfShare 39 = .ok (.lconst 1, 1) := by decide +kernel
theorem dX5_bitsOfShare_40 : decode cX5_bitsOfShare 40 = .ok (.lsub, 1) := by decide +kernel
theorem dX5_bitsOfShare_41 : decode cX5_bitsOfShare 41 = .ok (.lstore 4, 2) := by decide +kernel
theorem dX5_bitsOfShare_43 : decode cX5_bitsOfShare 43 = .ok (.iinc 6 1, 3) := by decide +kernel
theorem dX5_bitsOfShare_46 : decode cX5_bitsOfShare 46 = .ok (.goto (-28), 3) := by decide +kernel
theorem dX5_bitsOfShare_49 : decode cX5_bitsOfShare 49 = .ok (.lload 4, 2) := by decide +kernel
theorem dX5_bitsOfShare_51 : decode cX5_bitsOfShare 51 = .ok (.bipush 52, 2) := by decide +kernel
theorem dX5_bitsOfShare_53 : decode cX5_bitsOfShare 53 = .ok (.lshl, 1) := by decide +kernel
theorem dX5_bitsOfShare_54 : decode cX5_bitsOfShare 54 = .ok (.dload_n 2, 1) := by decide +kernel
theorem dX5_bitsOfShare_55 : decode cX5_bitsOfShare 55 = .ok (.dconst 1, 1) := by decide +kernel
theorem dX5_bitsOfShare_56 : decode cX5_bitsOfShare 56 = .ok (.dsub, 1) := by decide +kernel
theorem dX5_bitsOfShare_57 : decode cX5_bitsOfShare 57 = .ok (.ldc2_w 268, 3) := by decide +kernel
theorem dX5_bitsOfShare_60 : decode cX5_bitsOfShare 60 = .ok (.dmul, 1) := by decide +kernel
theorem dX5_bitsOfShare_61 : decode cX5_bitsOfShare 61 = .ok (.d2l, 1) := by decide +kernel
theorem dX5_bitsOfShare_62 : decode cX5_bitsOfShare 62 = .ok (.ladd, 1) := by decide +kernel
theorem dX5_bitsOfShare_63 : decode cX5_bitsOfShare 63 = .ok (.lreturn, 1) := by decide +kernel
theorem dX6_init_0 : decode cX6_init 0 = .ok (.aload_n 0, 1) := by decide +kernel
theorem dX6_init_1 : decode cX6_init 1 = .ok (.invokespecial 1, 3) := by decide +kernel
theorem dX6_init_4 : decode cX6_init 4 = .ok (.aload_n 0, 1) := by decide +kernel
theorem dX6_init_5 : decode cX6_init 5 = .ok (.sipush 682, 3) := by decide +kernel
theorem dX6_init_8 : decode cX6_init 8 = .ok (.newarray .int, 2) := by decide +kernel
theorem dX6_init_10 : decode cX6_init 10 = .ok (.putfield 7, 3) := by decide +kernel
theorem dX6_init_13 : decode cX6_init 13 = .ok (.aload_n 0, 1) := by decide +kernel
theorem dX6_init_14 : decode cX6_init 14 = .ok (.iconst 2, 1) := by decide +kernel
theorem dX6_init_15 : decode cX6_init 15 = .ok (.newarray .boolean, 2) := by decide +kernel
theorem dX6_init_17 : decode cX6_init 17 = .ok (.putfield 13, 3) := by decide +kernel
theorem dX6_init_20 : decode cX6_init 20 = .ok (.aload_n 0, 1) := by decide +kernel
theorem dX6_init_21 : decode cX6_init 21 = .ok (.bipush 60, 2) := by decide +kernel
theorem dX6_init_23 : decode cX6_init 23 = .ok (.newarray .char, 2) := by decide +kernel
theorem dX6_init_25 : decode cX6_init 25 = .ok (.putfield 17, 3) := by decide +kernel
theorem dX6_init_28 : decode cX6_init 28 = .ok (.aload_n 0, 1) := by decide +kernel
theorem dX6_init_29 : decode cX6_init 29 = .ok (.sipush 128, 3) := by decide +kernel
theorem dX6_init_32 : decode cX6_init 32 = .ok (.newarray .int, 2) := by decide +kernel
theorem dX6_init_34 : decode cX6_init 34 = .ok (.putfield 21, 3) := by decide +kernel
theorem dX6_init_37 : decode cX6_init 37 = .ok (.aload_n 0, 1) := by decide +kernel
theorem dX6_init_38 : decode cX6_init 38 = .ok (.bipush 7, 2) := by decide +kernel
theorem dX6_init_40 : decode cX6_init 40 = .ok (.newarray .int, 2) := by decide +kernel
theorem dX6_init_42 : decode cX6_init 42 = .ok (.putfield 24, 3) := by decide +kernel
theorem dX6_init_45 : decode cX6_init 45 = .ok (.aload_n 0, 1) := by decide +kernel
theorem dX6_init_46 : decode cX6_init 46 = .ok (.getfield 7, 3) := by decide +kernel
theorem dX6_init_49 : decode cX6_init 49 = .ok (.iconst 0, 1) := by decide +kernel
theorem dX6_init_50 : decode cX6_init 50 = .ok (.iconst 5, 1) := by decide +kernel
theorem dX6_init_51 : decode cX6_init 51 = .ok (.iastore, 1) := by decide +kernel
theorem dX6_init_52 : decode cX6_init 52 = .ok (.aload_n 0, 1) := by decide +kernel
theorem dX6_init_53 : decode cX6_init 53 = .ok (.getfield 7, 3) := by decide +kernel
theorem dX6_init_56 : decode cX6_init 56 = .ok (.iconst 1, 1) := by decide +kernel
theorem dX6_init_57 : decode cX6_init 57 = .ok (.sipush 150, 3) := by decide +kernel
theorem dX6_init_60 : decode cX6_init 60 = .ok (.iastore, 1) := by decide +kernel
theorem dX6_init_61 : decode cX6_init 61 = .ok (.aload_n 0, 1) := by decide +kernel
theorem dX6_init_62 : decode cX6_init 62 = .ok (.getfield 7, 3) := by decide +kernel
theorem dX6_init_65 : decode cX6_init 65 = .ok (.iconst 2, 1) := by decide +kernel
theorem dX6_init_66 : decode cX6_init 66 = .ok (.iconst 2, 1) := by decide +kernel
theorem dX6_init_67 : decode cX6_init 67 = .ok (.iastore, 1) := by decide +kernel
theorem dX6_init_68 : decode cX6_init 68 = .ok (.aload_n 0, 1) := by decide +kernel
theorem dX6_init_69 : decode cX6_init 69 = .ok (.getfield 7, 3) := by decide +kernel
theorem dX6_init_72 : decode cX6_init 72 = .ok (.iconst 3, 1) := by decide +kernel
theorem dX6_init_73 : decode cX6_init 73 = .ok (.bipush 10, 2) := by decide +kernel
theorem dX6_init_75 : decode cX6_init 75 = .ok (.iastore, 1) := by decide +kernel
theorem dX6_init_76 : decode cX6_init 76 = .ok (.iconst 0, 1) := by decide +kernel
theorem dX6_init_77 : decode cX6_init 77 = .ok (.istore_n 1, 1) := by decide +kernel
theorem dX6_init_78 : decode cX6_init 78 = .ok (.iload_n 1, 1) := by decide +kernel
theorem dX6_init_79 : decode cX6_init 79 = .ok (.bipush 12, 2) := by decide +kernel
theorem dX6_init_81 : decode cX6_init 81 = .ok (.if_icmp .ge 22, 3) := by decide +kernel
theorem dX6_init_84 : decode cX6_init 84 = .ok (.aload_n 0, 1) := by decide +kernel
theorem dX6_init_85 : decode cX6_init 85 = .ok (.getfield 7, 3) := by decide +kernel
theorem dX6_init_88 : decode cX6_init 88 = .ok (.iconst 4, 1) := by decide +kernel
theorem dX6_init_89 : decode cX6_init 89 = .ok (.iload_n 1, 1) := by decide +kernel
theorem dX6_init_90 : decode cX6_init 90 = .ok (.iadd, 1) := by decide +kernel
theorem dX6_init_91 : decode cX6_init 91 = .ok (.iconst 5, 1) := by decide +kernel
theorem dX6_init_92 : decode cX6_init 92 = .ok (.iload_n 1, 1) := by decide +kernel
theorem dX6_init_93 : decode cX6_init 93 = .ok (.imul, 1) := by decide +kernel
theorem dX6_init_94 : decode cX6_init 94 = .ok (.iconst 5, 1) := by decide +kernel
theorem dX6_init_95 : decode cX6_init 95 = .ok (.iadd, 1) := by decide +kernel
theorem dX6_init_96 : decode cX6_init 96 = .ok (.iastore, 1) := by decide +kernel
theorem dX6_init_97 : decode cX6_init 97 = .ok (.iinc 1 1, 3) := by decide +kernel
theorem dX6_init_100 : decode cX6_init 100 = .ok (.goto (-22), 3) := by decide +kernel
theorem dX6_init_103 : decode cX6_init 103 = .ok (.iconst 0, 1) := by decide +kernel
theorem dX6_init_104 : decode cX6_init 104 = .ok (.istore_n 1, 1) := by decide +kernel
theorem dX6_init_105 : decode cX6_init 105 = .ok (.iload_n 1, 1) := by decide +kernel
theorem dX6_init_106 : decode cX6_init 106 = .ok (.iconst 4, 1) := by decide +kernel
theorem dX6_init_107 : decode cX6_init 107 = .ok (.if_icmp .ge 21, 3) := by decide +kernel
theorem dX6_init_110 : decode cX6_init 110 = .ok (.aload_n 0, 1) := by decide +kernel
theorem dX6_init_111 : decode cX6_init 111 = .ok (.getfield 7, 3) := by decide +kernel
theorem dX6_init_114 : decode cX6_init 114 = .ok (.bipush 16, 2) := by decide +kernel
theorem dX6_init_116 : decode cX6_init 116 = .ok (.iload_n 1, 1) := by decide +kernel
theorem dX6_init_117 : decode cX6_init 117 = .ok (.iadd, 1) := by decide +kernel
theorem dX6_init_118 : decode cX6_init 118 = .ok (.iload_n 1, 1) := by decide +kernel
theorem dX6_init_119 : decode cX6_init 119 = .ok (.iconst 1, 1) := by decide +kernel
theorem dX6_init_120 : decode cX6_init 120 = .ok (.iadd, 1) := by decide +kernel
theorem dX6_init_121 : decode cX6_init 121 = .ok (.iastore, 1) := by decide +kernel
theorem dX6_init_122 : decode cX6_init 122 = .ok (.iinc 1 1, 3) := by decide +kernel
theorem dX6_init_125 : decode cX6_init 125 = .ok (.goto (-20), 3) := by decide +kernel
theorem dX6_init_128 : decode cX6_init 128 = .ok (.return_, 1) := by decide +kernel
theorem dX6_thrown_0 : decode cX6_thrown 0 = .ok (.aload_n 0, 1) := by decide +kernel
theorem dX6_thrown_1 : decode cX6_thrown 1 = .ok (.getfield 27, 3) := by decide +kernel
theorem dX6_thrown_4 : decode cX6_thrown 4 = .ok (.ireturn, 1) := by decide +kernel
theorem dX6_in_0 : decode cX6_in 0 = .ok (.iload_n 0, 1) := by decide +kernel
theorem dX6_in_1 : decode cX6_in 1 = .ok (.iload_n 1, 1) := by decide +kernel
theorem dX6_in_2 : decode cX6_in 2 = .ok (.if_icmp .lt 12, 3) := by decide +kernel
theorem dX6_in_5 : decode cX6_in 5 = .ok (.iload_n 0, 1) := by decide +kernel
theorem dX6_in_6 : decode cX6_in 6 = .ok (.iload_n 2, 1) := by decide +kernel
theorem dX6_in_7 : decode cX6_in 7 = .ok (.if_icmp .gt 7, 3) := by decide +kernel
theorem dX6_in_10 : decode cX6_in 10 = .ok (.iconst 1, 1) := by decide +kernel
theorem dX6_in_11 : decode cX6_in 11 = .ok (.goto 4, 3) := by decide +kernel
theorem dX6_in_14 : decode cX6_in 14 = .ok (.iconst 0, 1) := by decide +kernel
theorem dX6_in_15 : decode cX6_in 15 = .ok (.ireturn, 1) := by decide +kernel
theorem dX6_goes_0 : decode cX6_goes 0 = .ok (.aload_n 0, 1) := by decide +kernel
theorem dX6_goes_1 : decode cX6_goes 1 = .ok (.iload_n 1, 1) := by decide +kernel
theorem dX6_goes_2 : decode cX6_goes 2 = .ok (.ifCond .ne 7, 3) := by decide +kernel
theorem dX6_goes_5 : decode cX6_goes 5 = .ok (.iconst 1, 1) := by decide +kernel
theorem dX6_goes_6 : decode cX6_goes 6 = .ok (.goto 12, 3) := by decide +kernel
theorem dX6_goes_9 : decode cX6_goes 9 = .ok (.iload_n 2, 1) := by decide +kernel
theorem dX6_goes_10 : decode cX6_goes 10 = .ok (.ifCond .ne 7, 3) := by decide +kernel
theorem dX6_goes_13 : decode cX6_goes 13 = .ok (.iconst 2, 1) := by decide +kernel
theorem dX6_goes_14 : decode cX6_goes 14 = .ok (.goto 4, 3) := by decide +kernel
theorem dX6_goes_17 : decode cX6_goes 17 = .ok (.iconst 0, 1) := by decide +kernel
theorem dX6_goes_18 : decode cX6_goes 18 = .ok (.putfield 27, 3) := by decide +kernel
theorem dX6_goes_21 : decode cX6_goes 21 = .ok (.aload_n 0, 1) := by decide +kernel
theorem dX6_goes_22 : decode cX6_goes 22 = .ok (.getfield 27, 3) := by decide +kernel
theorem dX6_goes_25 : decode cX6_goes 25 = .ok (.ifCond .ne 7, 3) := by decide +kernel
theorem dX6_goes_28 : decode cX6_goes 28 = .ok (.iconst 1, 1) := by decide +kernel
theorem dX6_goes_29 : decode cX6_goes 29 = .ok (.goto 4, 3) := by decide +kernel
theorem dX6_goes_32 : decode cX6_goes 32 = .ok (.iconst 0, 1) := by decide +kernel
theorem dX6_goes_33 : decode cX6_goes 33 = .ok (.ireturn, 1) := by decide +kernel
theorem dX6_greater_0 : decode cX6_greater 0 = .ok (.iload_n 0, 1) := by decide +kernel
theorem dX6_greater_1 : decode cX6_greater 1 = .ok (.iload_n 1, 1) := by decide +kernel
theorem dX6_greater_2 : decode cX6_greater 2 = .ok (.if_icmp .le 7, 3) := by decide +kernel
theorem dX6_greater_5 : decode cX6_greater 5 = .ok (.iload_n 0, 1) := by decide +kernel
theorem dX6_greater_6 : decode cX6_greater 6 = .ok (.goto 4, 3) := by decide +kernel
theorem dX6_greater_9 : decode cX6_greater 9 = .ok (.iload_n 1, 1) := by decide +kernel
theorem dX6_greater_10 : decode cX6_greater 10 = .ok (.ireturn, 1) := by decide +kernel
theorem dX6_copies_0 : decode cX6_copies 0 = .ok (.iconst 0, 1) := by decide +kernel
theorem dX6_copies_1 : decode cX6_copies 1 = .ok (.istore_n 3, 1) := by decide +kernel
theorem dX6_copies_2 : decode cX6_copies 2 = .ok (.iload_n 3, 1) := by decide +kernel
theorem dX6_copies_3 : decode cX6_copies 3 = .ok (.bipush 75, 2) := by decide +kernel
theorem dX6_copies_5 : decode cX6_copies 5 = .ok (.if_icmp .ge 31, 3) := by decide +kernel
theorem dX6_copies_8 : decode cX6_copies 8 = .ok (.aload_n 0, 1) := by decide +kernel
theorem dX6_copies_9 : decode cX6_copies 9 = .ok (.getfield 7, 3) := by decide +kernel
theorem dX6_copies_12 : decode cX6_copies 12 = .ok (.bipush 75, 2) := by decide +kernel
theorem dX6_copies_14 : decode cX6_copies 14 = .ok (.iload_n 2, 1) := by decide +kernel
theorem dX6_copies_15 : decode cX6_copies 15 = .ok (.imul, 1) := by decide +kernel
theorem dX6_copies_16 : decode cX6_copies 16 = .ok (.iload_n 3, 1) := by decide +kernel
theorem dX6_copies_17 : decode cX6_copies 17 = .ok (.iadd, 1) := by decide +kernel
theorem dX6_copies_18 : decode cX6_copies 18 = .ok (.aload_n 0, 1) := by decide +kernel
theorem dX6_copies_19 : decode cX6_copies 19 = .ok (.getfield 7, 3) := by decide +kernel
theorem dX6_copies_22 : decode cX6_copies 22 = .ok (.bipush 75, 2) := by decide +kernel
theorem dX6_copies_24 : decode cX6_copies 24 = .ok (.iload_n 1, 1) := by decide +kernel
theorem dX6_copies_25 : decode cX6_copies 25 = .ok (.imul, 1) := by decide +kernel
theorem dX6_copies_26 : decode cX6_copies 26 = .ok (.iload_n 3, 1) := by decide +kernel
theorem dX6_copies_27 : decode cX6_copies 27 = .ok (.iadd, 1) := by decide +kernel
theorem dX6_copies_28 : decode cX6_copies 28 = .ok (.iaload, 1) := by decide +kernel
theorem dX6_copies_29 : decode cX6_copies 29 = .ok (.iastore, 1) := by decide +kernel
theorem dX6_copies_30 : decode cX6_copies 30 = .ok (.iinc 3 1, 3) := by decide +kernel
theorem dX6_copies_33 : decode cX6_copies 33 = .ok (.goto (-31), 3) := by decide +kernel
theorem dX6_copies_36 : decode cX6_copies 36 = .ok (.return_, 1) := by decide +kernel
theorem dX6_saves_0 : decode cX6_saves 0 = .ok (.aload_n 0, 1) := by decide +kernel
theorem dX6_saves_1 : decode cX6_saves 1 = .ok (.getfield 31, 3) := by decide +kernel
theorem dX6_saves_4 : decode cX6_saves 4 = .ok (.bipush 6, 2) := by decide +kernel
theorem dX6_saves_6 : decode cX6_saves 6 = .ok (.if_icmp .ne 35, 3) := by decide +kernel
theorem dX6_saves_9 : decode cX6_saves 9 = .ok (.iconst 1, 1) := by decide +kernel
theorem dX6_saves_10 : decode cX6_saves 10 = .ok (.istore_n 1, 1) := by decide +kernel
theorem dX6_saves_11 : decode cX6_saves 11 = .ok (.iload_n 1, 1) := by decide +kernel
theorem dX6_saves_12 : decode cX6_saves 12 = .ok (.bipush 6, 2) := by decide +kernel
theorem dX6_saves_14 : decode cX6_saves 14 = .ok (.if_icmp .ge 17, 3) := by decide +kernel
theorem dX6_saves_17 : decode cX6_saves 17 = .ok (.aload_n 0, 1) := by decide +kernel
theorem dX6_saves_18 : decode cX6_saves 18 = .ok (.iload_n 1, 1) := by decide +kernel
theorem dX6_saves_19 : decode cX6_saves 19 = .ok (.iconst 1, 1) := by decide +kernel
theorem dX6_saves_20 : decode cX6_saves 20 = .ok (.iadd, 1) := by decide +kernel
theorem dX6_saves_21 : decode cX6_saves 21 = .ok (.iload_n 1, 1) := by decide +kernel
theorem dX6_saves_22 : decode cX6_saves 22 = .ok (.invokevirtual 34, 3) := by decide +kernel
theorem dX6_saves_25 : decode cX6_saves 25 = .ok (.iinc 1 1, 3) := by decide +kernel
theorem dX6_saves_28 : decode cX6_saves 28 = .ok (.goto (-17), 3) := by decide +kernel
theorem dX6_saves_31 : decode cX6_saves 31 = .ok (.aload_n 0, 1) := by decide +kernel
theorem dX6_saves_32 : decode cX6_saves 32 = .ok (.dup, 1) := by decide +kernel
theorem dX6_saves_33 : decode cX6_saves 33 = .ok (.getfield 31, 3) := by decide +kernel
theorem dX6_saves_36 : decode cX6_saves 36 = .ok (.iconst 1, 1) := by decide +kernel
theorem dX6_saves_37 : decode cX6_saves 37 = .ok (.isub, 1) := by decide +kernel
theorem dX6_saves_38 : decode cX6_saves 38 = .ok (.putfield 31, 3) := by decide +kernel
theorem dX6_saves_41 : decode cX6_saves 41 = .ok (.aload_n 0, 1) := by decide +kernel
theorem dX6_saves_42 : decode cX6_saves 42 = .ok (.dup, 1) := by decide +kernel
theorem dX6_saves_43 : decode cX6_saves 43 = .ok (.getfield 31, 3) := by decide +kernel
theorem dX6_saves_46 : decode cX6_saves 46 = .ok (.iconst 1, 1) := by decide +kernel
theorem dX6_saves_47 : decode cX6_saves 47 = .ok (.iadd, 1) := by decide +kernel
theorem dX6_saves_48 : decode cX6_saves 48 = .ok (.putfield 31, 3) := by decide +kernel
theorem dX6_saves_51 : decode cX6_saves 51 = .ok (.aload_n 0, 1) := by decide +kernel
theorem dX6_saves_52 : decode cX6_saves 52 = .ok (.iconst 0, 1) := by decide +kernel
theorem dX6_saves_53 : decode cX6_saves 53 = .ok (.aload_n 0, 1) := by decide +kernel
theorem dX6_saves_54 : decode cX6_saves 54 = .ok (.getfield 31, 3) := by decide +kernel
theorem dX6_saves_57 : decode cX6_saves 57 = .ok (.invokevirtual 34, 3) := by decide +kernel
theorem dX6_saves_60 : decode cX6_saves 60 = .ok (.return_, 1) := by decide +kernel
theorem dX6_sets_0 : decode cX6_sets 0 = .ok (.aload_n 0, 1) := by decide +kernel
theorem dX6_sets_1 : decode cX6_sets 1 = .ok (.invokevirtual 38, 3) := by decide +kernel
theorem dX6_sets_4 : decode cX6_sets 4 = .ok (.aload_n 0, 1) := by decide +kernel
theorem dX6_sets_5 : decode cX6_sets 5 = .ok (.getfield 7, 3) := by decide +kernel
theorem dX6_sets_8 : decode cX6_sets 8 = .ok (.iload_n 1, 1) := by decide +kernel
theorem dX6_sets_9 : decode cX6_sets 9 = .ok (.iaload, 1) := by decide +kernel
theorem dX6_sets_10 : decode cX6_sets 10 = .ok (.istore_n 3, 1) := by decide +kernel
theorem dX6_sets_11 : decode cX6_sets 11 = .ok (.aload_n 0, 1) := by decide +kernel
theorem dX6_sets_12 : decode cX6_sets 12 = .ok (.getfield 7, 3) := by decide +kernel
theorem dX6_sets_15 : decode cX6_sets 15 = .ok (.iload_n 1, 1) := by decide +kernel
theorem dX6_sets_16 : decode cX6_sets 16 = .ok (.iload_n 2, 1) := by decide +kernel
theorem dX6_sets_17 : decode cX6_sets 17 = .ok (.iastore, 1) := by decide +kernel
theorem dX6_sets_18 : decode cX6_sets 18 = .ok (.iload_n 3, 1) := by decide +kernel
theorem dX6_sets_19 : decode cX6_sets 19 = .ok (.ireturn, 1) := by decide +kernel
theorem dX6_isParcel_0 : decode cX6_isParcel 0 = .ok (.iload_n 1, 1) := by decide +kernel
theorem dX6_isParcel_1 : decode cX6_isParcel 1 = .ok (.iconst 0, 1) := by decide +kernel
theorem dX6_isParcel_2 : decode cX6_isParcel 2 = .ok (.aload_n 0, 1) := by decide +kernel
theorem dX6_isParcel_3 : decode cX6_isParcel 3 = .ok (.getfield 7, 3) := by decide +kernel
theorem dX6_isParcel_6 : decode cX6_isParcel 6 = .ok (.bipush 20, 2) := by decide +kernel
theorem dX6_isParcel_8 : decode cX6_isParcel 8 = .ok (.iaload, 1) := by decide +kernel
theorem dX6_isParcel_9 : decode cX6_isParcel 9 = .ok (.iconst 1, 1) := by decide +kernel
theorem dX6_isParcel_10 : decode cX6_isParcel 10 = .ok (.isub, 1) := by decide +kernel
theorem dX6_isParcel_11 : decode cX6_isParcel 11 = .ok (.invokestatic 41, 3) := by decide +kernel
theorem dX6_isParcel_14 : decode cX6_isParcel 14 = .ok (.ireturn, 1) := by decide +kernel
theorem dX6_at_0 : decode cX6_at 0 = .ok (.bipush 21, 2) := by decide +kernel
theorem dX6_at_2 : decode cX6_at 2 = .ok (.bipush 7, 2) := by decide +kernel
theorem dX6_at_4 : decode cX6_at 4 = .ok (.iload_n 0, 1) := by decide +kernel
theorem dX6_at_5 : decode cX6_at 5 = .ok (.imul, 1) := by decide +kernel
theorem dX6_at_6 : decode cX6_at 6 = .ok (.iadd, 1) := by decide +kernel
theorem dX6_at_7 : decode cX6_at 7 = .ok (.ireturn, 1) := by decide +kernel
theorem dX6_girth_0 : decode cX6_girth 0 = .ok (.aload_n 0, 1) := by decide +kernel
theorem dX6_girth_1 : decode cX6_girth 1 = .ok (.getfield 7, 3) := by decide +kernel
theorem dX6_girth_4 : decode cX6_girth 4 = .ok (.iload_n 1, 1) := by decide +kernel
theorem dX6_girth_5 : decode cX6_girth 5 = .ok (.iaload, 1) := by decide +kernel
theorem dX6_girth_6 : decode cX6_girth 6 = .ok (.iconst 2, 1) := by decide +kernel
theorem dX6_girth_7 : decode cX6_girth 7 = .ok (.aload_n 0, 1) := by decide +kernel
theorem dX6_girth_8 : decode cX6_girth 8 = .ok (.getfield 7, 3) := by decide +kernel
theorem dX6_girth_11 : decode cX6_girth 11 = .ok (.iload_n 1, 1) := by decide +kernel
theorem dX6_girth_12 : decode cX6_girth 12 = .ok (.iconst 1, 1) := by decide +kernel
theorem dX6_girth_13 : decode cX6_girth 13 = .ok (.iadd, 1) := by decide +kernel
theorem dX6_girth_14 : decode cX6_girth 14 = .ok (.iaload, 1) := by decide +kernel
theorem dX6_girth_15 : decode cX6_girth 15 = .ok (.aload_n 0, 1) := by decide +kernel
theorem dX6_girth_16 : decode cX6_girth 16 = .ok (.getfield 7, 3) := by decide +kernel
theorem dX6_girth_19 : decode cX6_girth 19 = .ok (.iload_n 1, 1) := by decide +kernel
theorem dX6_girth_20 : decode cX6_girth 20 = .ok (.iconst 2, 1) := by decide +kernel
theorem dX6_girth_21 : decode cX6_girth 21 = .ok (.iadd, 1) := by decide +kernel
theorem dX6_girth_22 : decode cX6_girth 22 = .ok (.iaload, 1) := by decide +kernel
theorem dX6_girth_23 : decode cX6_girth 23 = .ok (.iadd, 1) := by decide +kernel
theorem dX6_girth_24 : decode cX6_girth 24 = .ok (.imul, 1) := by decide +kernel
theorem dX6_girth_25 : decode cX6_girth 25 = .ok (.iadd, 1) := by decide +kernel
theorem dX6_girth_26 : decode cX6_girth 26 = .ok (.ireturn, 1) := by decide +kernel
theorem dX6_string_0 : decode cX6_string 0 = .ok (.aload_n 0, 1) := by decide +kernel
theorem dX6_string_1 : decode cX6_string 1 = .ok (.getfield 7, 3) := by decide +kernel
theorem dX6_string_4 : decode cX6_string 4 = .ok (.iload_n 1, 1) := by decide +kernel
theorem dX6_string_5 : decode cX6_string 5 = .ok (.iaload, 1) := by decide +kernel
theorem dX6_string_6 : decode cX6_string 6 = .ok (.istore_n 2, 1) := by decide +kernel
theorem dX6_string_7 : decode cX6_string 7 = .ok (.aload_n 0, 1) := by decide +kernel
theorem dX6_string_8 : decode cX6_string 8 = .ok (.getfield 7, 3) := by decide +kernel
theorem dX6_string_11 : decode cX6_string 11 = .ok (.iload_n 1, 1) := by decide +kernel
theorem dX6_string_12 : decode cX6_string 12 = .ok (.iconst 1, 1) := by decide +kernel
theorem dX6_string_13 : decode cX6_string 13 = .ok (.iadd, 1) := by decide +kernel
theorem dX6_string_14 : decode cX6_string 14 = .ok (.iaload, 1) := by decide +kernel
theorem dX6_string_15 : decode cX6_string 15 = .ok (.istore_n 3, 1) := by decide +kernel
theorem dX6_string_16 : decode cX6_string 16 = .ok (.aload_n 0, 1) := by decide +kernel
theorem dX6_string_17 : decode cX6_string 17 = .ok (.getfield 7, 3) := by decide +kernel
theorem dX6_string_20 : decode cX6_string 20 = .ok (.iload_n 1, 1) := by decide +kernel
theorem dX6_string_21 : decode cX6_string 21 = .ok (.iconst 2, 1) := by decide +kernel
theorem dX6_string_22 : decode cX6_string 22 = .ok (.iadd, 1) := by decide +kernel
theorem dX6_string_23 : decode cX6_string 23 = .ok (.iaload, 1) := by decide +kernel
theorem dX6_string_24 : decode cX6_string 24 = .ok (.istore 4, 2) := by decide +kernel
theorem dX6_string_26 : decode cX6_string 26 = .ok (.aload_n 0, 1) := by decide +kernel
theorem dX6_string_27 : decode cX6_string 27 = .ok (.getfield 7, 3) := by decide +kernel
theorem dX6_string_30 : decode cX6_string 30 = .ok (.iload_n 1, 1) := by decide +kernel
theorem dX6_string_31 : decode cX6_string 31 = .ok (.bipush 6, 2) := by decide +kernel
theorem dX6_string_33 : decode cX6_string 33 = .ok (.iadd, 1) := by decide +kernel
theorem dX6_string_34 : decode cX6_string 34 = .ok (.iaload, 1) := by decide +kernel
theorem dX6_string_35 : decode cX6_string 35 = .ok (.iconst 1, 1) := by decide +kernel
theorem dX6_string_36 : decode cX6_string 36 = .ok (.iadd, 1) := by decide +kernel
theorem dX6_string_37 : decode cX6_string 37 = .ok (.istore 5, 2) := by decide +kernel
theorem dX6_string_39 : decode cX6_string 39 = .ok (.iload 5, 2) := by decide +kernel
theorem dX6_string_41 : decode cX6_string 41 = .ok (.aload_n 0, 1) := by decide +kernel
theorem dX6_string_42 : decode cX6_string 42 = .ok (.getfield 7, 3) := by decide +kernel
theorem dX6_string_45 : decode cX6_string 45 = .ok (.iconst 0, 1) := by decide +kernel
theorem dX6_string_46 : decode cX6_string 46 = .ok (.iaload, 1) := by decide +kernel
theorem dX6_string_47 : decode cX6_string 47 = .ok (.imul, 1) := by decide +kernel
theorem dX6_string_48 : decode cX6_string 48 = .ok (.iload 5, 2) := by decide +kernel
theorem dX6_string_50 : decode cX6_string 50 = .ok (.iconst 1, 1) := by decide +kernel
theorem dX6_string_51 : decode cX6_string 51 = .ok (.if_icmp .ne 12, 3) := by decide +kernel
theorem dX6_string_54 : decode cX6_string 54 = .ok (.iconst 2, 1) := by decide +kernel
theorem dX6_string_55 : decode cX6_string 55 = .ok (.iload_n 3, 1) := by decide +kernel
theorem dX6_string_56 : decode cX6_string 56 = .ok (.iload 4, 2) := by decide +kernel
theorem dX6_string_58 : decode cX6_string 58 = .ok (.iadd, 1) := by decide +kernel
theorem dX6_string_59 : decode cX6_string 59 = .ok (.imul, 1) := by decide +kernel
theorem dX6_string_60 : decode cX6_string 60 = .ok (.goto 37, 3) := by decide +kernel
theorem dX6_string_63 : decode cX6_string 63 = .ok (.iload 5, 2) := by decide +kernel
theorem dX6_string_65 : decode cX6_string 65 = .ok (.iconst 2, 1) := by decide +kernel
theorem dX6_string_66 : decode cX6_string 66 = .ok (.if_icmp .ne 18, 3) := by decide +kernel
theorem dX6_string_69 : decode cX6_string 69 = .ok (.iconst 2, 1) := by decide +kernel
theorem dX6_string_70 : decode cX6_string 70 = .ok (.iload_n 2, 1) := by decide +kernel
theorem dX6_string_71 : decode cX6_string 71 = .ok (.imul, 1) := by decide +kernel
theorem dX6_string_72 : decode cX6_string 72 = .ok (.iconst 2, 1) := by decide +kernel
theorem dX6_string_73 : decode cX6_string 73 = .ok (.iload_n 3, 1) := by decide +kernel
theorem dX6_string_74 : decode cX6_string 74 = .ok (.imul, 1) := by decide +kernel
theorem dX6_string_75 : decode cX6_string 75 = .ok (.iadd, 1) := by decide +kernel
theorem dX6_string_76 : decode cX6_string 76 = .ok (.iconst 4, 1) := by decide +kernel
theorem dX6_string_77 : decode cX6_string 77 = .ok (.iload 4, 2) := by decide +kernel
theorem dX6_string_79 : decode cX6_string 79 = .ok (.imul, 1) := by decide +kernel
theorem dX6_string_80 : decode cX6_string 80 = .ok (.iadd, 1) := by decide +kernel
theorem dX6_string_81 : decode cX6_string 81 = .ok (.goto 16, 3) := by decide +kernel
theorem dX6_string_84 : decode cX6_string 84 = .ok (.iconst 4, 1) := by decide +kernel
theorem dX6_string_85 : decode cX6_string 85 = .ok (.iload_n 2, 1) := by decide +kernel
theorem dX6_string_86 : decode cX6_string 86 = .ok (.imul, 1) := by decide +kernel
theorem dX6_string_87 : decode cX6_string 87 = .ok (.iconst 2, 1) := by decide +kernel
theorem dX6_string_88 : decode cX6_string 88 = .ok (.iload_n 3, 1) := by decide +kernel
theorem dX6_string_89 : decode cX6_string 89 = .ok (.imul, 1) := by decide +kernel
theorem dX6_string_90 : decode cX6_string 90 = .ok (.iadd, 1) := by decide +kernel
theorem dX6_string_91 : decode cX6_string 91 = .ok (.bipush 6, 2) := by decide +kernel
theorem dX6_string_93 : decode cX6_string 93 = .ok (.iload 4, 2) := by decide +kernel
theorem dX6_string_95 : decode cX6_string 95 = .ok (.imul, 1) := by decide +kernel
theorem dX6_string_96 : decode cX6_string 96 = .ok (.iadd, 1) := by decide +kernel
theorem dX6_string_97 : decode cX6_string 97 = .ok (.iadd, 1) := by decide +kernel
theorem dX6_string_98 : decode cX6_string 98 = .ok (.ireturn, 1) := by decide +kernel
theorem dX6_bandOf_0 : decode cX6_bandOf 0 = .ok (.iload_n 0, 1) := by decide +kernel
theorem dX6_bandOf_1 : decode cX6_bandOf 1 = .ok (.sipush 600, 3) := by decide +kernel
theorem dX6_bandOf_4 : decode cX6_bandOf 4 = .ok (.if_icmp .le 8, 3) := by decide +kernel
theorem dX6_bandOf_7 : decode cX6_bandOf 7 = .ok (.bipush 11, 2) := by decide +kernel
theorem dX6_bandOf_9 : decode cX6_bandOf 9 = .ok (.goto 9, 3) := by decide +kernel
theorem dX6_bandOf_12 : decode cX6_bandOf 12 = .ok (.iload_n 0, 1) := by decide +kernel
theorem dX6_bandOf_13 : decode cX6_bandOf 13 = .ok (.iconst 1, 1) := by decide +kernel
theorem dX6_bandOf_14 : decode cX6_bandOf 14 = .ok (.isub, 1) := by decide +kernel
theorem dX6_bandOf_15 : decode cX6_bandOf 15 = .ok (.bipush 50, 2) := by decide +kernel
theorem dX6_bandOf_17 : decode cX6_bandOf 17 = .ok (.idiv, 1) := by decide +kernel
theorem dX6_bandOf_18 : decode cX6_bandOf 18 = .ok (.ireturn, 1) := by decide +kernel
theorem dX6_rateOf_0 : decode cX6_rateOf 0 = .ok (.iconst 0, 1) := by decide +kernel
theorem dX6_rateOf_1 : decode cX6_rateOf 1 = .ok (.istore_n 2, 1) := by decide +kernel
theorem dX6_rateOf_2 : decode cX6_rateOf 2 = .ok (.iconst 0, 1) := by decide +kernel
theorem dX6_rateOf_3 : decode cX6_rateOf 3 = .ok (.istore_n 3, 1) := by decide +kernel
theorem dX6_rateOf_4 : decode cX6_rateOf 4 = .ok (.iload_n 3, 1) := by decide +kernel
theorem dX6_rateOf_5 : decode cX6_rateOf 5 = .ok (.iload_n 1, 1) := by decide +kernel
theorem dX6_rateOf_6 : decode cX6_rateOf 6 = .ok (.invokestatic 45, 3) := by decide +kernel
theorem dX6_rateOf_9 : decode cX6_rateOf 9 = .ok (.if_icmp .gt 22, 3) := by decide +kernel
theorem dX6_rateOf_12 : decode cX6_rateOf 12 = .ok (.aload_n 0, 1) := by decide +kernel
theorem dX6_rateOf_13 : decode cX6_rateOf 13 = .ok (.getfield 7, 3) := by decide +kernel
theorem dX6_rateOf_16 : decode cX6_rateOf 16 = .ok (.iconst 4, 1) := by decide +kernel
theorem dX6_rateOf_17 : decode cX6_rateOf 17 = .ok (.iload_n 3, 1) := by decide +kernel
theorem dX6_rateOf_18 : decode cX6_rateOf 18 = .ok (.iadd, 1) := by decide +kernel
theorem dX6_rateOf_19 : decode cX6_rateOf 19 = .ok (.iaload, 1) := by decide +kernel
theorem dX6_rateOf_20 : decode cX6_rateOf 20 = .ok (.iload_n 2, 1) := by decide +kernel
theorem dX6_rateOf_21 : decode cX6_rateOf 21 = .ok (.invokestatic 49, 3) := by decide +kernel
theorem dX6_rateOf_24 : decode cX6_rateOf 24 = .ok (.istore_n 2, 1) := by decide +kernel
theorem dX6_rateOf_25 : decode cX6_rateOf 25 = .ok (.iinc 3 1, 3) := by decide +kernel
theorem dX6_rateOf_28 : decode cX6_rateOf 28 = .ok (.goto (-24), 3) := by decide +kernel
theorem dX6_rateOf_31 : decode cX6_rateOf 31 = .ok (.iload_n 2, 1) := by decide +kernel
theorem dX6_rateOf_32 : decode cX6_rateOf 32 = .ok (.ireturn, 1) := by decide +kernel
theorem dX6_isOdd_0 : decode cX6_isOdd 0 = .ok (.aload_n 0, 1) := by decide +kernel
theorem dX6_isOdd_1 : decode cX6_isOdd 1 = .ok (.iload_n 1, 1) := by decide +kernel
theorem dX6_isOdd_2 : decode cX6_isOdd 2 = .ok (.invokevirtual 53, 3) := by decide +kernel
theorem dX6_isOdd_5 : decode cX6_isOdd 5 = .ok (.aload_n 0, 1) := by decide +kernel
theorem dX6_isOdd_6 : decode cX6_isOdd 6 = .ok (.getfield 7, 3) := by decide +kernel
theorem dX6_isOdd_9 : decode cX6_isOdd 9 = .ok (.iconst 1, 1) := by decide +kernel
theorem dX6_isOdd_10 : decode cX6_isOdd 10 = .ok (.iaload, 1) := by decide +kernel
theorem dX6_isOdd_11 : decode cX6_isOdd 11 = .ok (.if_icmp .le 7, 3) := by decide +kernel
theorem dX6_isOdd_14 : decode cX6_isOdd 14 = .ok (.iconst 1, 1) := by decide +kernel
theorem dX6_isOdd_15 : decode cX6_isOdd 15 = .ok (.goto 4, 3) := by decide +kernel
theorem dX6_isOdd_18 : decode cX6_isOdd 18 = .ok (.iconst 0, 1) := by decide +kernel
theorem dX6_isOdd_19 : decode cX6_isOdd 19 = .ok (.ireturn, 1) := by decide +kernel
theorem dX6_postageWith_0 : decode cX6_postageWith 0 = .ok (.aload_n 0, 1) := by decide +kernel
theorem dX6_postageWith_1 : decode cX6_postageWith 1 = .ok (.iload_n 2, 1) := by decide +kernel
theorem dX6_postageWith_2 : decode cX6_postageWith 2 = .ok (.invokevirtual 56, 3) := by decide +kernel
theorem dX6_postageWith_5 : decode cX6_postageWith 5 = .ok (.aload_n 0, 1) := by decide +kernel
theorem dX6_postageWith_6 : decode cX6_postageWith 6 = .ok (.getfield 7, 3) := by decide +kernel
theorem dX6_postageWith_9 : decode cX6_postageWith 9 = .ok (.bipush 16, 2) := by decide +kernel
theorem dX6_postageWith_11 : decode cX6_postageWith 11 = .ok (.aload_n 0, 1) := by decide +kernel
theorem dX6_postageWith_12 : decode cX6_postageWith 12 = .ok (.getfield 7, 3) := by decide +kernel
theorem dX6_postageWith_15 : decode cX6_postageWith 15 = .ok (.iload_n 1, 1) := by decide +kernel
theorem dX6_postageWith_16 : decode cX6_postageWith 16 = .ok (.iconst 4, 1) := by decide +kernel
theorem dX6_postageWith_17 : decode cX6_postageWith 17 = .ok (.iadd, 1) := by decide +kernel
theorem dX6_postageWith_18 : decode cX6_postageWith 18 = .ok (.iaload, 1) := by decide +kernel
theorem dX6_postageWith_19 : decode cX6_postageWith 19 = .ok (.iadd, 1) := by decide +kernel
theorem dX6_postageWith_20 : decode cX6_postageWith 20 = .ok (.iaload, 1) := by decide +kernel
theorem dX6_postageWith_21 : decode cX6_postageWith 21 = .ok (.imul, 1) := by decide +kernel
theorem dX6_postageWith_22 : decode cX6_postageWith 22 = .ok (.istore_n 3, 1) := by decide +kernel
theorem dX6_postageWith_23 : decode cX6_postageWith 23 = .ok (.iload_n 3, 1) := by decide +kernel
theorem dX6_postageWith_24 : decode cX6_postageWith 24 = .ok (.aload_n 0, 1) := by decide +kernel
theorem dX6_postageWith_25 : decode cX6_postageWith 25 = .ok (.iload_n 1, 1) := by decide +kernel
theorem dX6_postageWith_26 : decode cX6_postageWith 26 = .ok (.invokevirtual 59, 3) := by decide +kernel
theorem dX6_postageWith_29 : decode cX6_postageWith 29 = .ok (.ifCond .eq 9, 3) := by decide +kernel
theorem dX6_postageWith_32 : decode cX6_postageWith 32 = .ok (.iload_n 3, 1) := by decide +kernel
theorem dX6_postageWith_33 : decode cX6_postageWith 33 = .ok (.iconst 2, 1) := by decide +kernel
theorem dX6_postageWith_34 : decode cX6_postageWith 34 = .ok (.idiv, 1) := by decide +kernel
theorem dX6_postageWith_35 : decode cX6_postageWith 35 = .ok (.goto 4, 3) := by decide +kernel
theorem dX6_postageWith_38 : decode cX6_postageWith 38 = .ok (.iconst 0, 1) := by decide +kernel
theorem dX6_postageWith_39 : decode cX6_postageWith 39 = .ok (.iadd, 1) := by decide +kernel
theorem dX6_postageWith_40 : decode cX6_postageWith 40 = .ok (.aload_n 0, 1) := by decide +kernel
theorem dX6_postageWith_41 : decode cX6_postageWith 41 = .ok (.getfield 7, 3) := by decide +kernel
theorem dX6_postageWith_44 : decode cX6_postageWith 44 = .ok (.iconst 2, 1) := by decide +kernel
theorem dX6_postageWith_45 : decode cX6_postageWith 45 = .ok (.iaload, 1) := by decide +kernel
theorem dX6_postageWith_46 : decode cX6_postageWith 46 = .ok (.aload_n 0, 1) := by decide +kernel
theorem dX6_postageWith_47 : decode cX6_postageWith 47 = .ok (.getfield 7, 3) := by decide +kernel
theorem dX6_postageWith_50 : decode cX6_postageWith 50 = .ok (.iload_n 1, 1) := by decide +kernel
theorem dX6_postageWith_51 : decode cX6_postageWith 51 = .ok (.iconst 5, 1) := by decide +kernel
theorem dX6_postageWith_52 : decode cX6_postageWith 52 = .ok (.iadd, 1) := by decide +kernel
theorem dX6_postageWith_53 : decode cX6_postageWith 53 = .ok (.iaload, 1) := by decide +kernel
theorem dX6_postageWith_54 : decode cX6_postageWith 54 = .ok (.imul, 1) := by decide +kernel
theorem dX6_postageWith_55 : decode cX6_postageWith 55 = .ok (.iadd, 1) := by decide +kernel
theorem dX6_postageWith_56 : decode cX6_postageWith 56 = .ok (.ireturn, 1) := by decide +kernel
theorem dX6_postage_0 : decode cX6_postage 0 = .ok (.aload_n 0, 1) := by decide +kernel
theorem dX6_postage_1 : decode cX6_postage 1 = .ok (.iload_n 1, 1) := by decide +kernel
theorem dX6_postage_2 : decode cX6_postage 2 = .ok (.aload_n 0, 1) := by decide +kernel
theorem dX6_postage_3 : decode cX6_postage 3 = .ok (.iload_n 1, 1) := by decide +kernel
theorem dX6_postage_4 : decode cX6_postage 4 = .ok (.invokevirtual 63, 3) := by decide +kernel
theorem dX6_postage_7 : decode cX6_postage 7 = .ok (.invokevirtual 66, 3) := by decide +kernel
theorem dX6_postage_10 : decode cX6_postage 10 = .ok (.ireturn, 1) := by decide +kernel
theorem dX6_reason_0 : decode cX6_reason 0 = .ok (.aload_n 0, 1) := by decide +kernel
theorem dX6_reason_1 : decode cX6_reason 1 = .ok (.getfield 7, 3) := by decide +kernel
theorem dX6_reason_4 : decode cX6_reason 4 = .ok (.iload_n 1, 1) := by decide +kernel
theorem dX6_reason_5 : decode cX6_reason 5 = .ok (.iconst 3, 1) := by decide +kernel
theorem dX6_reason_6 : decode cX6_reason 6 = .ok (.iadd, 1) := by decide +kernel
theorem dX6_reason_7 : decode cX6_reason 7 = .ok (.iaload, 1) := by decide +kernel
theorem dX6_reason_8 : decode cX6_reason 8 = .ok (.istore_n 2, 1) := by decide +kernel
theorem dX6_reason_9 : decode cX6_reason 9 = .ok (.aload_n 0, 1) := by decide +kernel
theorem dX6_reason_10 : decode cX6_reason 10 = .ok (.getfield 7, 3) := by decide +kernel
theorem dX6_reason_13 : decode cX6_reason 13 = .ok (.iload_n 1, 1) := by decide +kernel
theorem dX6_reason_14 : decode cX6_reason 14 = .ok (.bipush 6, 2) := by decide +kernel
theorem dX6_reason_16 : decode cX6_reason 16 = .ok (.iadd, 1) := by decide +kernel
theorem dX6_reason_17 : decode cX6_reason 17 = .ok (.iaload, 1) := by decide +kernel
theorem dX6_reason_18 : decode cX6_reason 18 = .ok (.istore_n 3, 1) := by decide +kernel
theorem dX6_reason_19 : decode cX6_reason 19 = .ok (.iload_n 2, 1) := by decide +kernel
theorem dX6_reason_20 : decode cX6_reason 20 = .ok (.bipush 30, 2) := by decide +kernel
theorem dX6_reason_22 : decode cX6_reason 22 = .ok (.if_icmp .le 7, 3) := by decide +kernel
theorem dX6_reason_25 : decode cX6_reason 25 = .ok (.iload_n 3, 1) := by decide +kernel
theorem dX6_reason_26 : decode cX6_reason 26 = .ok (.ifCond .eq 14, 3) := by decide +kernel
theorem dX6_reason_29 : decode cX6_reason 29 = .ok (.iload_n 2, 1) := by decide +kernel
theorem dX6_reason_30 : decode cX6_reason 30 = .ok (.bipush 60, 2) := by decide +kernel
theorem dX6_reason_32 : decode cX6_reason 32 = .ok (.if_icmp .le 10, 3) := by decide +kernel
theorem dX6_reason_35 : decode cX6_reason 35 = .ok (.iload_n 3, 1) := by decide +kernel
theorem dX6_reason_36 : decode cX6_reason 36 = .ok (.iconst 1, 1) := by decide +kernel
theorem dX6_reason_37 : decode cX6_reason 37 = .ok (.if_icmp .ne 5, 3) := by decide +kernel
theorem dX6_reason_40 : decode cX6_reason 40 = .ok (.iconst 1, 1) := by decide +kernel
theorem dX6_reason_41 : decode cX6_reason 41 = .ok (.ireturn, 1) := by decide +kernel
theorem dX6_reason_42 : decode cX6_reason 42 = .ok (.aload_n 0, 1) := by decide +kernel
theorem dX6_reason_43 : decode cX6_reason 43 = .ok (.iload_n 1, 1) := by decide +kernel
theorem dX6_reason_44 : decode cX6_reason 44 = .ok (.invokevirtual 53, 3) := by decide +kernel
theorem dX6_reason_47 : decode cX6_reason 47 = .ok (.iconst 2, 1) := by decide +kernel
theorem dX6_reason_48 : decode cX6_reason 48 = .ok (.aload_n 0, 1) := by decide +kernel
theorem dX6_reason_49 : decode cX6_reason 49 = .ok (.getfield 7, 3) := by decide +kernel
theorem dX6_reason_52 : decode cX6_reason 52 = .ok (.iconst 1, 1) := by decide +kernel
theorem dX6_reason_53 : decode cX6_reason 53 = .ok (.iaload, 1) := by decide +kernel
theorem dX6_reason_54 : decode cX6_reason 54 = .ok (.imul, 1) := by decide +kernel
theorem dX6_reason_55 : decode cX6_reason 55 = .ok (.if_icmp .le 7, 3) := by decide +kernel
theorem dX6_reason_58 : decode cX6_reason 58 = .ok (.iconst 2, 1) := by decide +kernel
theorem dX6_reason_59 : decode cX6_reason 59 = .ok (.goto 23, 3) := by decide +kernel
theorem dX6_reason_62 : decode cX6_reason 62 = .ok (.aload_n 0, 1) := by decide +kernel
theorem dX6_reason_63 : decode cX6_reason 63 = .ok (.getfield 7, 3) := by decide +kernel
theorem dX6_reason_66 : decode cX6_reason 66 = .ok (.iload_n 1, 1) := by decide +kernel
theorem dX6_reason_67 : decode cX6_reason 67 = .ok (.iconst 5, 1) := by decide +kernel
theorem dX6_reason_68 : decode cX6_reason 68 = .ok (.iadd, 1) := by decide +kernel
theorem dX6_reason_69 : decode cX6_reason 69 = .ok (.iaload, 1) := by decide +kernel
theorem dX6_reason_70 : decode cX6_reason 70 = .ok (.ifCond .le 11, 3) := by decide +kernel
theorem dX6_reason_73 : decode cX6_reason 73 = .ok (.iload_n 3, 1) := by decide +kernel
theorem dX6_reason_74 : decode cX6_reason 74 = .ok (.ifCond .ne 7, 3) := by decide +kernel
theorem dX6_reason_77 : decode cX6_reason 77 = .ok (.iconst 3, 1) := by decide +kernel
theorem dX6_reason_78 : decode cX6_reason 78 = .ok (.goto 4, 3) := by decide +kernel
theorem dX6_reason_81 : decode cX6_reason 81 = .ok (.iconst 0, 1) := by decide +kernel
theorem dX6_reason_82 : decode cX6_reason 82 = .ok (.ireturn, 1) := by decide +kernel
theorem dX6_sorts_0 : decode cX6_sorts 0 = .ok (.iload_n 2, 1) := by decide +kernel
theorem dX6_sorts_1 : decode cX6_sorts 1 = .ok (.iload_n 3, 1) := by decide +kernel
theorem dX6_sorts_2 : decode cX6_sorts 2 = .ok (.iload 4, 2) := by decide +kernel
theorem dX6_sorts_4 : decode cX6_sorts 4 = .ok (.invokestatic 49, 3) := by decide +kernel
theorem dX6_sorts_7 : decode cX6_sorts 7 = .ok (.invokestatic 49, 3) := by decide +kernel
theorem dX6_sorts_10 : decode cX6_sorts 10 = .ok (.istore 5, 2) := by decide +kernel
theorem dX6_sorts_12 : decode cX6_sorts 12 = .ok (.iload_n 2, 1) := by decide +kernel
theorem dX6_sorts_13 : decode cX6_sorts 13 = .ok (.ineg, 1) := by decide +kernel
theorem dX6_sorts_14 : decode cX6_sorts 14 = .ok (.iload_n 3, 1) := by decide +kernel
theorem dX6_sorts_15 : decode cX6_sorts 15 = .ok (.ineg, 1) := by decide +kernel
theorem dX6_sorts_16 : decode cX6_sorts 16 = .ok (.iload 4, 2) := by decide +kernel
theorem dX6_sorts_18 : decode cX6_sorts 18 = .ok (.ineg, 1) := by decide +kernel
theorem dX6_sorts_19 : decode cX6_sorts 19 = .ok (.invokestatic 49, 3) := by decide +kernel
theorem dX6_sorts_22 : decode cX6_sorts 22 = .ok (.invokestatic 49, 3) := by decide +kernel
theorem dX6_sorts_25 : decode cX6_sorts 25 = .ok (.ineg, 1) := by decide +kernel
theorem dX6_sorts_26 : decode cX6_sorts 26 = .ok (.istore 6, 2) := by decide +kernel
theorem dX6_sorts_28 : decode cX6_sorts 28 = .ok (.aload_n 0, 1) := by decide +kernel
theorem dX6_sorts_29 : decode cX6_sorts 29 = .ok (.getfield 7, 3) := by decide +kernel
theorem dX6_sorts_32 : decode cX6_sorts 32 = .ok (.iload_n 1, 1) := by decide +kernel
theorem dX6_sorts_33 : decode cX6_sorts 33 = .ok (.iload 5, 2) := by decide +kernel
theorem dX6_sorts_35 : decode cX6_sorts 35 = .ok (.iastore, 1) := by decide +kernel
theorem dX6_sorts_36 : decode cX6_sorts 36 = .ok (.aload_n 0, 1) := by decide +kernel
theorem dX6_sorts_37 : decode cX6_sorts 37 = .ok (.getfield 7, 3) := by decide +kernel
theorem dX6_sorts_40 : decode cX6_sorts 40 = .ok (.iload_n 1, 1) := by decide +kernel
theorem dX6_sorts_41 : decode cX6_sorts 41 = .ok (.iconst 1, 1) := by decide +kernel
theorem dX6_sorts_42 : decode cX6_sorts 42 = .ok (.iadd, 1) := by decide +kernel
theorem dX6_sorts_43 : decode cX6_sorts 43 = .ok (.iload_n 2, 1) := by decide +kernel
theorem dX6_sorts_44 : decode cX6_sorts 44 = .ok (.iload_n 3, 1) := by decide +kernel
theorem dX6_sorts_45 : decode cX6_sorts 45 = .ok (.iadd, 1) := by decide +kernel
theorem dX6_sorts_46 : decode cX6_sorts 46 = .ok (.iload 4, 2) := by decide +kernel
theorem dX6_sorts_48 : decode cX6_sorts 48 = .ok (.iadd, 1) := by decide +kernel
theorem dX6_sorts_49 : decode cX6_sorts 49 = .ok (.iload 5, 2) := by decide +kernel
theorem dX6_sorts_51 : decode cX6_sorts 51 = .ok (.isub, 1) := by decide +kernel
theorem dX6_sorts_52 : decode cX6_sorts 52 = .ok (.iload 6, 2) := by decide +kernel
theorem dX6_sorts_54 : decode cX6_sorts 54 = .ok (.isub, 1) := by decide +kernel
theorem dX6_sorts_55 : decode cX6_sorts 55 = .ok (.iastore, 1) := by decide +kernel
theorem dX6_sorts_56 : decode cX6_sorts 56 = .ok (.aload_n 0, 1) := by decide +kernel
theorem dX6_sorts_57 : decode cX6_sorts 57 = .ok (.getfield 7, 3) := by decide +kernel
theorem dX6_sorts_60 : decode cX6_sorts 60 = .ok (.iload_n 1, 1) := by decide +kernel
theorem dX6_sorts_61 : decode cX6_sorts 61 = .ok (.iconst 2, 1) := by decide +kernel
theorem dX6_sorts_62 : decode cX6_sorts 62 = .ok (.iadd, 1) := by decide +kernel
theorem dX6_sorts_63 : decode cX6_sorts 63 = .ok (.iload 6, 2) := by decide +kernel
theorem dX6_sorts_65 : decode cX6_sorts 65 = .ok (.iastore, 1) := by decide +kernel
theorem dX6_sorts_66 : decode cX6_sorts 66 = .ok (.return_, 1) := by decide +kernel
theorem dX6_laysBundle_0 : decode cX6_laysBundle 0 = .ok (.iload_n 1, 1) := by decide +kernel
theorem dX6_laysBundle_1 : decode cX6_laysBundle 1 = .ok (.invokestatic 69, 3) := by decide +kernel
theorem dX6_laysBundle_4 : decode cX6_laysBundle 4 = .ok (.istore_n 3, 1) := by decide +kernel
theorem dX6_laysBundle_5 : decode cX6_laysBundle 5 = .ok (.iload_n 2, 1) := by decide +kernel
theorem dX6_laysBundle_6 : decode cX6_laysBundle 6 = .ok (.invokestatic 69, 3) := by decide +kernel
theorem dX6_laysBundle_9 : decode cX6_laysBundle 9 = .ok (.istore 4, 2) := by decide +kernel
theorem dX6_laysBundle_11 : decode cX6_laysBundle 11 = .ok (.aload_n 0, 1) := by decide +kernel
theorem dX6_laysBundle_12 : decode cX6_laysBundle 12 = .ok (.sipush 675, 3) := by decide +kernel
theorem dX6_laysBundle_15 : decode cX6_laysBundle 15 = .ok (.aload_n 0, 1) := by decide +kernel
theorem dX6_laysBundle_16 : decode cX6_laysBundle 16 = .ok (.getfield 7, 3) := by decide +kernel
theorem dX6_laysBundle_19 : decode cX6_laysBundle 19 = .ok (.iload_n 3, 1) := by decide +kernel
theorem dX6_laysBundle_20 : decode cX6_laysBundle 20 = .ok (.iaload, 1) := by decide +kernel
theorem dX6_laysBundle_21 : decode cX6_laysBundle 21 = .ok (.aload_n 0, 1) := by decide +kernel
theorem dX6_laysBundle_22 : decode cX6_laysBundle 22 = .ok (.getfield 7, 3) := by decide +kernel
theorem dX6_laysBundle_25 : decode cX6_laysBundle 25 = .ok (.iload 4, 2) := by decide +kernel
theorem dX6_laysBundle_27 : decode cX6_laysBundle 27 = .ok (.iaload, 1) := by decide +kernel
theorem dX6_laysBundle_28 : decode cX6_laysBundle 28 = .ok (.invokestatic 49, 3) := by decide +kernel
theorem dX6_laysBundle_31 : decode cX6_laysBundle 31 = .ok (.aload_n 0, 1) := by decide +kernel
theorem dX6_laysBundle_32 : decode cX6_laysBundle 32 = .ok (.getfield 7, 3) := by decide +kernel
theorem dX6_laysBundle_35 : decode cX6_laysBundle 35 = .ok (.iload_n 3, 1) := by decide +kernel
theorem dX6_laysBundle_36 : decode cX6_laysBundle 36 = .ok (.iconst 1, 1) := by decide +kernel
theorem dX6_laysBundle_37 : decode cX6_laysBundle 37 = .ok (.iadd, 1) := by decide +kernel
theorem dX6_laysBundle_38 : decode cX6_laysBundle 38 = .ok (.iaload, 1) := by decide +kernel
theorem dX6_laysBundle_39 : decode cX6_laysBundle 39 = .ok (.aload_n 0, 1) := by decide +kernel
theorem dX6_laysBundle_40 : decode cX6_laysBundle 40 = .ok (.getfield 7, 3) := by decide +kernel
theorem dX6_laysBundle_43 : decode cX6_laysBundle 43 = .ok (.iload 4, 2) := by decide +kernel
theorem dX6_laysBundle_45 : decode cX6_laysBundle 45 = .ok (.iconst 1, 1) := by decide +kernel
theorem dX6_laysBundle_46 : decode cX6_laysBundle 46 = .ok (.iadd, 1) := by decide +kernel
theorem dX6_laysBundle_47 : decode cX6_laysBundle 47 = .ok (.iaload, 1) := by decide +kernel
theorem dX6_laysBundle_48 : decode cX6_laysBundle 48 = .ok (.invokestatic 49, 3) := by decide +kernel
theorem dX6_laysBundle_51 : decode cX6_laysBundle 51 = .ok (.aload_n 0, 1) := by decide +kernel
theorem dX6_laysBundle_52 : decode cX6_laysBundle 52 = .ok (.getfield 7, 3) := by decide +kernel
theorem dX6_laysBundle_55 : decode cX6_laysBundle 55 = .ok (.iload_n 3, 1) := by decide +kernel
theorem dX6_laysBundle_56 : decode cX6_laysBundle 56 = .ok (.iconst 2, 1) := by decide +kernel
theorem dX6_laysBundle_57 : decode cX6_laysBundle 57 = .ok (.iadd, 1) := by decide +kernel
theorem dX6_laysBundle_58 : decode cX6_laysBundle 58 = .ok (.iaload, 1) := by decide +kernel
theorem dX6_laysBundle_59 : decode cX6_laysBundle 59 = .ok (.aload_n 0, 1) := by decide +kernel
theorem dX6_laysBundle_60 : decode cX6_laysBundle 60 = .ok (.getfield 7, 3) := by decide +kernel
theorem dX6_laysBundle_63 : decode cX6_laysBundle 63 = .ok (.iload 4, 2) := by decide +kernel
theorem dX6_laysBundle_65 : decode cX6_laysBundle 65 = .ok (.iconst 2, 1) := by decide +kernel
theorem dX6_laysBundle_66 : decode cX6_laysBundle 66 = .ok (.iadd, 1) := by decide +kernel
theorem dX6_laysBundle_67 : decode cX6_laysBundle 67 = .ok (.iaload, 1) := by decide +kernel
theorem dX6_laysBundle_68 : decode cX6_laysBundle 68 = .ok (.iadd, 1) := by decide +kernel
theorem dX6_laysBundle_69 : decode cX6_laysBundle 69 = .ok (.invokevirtual 72, 3) := by decide +kernel
theorem dX6_laysBundle_72 : decode cX6_laysBundle 72 = .ok (.aload_n 0, 1) := by decide +kernel
theorem dX6_laysBundle_73 : decode cX6_laysBundle 73 = .ok (.getfield 7, 3) := by decide +kernel
theorem dX6_laysBundle_76 : decode cX6_laysBundle 76 = .ok (.sipush 678, 3) := by decide +kernel
theorem dX6_laysBundle_79 : decode cX6_laysBundle 79 = .ok (.aload_n 0, 1) := by decide +kernel
theorem dX6_laysBundle_80 : decode cX6_laysBundle 80 = .ok (.getfield 7, 3) := by decide +kernel
theorem dX6_laysBundle_83 : decode cX6_laysBundle 83 = .ok (.iload_n 3, 1) := by decide +kernel
theorem dX6_laysBundle_84 : decode cX6_laysBundle 84 = .ok (.iconst 3, 1) := by decide +kernel
theorem dX6_laysBundle_85 : decode cX6_laysBundle 85 = .ok (.iadd, 1) := by decide +kernel
theorem dX6_laysBundle_86 : decode cX6_laysBundle 86 = .ok (.iaload, 1) := by decide +kernel
theorem dX6_laysBundle_87 : decode cX6_laysBundle 87 = .ok (.aload_n 0, 1) := by decide +kernel
theorem dX6_laysBundle_88 : decode cX6_laysBundle 88 = .ok (.getfield 7, 3) := by decide +kernel
theorem dX6_laysBundle_91 : decode cX6_laysBundle 91 = .ok (.iload 4, 2) := by decide +kernel
theorem dX6_laysBundle_93 : decode cX6_laysBundle 93 = .ok (.iconst 3, 1) := by decide +kernel
theorem dX6_laysBundle_94 : decode cX6_laysBundle 94 = .ok (.iadd, 1) := by decide +kernel
theorem dX6_laysBundle_95 : decode cX6_laysBundle 95 = .ok (.iaload, 1) := by decide +kernel
theorem dX6_laysBundle_96 : decode cX6_laysBundle 96 = .ok (.iadd, 1) := by decide +kernel
theorem dX6_laysBundle_97 : decode cX6_laysBundle 97 = .ok (.iastore, 1) := by decide +kernel
theorem dX6_laysBundle_98 : decode cX6_laysBundle 98 = .ok (.aload_n 0, 1) := by decide +kernel
theorem dX6_laysBundle_99 : decode cX6_laysBundle 99 = .ok (.getfield 7, 3) := by decide +kernel
theorem dX6_laysBundle_102 : decode cX6_laysBundle 102 = .ok (.sipush 679, 3) := by decide +kernel
theorem dX6_laysBundle_105 : decode cX6_laysBundle 105 = .ok (.aload_n 0, 1) := by decide +kernel
theorem dX6_laysBundle_106 : decode cX6_laysBundle 106 = .ok (.getfield 7, 3) := by decide +kernel
theorem dX6_laysBundle_109 : decode cX6_laysBundle 109 = .ok (.iload_n 3, 1) := by decide +kernel
theorem dX6_laysBundle_110 : decode cX6_laysBundle 110 = .ok (.iconst 4, 1) := by decide +kernel
theorem dX6_laysBundle_111 : decode cX6_laysBundle 111 = .ok (.iadd, 1) := by decide +kernel
theorem dX6_laysBundle_112 : decode cX6_laysBundle 112 = .ok (.iaload, 1) := by decide +kernel
theorem dX6_laysBundle_113 : decode cX6_laysBundle 113 = .ok (.iastore, 1) := by decide +kernel
theorem dX6_laysBundle_114 : decode cX6_laysBundle 114 = .ok (.aload_n 0, 1) := by decide +kernel
theorem dX6_laysBundle_115 : decode cX6_laysBundle 115 = .ok (.getfield 7, 3) := by decide +kernel
theorem dX6_laysBundle_118 : decode cX6_laysBundle 118 = .ok (.sipush 680, 3) := by decide +kernel
theorem dX6_laysBundle_121 : decode cX6_laysBundle 121 = .ok (.aload_n 0, 1) := by decide +kernel
theorem dX6_laysBundle_122 : decode cX6_laysBundle 122 = .ok (.getfield 7, 3) := by decide +kernel
theorem dX6_laysBundle_125 : decode cX6_laysBundle 125 = .ok (.iload_n 3, 1) := by decide +kernel
theorem dX6_laysBundle_126 : decode cX6_laysBundle 126 = .ok (.iconst 5, 1) := by decide +kernel
theorem dX6_laysBundle_127 : decode cX6_laysBundle 127 = .ok (.iadd, 1) := by decide +kernel
theorem dX6_laysBundle_128 : decode cX6_laysBundle 128 = .ok (.iaload, 1) := by decide +kernel
theorem dX6_laysBundle_129 : decode cX6_laysBundle 129 = .ok (.aload_n 0, 1) := by decide +kernel
theorem dX6_laysBundle_130 : decode cX6_laysBundle 130 = .ok (.getfield 7, 3) := by decide +kernel
theorem dX6_laysBundle_133 : decode cX6_laysBundle 133 = .ok (.iload 4, 2) := by decide +kernel
theorem dX6_laysBundle_135 : decode cX6_laysBundle 135 = .ok (.iconst 5, 1) := by decide +kernel
theorem dX6_laysBundle_136 : decode cX6_laysBundle 136 = .ok (.iadd, 1) := by decide +kernel
theorem dX6_laysBundle_137 : decode cX6_laysBundle 137 = .ok (.iaload, 1) := by decide +kernel
theorem dX6_laysBundle_138 : decode cX6_laysBundle 138 = .ok (.iadd, 1) := by decide +kernel
theorem dX6_laysBundle_139 : decode cX6_laysBundle 139 = .ok (.iastore, 1) := by decide +kernel
theorem dX6_laysBundle_140 : decode cX6_laysBundle 140 = .ok (.aload_n 0, 1) := by decide +kernel
theorem dX6_laysBundle_141 : decode cX6_laysBundle 141 = .ok (.getfield 7, 3) := by decide +kernel
theorem dX6_laysBundle_144 : decode cX6_laysBundle 144 = .ok (.sipush 681, 3) := by decide +kernel
theorem dX6_laysBundle_147 : decode cX6_laysBundle 147 = .ok (.aload_n 0, 1) := by decide +kernel
theorem dX6_laysBundle_148 : decode cX6_laysBundle 148 = .ok (.getfield 7, 3) := by decide +kernel
theorem dX6_laysBundle_151 : decode cX6_laysBundle 151 = .ok (.iload_n 3, 1) := by decide +kernel
theorem dX6_laysBundle_152 : decode cX6_laysBundle 152 = .ok (.bipush 6, 2) := by decide +kernel
theorem dX6_laysBundle_154 : decode cX6_laysBundle 154 = .ok (.iadd, 1) := by decide +kernel
theorem dX6_laysBundle_155 : decode cX6_laysBundle 155 = .ok (.iaload, 1) := by decide +kernel
theorem dX6_laysBundle_156 : decode cX6_laysBundle 156 = .ok (.aload_n 0, 1) := by decide +kernel
theorem dX6_laysBundle_157 : decode cX6_laysBundle 157 = .ok (.getfield 7, 3) := by decide +kernel
theorem dX6_laysBundle_160 : decode cX6_laysBundle 160 = .ok (.iload 4, 2) := by decide +kernel
theorem dX6_laysBundle_162 : decode cX6_laysBundle 162 = .ok (.bipush 6, 2) := by decide +kernel
theorem dX6_laysBundle_164 : decode cX6_laysBundle 164 = .ok (.iadd, 1) := by decide +kernel
theorem dX6_laysBundle_165 : decode cX6_laysBundle 165 = .ok (.iaload, 1) := by decide +kernel
theorem dX6_laysBundle_166 : decode cX6_laysBundle 166 = .ok (.invokestatic 49, 3) := by decide +kernel
theorem dX6_laysBundle_169 : decode cX6_laysBundle 169 = .ok (.iastore, 1) := by decide +kernel
theorem dX6_laysBundle_170 : decode cX6_laysBundle 170 = .ok (.aload_n 0, 1) := by decide +kernel
theorem dX6_laysBundle_171 : decode cX6_laysBundle 171 = .ok (.getfield 7, 3) := by decide +kernel
theorem dX6_laysBundle_174 : decode cX6_laysBundle 174 = .ok (.iload_n 3, 1) := by decide +kernel
theorem dX6_laysBundle_175 : decode cX6_laysBundle 175 = .ok (.iconst 4, 1) := by decide +kernel
theorem dX6_laysBundle_176 : decode cX6_laysBundle 176 = .ok (.iadd, 1) := by decide +kernel
theorem dX6_laysBundle_177 : decode cX6_laysBundle 177 = .ok (.iaload, 1) := by decide +kernel
theorem dX6_laysBundle_178 : decode cX6_laysBundle 178 = .ok (.aload_n 0, 1) := by decide +kernel
theorem dX6_laysBundle_179 : decode cX6_laysBundle 179 = .ok (.getfield 7, 3) := by decide +kernel
theorem dX6_laysBundle_182 : decode cX6_laysBundle 182 = .ok (.iload 4, 2) := by decide +kernel
theorem dX6_laysBundle_184 : decode cX6_laysBundle 184 = .ok (.iconst 4, 1) := by decide +kernel
theorem dX6_laysBundle_185 : decode cX6_laysBundle 185 = .ok (.iadd, 1) := by decide +kernel
theorem dX6_laysBundle_186 : decode cX6_laysBundle 186 = .ok (.iaload, 1) := by decide +kernel
theorem dX6_laysBundle_187 : decode cX6_laysBundle 187 = .ok (.if_icmp .ne 47, 3) := by decide +kernel
theorem dX6_laysBundle_190 : decode cX6_laysBundle 190 = .ok (.aload_n 0, 1) := by decide +kernel
theorem dX6_laysBundle_191 : decode cX6_laysBundle 191 = .ok (.iload_n 3, 1) := by decide +kernel
theorem dX6_laysBundle_192 : decode cX6_laysBundle 192 = .ok (.invokevirtual 76, 3) := by decide +kernel
theorem dX6_laysBundle_195 : decode cX6_laysBundle 195 = .ok (.ifCond .ne 39, 3) := by decide +kernel
theorem dX6_laysBundle_198 : decode cX6_laysBundle 198 = .ok (.aload_n 0, 1) := by decide +kernel
theorem dX6_laysBundle_199 : decode cX6_laysBundle 199 = .ok (.iload 4, 2) := by decide +kernel
theorem dX6_laysBundle_201 : decode cX6_laysBundle 201 = .ok (.invokevirtual 76, 3) := by decide +kernel
theorem dX6_laysBundle_204 : decode cX6_laysBundle 204 = .ok (.ifCond .ne 30, 3) := by decide +kernel
theorem dX6_laysBundle_207 : decode cX6_laysBundle 207 = .ok (.aload_n 0, 1) := by decide +kernel
theorem dX6_laysBundle_208 : decode cX6_laysBundle 208 = .ok (.getfield 7, 3) := by decide +kernel
theorem dX6_laysBundle_211 : decode cX6_laysBundle 211 = .ok (.sipush 678, 3) := by decide +kernel
theorem dX6_laysBundle_214 : decode cX6_laysBundle 214 = .ok (.iaload, 1) := by decide +kernel
theorem dX6_laysBundle_215 : decode cX6_laysBundle 215 = .ok (.bipush 99, 2) := by decide +kernel
theorem dX6_laysBundle_217 : decode cX6_laysBundle 217 = .ok (.if_icmp .gt 17, 3) := by decide +kernel
theorem dX6_laysBundle_220 : decode cX6_laysBundle 220 = .ok (.aload_n 0, 1) := by decide +kernel
theorem dX6_laysBundle_221 : decode cX6_laysBundle 221 = .ok (.sipush 675, 3) := by decide +kernel
theorem dX6_laysBundle_224 : decode cX6_laysBundle 224 = .ok (.invokevirtual 76, 3) := by decide +kernel
theorem dX6_laysBundle_227 : decode cX6_laysBundle 227 = .ok (.ifCond .ne 7, 3) := by decide +kernel
theorem dX6_laysBundle_230 : decode cX6_laysBundle 230 = .ok (.iconst 1, 1) := by decide +kernel
theorem dX6_laysBundle_231 : decode cX6_laysBundle 231 = .ok (.goto 4, 3) := by decide +kernel
theorem dX6_laysBundle_234 : decode cX6_laysBundle 234 = .ok (.iconst 0, 1) := by decide +kernel
theorem dX6_laysBundle_235 : decode cX6_laysBundle 235 = .ok (.ireturn, 1) := by decide +kernel
theorem dX6_bundled_0 : decode cX6_bundled 0 = .ok (.aload_n 0, 1) := by decide +kernel
theorem dX6_bundled_1 : decode cX6_bundled 1 = .ok (.iload_n 1, 1) := by decide +kernel
theorem dX6_bundled_2 : decode cX6_bundled 2 = .ok (.iload_n 2, 1) := by decide +kernel
theorem dX6_bundled_3 : decode cX6_bundled 3 = .ok (.invokevirtual 79, 3) := by decide +kernel
theorem dX6_bundled_6 : decode cX6_bundled 6 = .ok (.ifCond .eq 13, 3) := by decide +kernel
theorem dX6_bundled_9 : decode cX6_bundled 9 = .ok (.aload_n 0, 1) := by decide +kernel
theorem dX6_bundled_10 : decode cX6_bundled 10 = .ok (.sipush 675, 3) := by decide +kernel
theorem dX6_bundled_13 : decode cX6_bundled 13 = .ok (.invokevirtual 83, 3) := by decide +kernel
theorem dX6_bundled_16 : decode cX6_bundled 16 = .ok (.goto 4, 3) := by decide +kernel
theorem dX6_bundled_19 : decode cX6_bundled 19 = .ok (.iconst (-1), 1) := by decide +kernel
theorem dX6_bundled_20 : decode cX6_bundled 20 = .ok (.ireturn, 1) := by decide +kernel
theorem dX6_alone_0 : decode cX6_alone 0 = .ok (.aload_n 0, 1) := by decide +kernel
theorem dX6_alone_1 : decode cX6_alone 1 = .ok (.iload_n 1, 1) := by decide +kernel
theorem dX6_alone_2 : decode cX6_alone 2 = .ok (.invokestatic 69, 3) := by decide +kernel
theorem dX6_alone_5 : decode cX6_alone 5 = .ok (.invokevirtual 76, 3) := by decide +kernel
theorem dX6_alone_8 : decode cX6_alone 8 = .ok (.ifCond .ne 14, 3) := by decide +kernel
theorem dX6_alone_11 : decode cX6_alone 11 = .ok (.aload_n 0, 1) := by decide +kernel
theorem dX6_alone_12 : decode cX6_alone 12 = .ok (.iload_n 1, 1) := by decide +kernel
theorem dX6_alone_13 : decode cX6_alone 13 = .ok (.invokestatic 69, 3) := by decide +kernel
theorem dX6_alone_16 : decode cX6_alone 16 = .ok (.invokevirtual 83, 3) := by decide +kernel
theorem dX6_alone_19 : decode cX6_alone 19 = .ok (.goto 4, 3) := by decide +kernel
theorem dX6_alone_22 : decode cX6_alone 22 = .ok (.iconst 0, 1) := by decide +kernel
theorem dX6_alone_23 : decode cX6_alone 23 = .ok (.ireturn, 1) := by decide +kernel
theorem dX6_bySets_0 : decode cX6_bySets 0 = .ok (.aload_n 0, 1) := by decide +kernel
theorem dX6_bySets_1 : decode cX6_bySets 1 = .ok (.getfield 21, 3) := by decide +kernel
theorem dX6_bySets_4 : decode cX6_bySets 4 = .ok (.iconst 0, 1) := by decide +kernel
theorem dX6_bySets_5 : decode cX6_bySets 5 = .ok (.iconst 0, 1) := by decide +kernel
theorem dX6_bySets_6 : decode cX6_bySets 6 = .ok (.iastore, 1) := by decide +kernel
theorem dX6_bySets_7 : decode cX6_bySets 7 = .ok (.iconst 1, 1) := by decide +kernel
theorem dX6_bySets_8 : decode cX6_bySets 8 = .ok (.istore_n 1, 1) := by decide +kernel
theorem dX6_bySets_9 : decode cX6_bySets 9 = .ok (.iload_n 1, 1) := by decide +kernel
theorem dX6_bySets_10 : decode cX6_bySets 10 = .ok (.iconst 1, 1) := by decide +kernel
theorem dX6_bySets_11 : decode cX6_bySets 11 = .ok (.aload_n 0, 1) := by decide +kernel
theorem dX6_bySets_12 : decode cX6_bySets 12 = .ok (.getfield 7, 3) := by decide +kernel
theorem dX6_bySets_15 : decode cX6_bySets 15 = .ok (.bipush 20, 2) := by decide +kernel
