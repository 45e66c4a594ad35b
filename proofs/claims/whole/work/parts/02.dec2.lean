theorem dX4_restoreLatest_9 : decode cX4_restoreLatest 9 = .ok (.getfield 18, 3) := by decide +kernel
theorem dX4_restoreLatest_12 : decode cX4_restoreLatest 12 = .ok (.iconst 1, 1) := by decide +kernel
theorem dX4_restoreLatest_13 : decode cX4_restoreLatest 13 = .ok (.isub, 1) := by decide +kernel
theorem dX4_restoreLatest_14 : decode cX4_restoreLatest 14 = .ok (.putfield 18, 3) := by decide +kernel
theorem dX4_restoreLatest_17 : decode cX4_restoreLatest 17 = .ok (.aload_n 1, 1) := by decide +kernel
theorem dX4_restoreLatest_18 : decode cX4_restoreLatest 18 = .ok (.aload_n 0, 1) := by decide +kernel
theorem dX4_restoreLatest_19 : decode cX4_restoreLatest 19 = .ok (.getfield 11, 3) := by decide +kernel
theorem dX4_restoreLatest_22 : decode cX4_restoreLatest 22 = .ok (.aload_n 0, 1) := by decide +kernel
theorem dX4_restoreLatest_23 : decode cX4_restoreLatest 23 = .ok (.getfield 18, 3) := by decide +kernel
theorem dX4_restoreLatest_26 : decode cX4_restoreLatest 26 = .ok (.aaload, 1) := by decide +kernel
theorem dX4_restoreLatest_27 : decode cX4_restoreLatest 27 = .ok (.invokevirtual 25, 3) := by decide +kernel
theorem dX4_restoreLatest_30 : decode cX4_restoreLatest 30 = .ok (.return_, 1) := by decide +kernel
theorem dX4_dropOldest_0 : decode cX4_dropOldest 0 = .ok (.aload_n 0, 1) := by decide +kernel
theorem dX4_dropOldest_1 : decode cX4_dropOldest 1 = .ok (.getfield 11, 3) := by decide +kernel
theorem dX4_dropOldest_4 : decode cX4_dropOldest 4 = .ok (.iconst 0, 1) := by decide +kernel
theorem dX4_dropOldest_5 : decode cX4_dropOldest 5 = .ok (.aaload, 1) := by decide +kernel
theorem dX4_dropOldest_6 : decode cX4_dropOldest 6 = .ok (.astore_n 1, 1) := by decide +kernel
theorem dX4_dropOldest_7 : decode cX4_dropOldest 7 = .ok (.iconst 1, 1) := by decide +kernel
theorem dX4_dropOldest_8 : decode cX4_dropOldest 8 = .ok (.istore_n 2, 1) := by decide +kernel
theorem dX4_dropOldest_9 : decode cX4_dropOldest 9 = .ok (.iload_n 2, 1) := by decide +kernel
theorem dX4_dropOldest_10 : decode cX4_dropOldest 10 = .ok (.aload_n 0, 1) := by decide +kernel
theorem dX4_dropOldest_11 : decode cX4_dropOldest 11 = .ok (.getfield 11, 3) := by decide +kernel
theorem dX4_dropOldest_14 : decode cX4_dropOldest 14 = .ok (.arraylength, 1) := by decide +kernel
theorem dX4_dropOldest_15 : decode cX4_dropOldest 15 = .ok (.if_icmp .ge 23, 3) := by decide +kernel
theorem dX4_dropOldest_18 : decode cX4_dropOldest 18 = .ok (.aload_n 0, 1) := by decide +kernel
theorem dX4_dropOldest_19 : decode cX4_dropOldest 19 = .ok (.getfield 11, 3) := by decide +kernel
theorem dX4_dropOldest_22 : decode cX4_dropOldest 22 = .ok (.iload_n 2, 1) := by decide +kernel
theorem dX4_dropOldest_23 : decode cX4_dropOldest 23 = .ok (.iconst 1, 1) := by decide +kernel
theorem dX4_dropOldest_24 : decode cX4_dropOldest 24 = .ok (.isub, 1) := by decide +kernel
theorem dX4_dropOldest_25 : decode cX4_dropOldest 25 = .ok (.aload_n 0, 1) := by decide +kernel
theorem dX4_dropOldest_26 : decode cX4_dropOldest 26 = .ok (.getfield 11, 3) := by decide +kernel
theorem dX4_dropOldest_29 : decode cX4_dropOldest 29 = .ok (.iload_n 2, 1) := by decide +kernel
theorem dX4_dropOldest_30 : decode cX4_dropOldest 30 = .ok (.aaload, 1) := by decide +kernel
theorem dX4_dropOldest_31 : decode cX4_dropOldest 31 = .ok (.aastore, 1) := by decide +kernel
theorem dX4_dropOldest_32 : decode cX4_dropOldest 32 = .ok (.iinc 2 1, 3) := by decide +kernel
theorem dX4_dropOldest_35 : decode cX4_dropOldest 35 = .ok (.goto (-26), 3) := by decide +kernel
theorem dX4_dropOldest_38 : decode cX4_dropOldest 38 = .ok (.aload_n 0, 1) := by decide +kernel
theorem dX4_dropOldest_39 : decode cX4_dropOldest 39 = .ok (.getfield 11, 3) := by decide +kernel
theorem dX4_dropOldest_42 : decode cX4_dropOldest 42 = .ok (.aload_n 0, 1) := by decide +kernel
theorem dX4_dropOldest_43 : decode cX4_dropOldest 43 = .ok (.getfield 11, 3) := by decide +kernel
theorem dX4_dropOldest_46 : decode cX4_dropOldest 46 = .ok (.arraylength, 1) := by decide +kernel
theorem dX4_dropOldest_47 : decode cX4_dropOldest 47 = .ok (.iconst 1, 1) := by decide +kernel
theorem dX4_dropOldest_48 : decode cX4_dropOldest 48 = .ok (.isub, 1) := by decide +kernel
theorem dX4_dropOldest_49 : decode cX4_dropOldest 49 = .ok (.aload_n 1, 1) := by decide +kernel
theorem dX4_dropOldest_50 : decode cX4_dropOldest 50 = .ok (.aastore, 1) := by decide +kernel
theorem dX4_dropOldest_51 : decode cX4_dropOldest 51 = .ok (.aload_n 0, 1) := by decide +kernel
theorem dX4_dropOldest_52 : decode cX4_dropOldest 52 = .ok (.aload_n 0, 1) := by decide +kernel
theorem dX4_dropOldest_53 : decode cX4_dropOldest 53 = .ok (.getfield 11, 3) := by decide +kernel
theorem dX4_dropOldest_56 : decode cX4_dropOldest 56 = .ok (.arraylength, 1) := by decide +kernel
theorem dX4_dropOldest_57 : decode cX4_dropOldest 57 = .ok (.iconst 1, 1) := by decide +kernel
theorem dX4_dropOldest_58 : decode cX4_dropOldest 58 = .ok (.isub, 1) := by decide +kernel
theorem dX4_dropOldest_59 : decode cX4_dropOldest 59 = .ok (.putfield 18, 3) := by decide +kernel
theorem dX4_dropOldest_62 : decode cX4_dropOldest 62 = .ok (.return_, 1) := by decide +kernel
theorem dX5_init_0 : decode cX5_init 0 = .ok (.aload_n 0, 1) := by decide +kernel
theorem dX5_init_1 : decode cX5_init 1 = .ok (.invokespecial 1, 3) := by decide +kernel
theorem dX5_init_4 : decode cX5_init 4 = .ok (.aload_n 0, 1) := by decide +kernel
theorem dX5_init_5 : decode cX5_init 5 = .ok (.new 7, 3) := by decide +kernel
theorem dX5_init_8 : decode cX5_init 8 = .ok (.dup, 1) := by decide +kernel
theorem dX5_init_9 : decode cX5_init 9 = .ok (.invokespecial 9, 3) := by decide +kernel
theorem dX5_init_12 : decode cX5_init 12 = .ok (.putfield 10, 3) := by decide +kernel
theorem dX5_init_15 : decode cX5_init 15 = .ok (.aload_n 0, 1) := by decide +kernel
theorem dX5_init_16 : decode cX5_init 16 = .ok (.iconst 2, 1) := by decide +kernel
theorem dX5_init_17 : decode cX5_init 17 = .ok (.anewarray 7, 3) := by decide +kernel
theorem dX5_init_20 : decode cX5_init 20 = .ok (.putfield 16, 3) := by decide +kernel
theorem dX5_init_23 : decode cX5_init 23 = .ok (.aload_n 0, 1) := by decide +kernel
theorem dX5_init_24 : decode cX5_init 24 = .ok (.iconst 2, 1) := by decide +kernel
theorem dX5_init_25 : decode cX5_init 25 = .ok (.newarray .boolean, 2) := by decide +kernel
theorem dX5_init_27 : decode cX5_init 27 = .ok (.putfield 20, 3) := by decide +kernel
theorem dX5_init_30 : decode cX5_init 30 = .ok (.aload_n 0, 1) := by decide +kernel
theorem dX5_init_31 : decode cX5_init 31 = .ok (.new 24, 3) := by decide +kernel
theorem dX5_init_34 : decode cX5_init 34 = .ok (.dup, 1) := by decide +kernel
theorem dX5_init_35 : decode cX5_init 35 = .ok (.invokespecial 26, 3) := by decide +kernel
theorem dX5_init_38 : decode cX5_init 38 = .ok (.putfield 27, 3) := by decide +kernel
theorem dX5_init_41 : decode cX5_init 41 = .ok (.aload_n 0, 1) := by decide +kernel
theorem dX5_init_42 : decode cX5_init 42 = .ok (.new 31, 3) := by decide +kernel
theorem dX5_init_45 : decode cX5_init 45 = .ok (.dup, 1) := by decide +kernel
theorem dX5_init_46 : decode cX5_init 46 = .ok (.invokespecial 33, 3) := by decide +kernel
theorem dX5_init_49 : decode cX5_init 49 = .ok (.putfield 34, 3) := by decide +kernel
theorem dX5_init_52 : decode cX5_init 52 = .ok (.aload_n 0, 1) := by decide +kernel
theorem dX5_init_53 : decode cX5_init 53 = .ok (.new 38, 3) := by decide +kernel
theorem dX5_init_56 : decode cX5_init 56 = .ok (.dup, 1) := by decide +kernel
theorem dX5_init_57 : decode cX5_init 57 = .ok (.invokespecial 40, 3) := by decide +kernel
theorem dX5_init_60 : decode cX5_init 60 = .ok (.putfield 41, 3) := by decide +kernel
theorem dX5_init_63 : decode cX5_init 63 = .ok (.iconst 0, 1) := by decide +kernel
theorem dX5_init_64 : decode cX5_init 64 = .ok (.istore_n 1, 1) := by decide +kernel
theorem dX5_init_65 : decode cX5_init 65 = .ok (.iload_n 1, 1) := by decide +kernel
theorem dX5_init_66 : decode cX5_init 66 = .ok (.aload_n 0, 1) := by decide +kernel
theorem dX5_init_67 : decode cX5_init 67 = .ok (.getfield 16, 3) := by decide +kernel
theorem dX5_init_70 : decode cX5_init 70 = .ok (.arraylength, 1) := by decide +kernel
theorem dX5_init_71 : decode cX5_init 71 = .ok (.if_icmp .ge 22, 3) := by decide +kernel
theorem dX5_init_74 : decode cX5_init 74 = .ok (.aload_n 0, 1) := by decide +kernel
theorem dX5_init_75 : decode cX5_init 75 = .ok (.getfield 16, 3) := by decide +kernel
theorem dX5_init_78 : decode cX5_init 78 = .ok (.iload_n 1, 1) := by decide +kernel
theorem dX5_init_79 : decode cX5_init 79 = .ok (.new 7, 3) := by decide +kernel
theorem dX5_init_82 : decode cX5_init 82 = .ok (.dup, 1) := by decide +kernel
theorem dX5_init_83 : decode cX5_init 83 = .ok (.invokespecial 9, 3) := by decide +kernel
theorem dX5_init_86 : decode cX5_init 86 = .ok (.aastore, 1) := by decide +kernel
theorem dX5_init_87 : decode cX5_init 87 = .ok (.iinc 1 1, 3) := by decide +kernel
theorem dX5_init_90 : decode cX5_init 90 = .ok (.goto (-25), 3) := by decide +kernel
theorem dX5_init_93 : decode cX5_init 93 = .ok (.return_, 1) := by decide +kernel
theorem dX5_bring_0 : decode cX5_bring 0 = .ok (.iload_n 1, 1) := by decide +kernel
theorem dX5_bring_1 : decode cX5_bring 1 = .ok (.iconst 1, 1) := by decide +kernel
theorem dX5_bring_2 : decode cX5_bring 2 = .ok (.bipush 60, 2) := by decide +kernel
theorem dX5_bring_4 : decode cX5_bring 4 = .ok (.invokestatic 45, 3) := by decide +kernel
theorem dX5_bring_7 : decode cX5_bring 7 = .ok (.ifCond .eq 27, 3) := by decide +kernel
theorem dX5_bring_10 : decode cX5_bring 10 = .ok (.iload_n 2, 1) := by decide +kernel
theorem dX5_bring_11 : decode cX5_bring 11 = .ok (.iconst 1, 1) := by decide +kernel
theorem dX5_bring_12 : decode cX5_bring 12 = .ok (.bipush 60, 2) := by decide +kernel
theorem dX5_bring_14 : decode cX5_bring 14 = .ok (.invokestatic 45, 3) := by decide +kernel
theorem dX5_bring_17 : decode cX5_bring 17 = .ok (.ifCond .eq 17, 3) := by decide +kernel
theorem dX5_bring_20 : decode cX5_bring 20 = .ok (.iload_n 3, 1) := by decide +kernel
theorem dX5_bring_21 : decode cX5_bring 21 = .ok (.iconst 1, 1) := by decide +kernel
theorem dX5_bring_22 : decode cX5_bring 22 = .ok (.bipush 60, 2) := by decide +kernel
theorem dX5_bring_24 : decode cX5_bring 24 = .ok (.invokestatic 45, 3) := by decide +kernel
theorem dX5_bring_27 : decode cX5_bring 27 = .ok (.ifCond .eq 7, 3) := by decide +kernel
theorem dX5_bring_30 : decode cX5_bring 30 = .ok (.iconst 1, 1) := by decide +kernel
theorem dX5_bring_31 : decode cX5_bring 31 = .ok (.goto 4, 3) := by decide +kernel
theorem dX5_bring_34 : decode cX5_bring 34 = .ok (.iconst 0, 1) := by decide +kernel
theorem dX5_bring_35 : decode cX5_bring 35 = .ok (.invokestatic 49, 3) := by decide +kernel
theorem dX5_bring_38 : decode cX5_bring 38 = .ok (.iload 4, 2) := by decide +kernel
theorem dX5_bring_40 : decode cX5_bring 40 = .ok (.iconst 1, 1) := by decide +kernel
theorem dX5_bring_41 : decode cX5_bring 41 = .ok (.bipush 99, 2) := by decide +kernel
theorem dX5_bring_43 : decode cX5_bring 43 = .ok (.invokestatic 45, 3) := by decide +kernel
theorem dX5_bring_46 : decode cX5_bring 46 = .ok (.ifCond .eq 17, 3) := by decide +kernel
theorem dX5_bring_49 : decode cX5_bring 49 = .ok (.iload 5, 2) := by decide +kernel
theorem dX5_bring_51 : decode cX5_bring 51 = .ok (.iconst 0, 1) := by decide +kernel
theorem dX5_bring_52 : decode cX5_bring 52 = .ok (.iconst 3, 1) := by decide +kernel
theorem dX5_bring_53 : decode cX5_bring 53 = .ok (.invokestatic 45, 3) := by decide +kernel
theorem dX5_bring_56 : decode cX5_bring 56 = .ok (.ifCond .eq 7, 3) := by decide +kernel
theorem dX5_bring_59 : decode cX5_bring 59 = .ok (.iconst 1, 1) := by decide +kernel
theorem dX5_bring_60 : decode cX5_bring 60 = .ok (.goto 4, 3) := by decide +kernel
theorem dX5_bring_63 : decode cX5_bring 63 = .ok (.iconst 0, 1) := by decide +kernel
theorem dX5_bring_64 : decode cX5_bring 64 = .ok (.invokestatic 49, 3) := by decide +kernel
theorem dX5_bring_67 : decode cX5_bring 67 = .ok (.aload_n 0, 1) := by decide +kernel
theorem dX5_bring_68 : decode cX5_bring 68 = .ok (.getfield 27, 3) := by decide +kernel
theorem dX5_bring_71 : decode cX5_bring 71 = .ok (.aload_n 0, 1) := by decide +kernel
theorem dX5_bring_72 : decode cX5_bring 72 = .ok (.getfield 10, 3) := by decide +kernel
theorem dX5_bring_75 : decode cX5_bring 75 = .ok (.invokevirtual 53, 3) := by decide +kernel
theorem dX5_bring_78 : decode cX5_bring 78 = .ok (.aload_n 0, 1) := by decide +kernel
theorem dX5_bring_79 : decode cX5_bring 79 = .ok (.getfield 10, 3) := by decide +kernel
theorem dX5_bring_82 : decode cX5_bring 82 = .ok (.iload_n 1, 1) := by decide +kernel
theorem dX5_bring_83 : decode cX5_bring 83 = .ok (.iload_n 2, 1) := by decide +kernel
theorem dX5_bring_84 : decode cX5_bring 84 = .ok (.iload_n 3, 1) := by decide +kernel
theorem dX5_bring_85 : decode cX5_bring 85 = .ok (.iload 4, 2) := by decide +kernel
theorem dX5_bring_87 : decode cX5_bring 87 = .ok (.iload 5, 2) := by decide +kernel
theorem dX5_bring_89 : decode cX5_bring 89 = .ok (.iconst 0, 1) := by decide +kernel
theorem dX5_bring_90 : decode cX5_bring 90 = .ok (.invokevirtual 57, 3) := by decide +kernel
theorem dX5_bring_93 : decode cX5_bring 93 = .ok (.ireturn, 1) := by decide +kernel
theorem dX5_change_0 : decode cX5_change 0 = .ok (.aload_n 0, 1) := by decide +kernel
theorem dX5_change_1 : decode cX5_change 1 = .ok (.iload_n 1, 1) := by decide +kernel
theorem dX5_change_2 : decode cX5_change 2 = .ok (.invokevirtual 61, 3) := by decide +kernel
theorem dX5_change_5 : decode cX5_change 5 = .ok (.iload_n 2, 1) := by decide +kernel
theorem dX5_change_6 : decode cX5_change 6 = .ok (.ifCond .eq 8, 3) := by decide +kernel
theorem dX5_change_9 : decode cX5_change 9 = .ok (.iload_n 2, 1) := by decide +kernel
theorem dX5_change_10 : decode cX5_change 10 = .ok (.iconst 1, 1) := by decide +kernel
theorem dX5_change_11 : decode cX5_change 11 = .ok (.if_icmp .ne 7, 3) := by decide +kernel
theorem dX5_change_14 : decode cX5_change 14 = .ok (.iconst 1, 1) := by decide +kernel
theorem dX5_change_15 : decode cX5_change 15 = .ok (.goto 4, 3) := by decide +kernel
theorem dX5_change_18 : decode cX5_change 18 = .ok (.iconst 0, 1) := by decide +kernel
theorem dX5_change_19 : decode cX5_change 19 = .ok (.invokestatic 49, 3) := by decide +kernel
theorem dX5_change_22 : decode cX5_change 22 = .ok (.iload_n 3, 1) := by decide +kernel
theorem dX5_change_23 : decode cX5_change 23 = .ok (.iconst 0, 1) := by decide +kernel
theorem dX5_change_24 : decode cX5_change 24 = .ok (.iload_n 2, 1) := by decide +kernel
theorem dX5_change_25 : decode cX5_change 25 = .ok (.ifCond .ne 7, 3) := by decide +kernel
theorem dX5_change_28 : decode cX5_change 28 = .ok (.iconst 2, 1) := by decide +kernel
theorem dX5_change_29 : decode cX5_change 29 = .ok (.goto 5, 3) := by decide +kernel
theorem dX5_change_32 : decode cX5_change 32 = .ok (.bipush 8, 2) := by decide +kernel
theorem dX5_change_34 : decode cX5_change 34 = .ok (.invokestatic 45, 3) := by decide +kernel
theorem dX5_change_37 : decode cX5_change 37 = .ok (.invokestatic 49, 3) := by decide +kernel
theorem dX5_change_40 : decode cX5_change 40 = .ok (.aload_n 0, 1) := by decide +kernel
theorem dX5_change_41 : decode cX5_change 41 = .ok (.getfield 27, 3) := by decide +kernel
theorem dX5_change_44 : decode cX5_change 44 = .ok (.aload_n 0, 1) := by decide +kernel
theorem dX5_change_45 : decode cX5_change 45 = .ok (.getfield 10, 3) := by decide +kernel
theorem dX5_change_48 : decode cX5_change 48 = .ok (.invokevirtual 53, 3) := by decide +kernel
theorem dX5_change_51 : decode cX5_change 51 = .ok (.aload_n 0, 1) := by decide +kernel
theorem dX5_change_52 : decode cX5_change 52 = .ok (.getfield 10, 3) := by decide +kernel
theorem dX5_change_55 : decode cX5_change 55 = .ok (.getfield 65, 3) := by decide +kernel
theorem dX5_change_58 : decode cX5_change 58 = .ok (.iload_n 1, 1) := by decide +kernel
theorem dX5_change_59 : decode cX5_change 59 = .ok (.aaload, 1) := by decide +kernel
theorem dX5_change_60 : decode cX5_change 60 = .ok (.astore 4, 2) := by decide +kernel
theorem dX5_change_62 : decode cX5_change 62 = .ok (.iload_n 2, 1) := by decide +kernel
theorem dX5_change_63 : decode cX5_change 63 = .ok (.ifCond .ne 12, 3) := by decide +kernel
theorem dX5_change_66 : decode cX5_change 66 = .ok (.aload 4, 2) := by decide +kernel
theorem dX5_change_68 : decode cX5_change 68 = .ok (.iload_n 3, 1) := by decide +kernel
theorem dX5_change_69 : decode cX5_change 69 = .ok (.invokevirtual 69, 3) := by decide +kernel
theorem dX5_change_72 : decode cX5_change 72 = .ok (.goto 9, 3) := by decide +kernel
theorem dX5_change_75 : decode cX5_change 75 = .ok (.aload 4, 2) := by decide +kernel
theorem dX5_change_77 : decode cX5_change 77 = .ok (.iload_n 3, 1) := by decide +kernel
theorem dX5_change_78 : decode cX5_change 78 = .ok (.invokevirtual 75, 3) := by decide +kernel
theorem dX5_change_81 : decode cX5_change 81 = .ok (.ireturn, 1) := by decide +kernel
theorem dX5_send_0 : decode cX5_send 0 = .ok (.aload_n 0, 1) := by decide +kernel
theorem dX5_send_1 : decode cX5_send 1 = .ok (.iload_n 1, 1) := by decide +kernel
theorem dX5_send_2 : decode cX5_send 2 = .ok (.invokevirtual 61, 3) := by decide +kernel
theorem dX5_send_5 : decode cX5_send 5 = .ok (.aload_n 0, 1) := by decide +kernel
theorem dX5_send_6 : decode cX5_send 6 = .ok (.getfield 27, 3) := by decide +kernel
theorem dX5_send_9 : decode cX5_send 9 = .ok (.aload_n 0, 1) := by decide +kernel
theorem dX5_send_10 : decode cX5_send 10 = .ok (.getfield 10, 3) := by decide +kernel
theorem dX5_send_13 : decode cX5_send 13 = .ok (.invokevirtual 53, 3) := by decide +kernel
theorem dX5_send_16 : decode cX5_send 16 = .ok (.aload_n 0, 1) := by decide +kernel
theorem dX5_send_17 : decode cX5_send 17 = .ok (.getfield 10, 3) := by decide +kernel
theorem dX5_send_20 : decode cX5_send 20 = .ok (.iload_n 1, 1) := by decide +kernel
theorem dX5_send_21 : decode cX5_send 21 = .ok (.invokevirtual 78, 3) := by decide +kernel
theorem dX5_send_24 : decode cX5_send 24 = .ok (.ireturn, 1) := by decide +kernel
theorem dX5_dispute_0 : decode cX5_dispute 0 = .ok (.aload_n 0, 1) := by decide +kernel
theorem dX5_dispute_1 : decode cX5_dispute 1 = .ok (.iload_n 1, 1) := by decide +kernel
theorem dX5_dispute_2 : decode cX5_dispute 2 = .ok (.invokevirtual 61, 3) := by decide +kernel
theorem dX5_dispute_5 : decode cX5_dispute 5 = .ok (.iload_n 2, 1) := by decide +kernel
theorem dX5_dispute_6 : decode cX5_dispute 6 = .ok (.iconst 1, 1) := by decide +kernel
theorem dX5_dispute_7 : decode cX5_dispute 7 = .ok (.sipush 999, 3) := by decide +kernel
theorem dX5_dispute_10 : decode cX5_dispute 10 = .ok (.invokestatic 45, 3) := by decide +kernel
theorem dX5_dispute_13 : decode cX5_dispute 13 = .ok (.invokestatic 49, 3) := by decide +kernel
theorem dX5_dispute_16 : decode cX5_dispute 16 = .ok (.aload_n 0, 1) := by decide +kernel
theorem dX5_dispute_17 : decode cX5_dispute 17 = .ok (.getfield 27, 3) := by decide +kernel
theorem dX5_dispute_20 : decode cX5_dispute 20 = .ok (.aload_n 0, 1) := by decide +kernel
theorem dX5_dispute_21 : decode cX5_dispute 21 = .ok (.getfield 10, 3) := by decide +kernel
theorem dX5_dispute_24 : decode cX5_dispute 24 = .ok (.invokevirtual 53, 3) := by decide +kernel
theorem dX5_dispute_27 : decode cX5_dispute 27 = .ok (.aload_n 0, 1) := by decide +kernel
theorem dX5_dispute_28 : decode cX5_dispute 28 = .ok (.getfield 10, 3) := by decide +kernel
theorem dX5_dispute_31 : decode cX5_dispute 31 = .ok (.iload_n 1, 1) := by decide +kernel
theorem dX5_dispute_32 : decode cX5_dispute 32 = .ok (.iload_n 2, 1) := by decide +kernel
theorem dX5_dispute_33 : decode cX5_dispute 33 = .ok (.invokevirtual 81, 3) := by decide +kernel
theorem dX5_dispute_36 : decode cX5_dispute 36 = .ok (.ireturn, 1) := by decide +kernel
theorem dX5_takeBack_0 : decode cX5_takeBack 0 = .ok (.aload_n 0, 1) := by decide +kernel
theorem dX5_takeBack_1 : decode cX5_takeBack 1 = .ok (.iload_n 1, 1) := by decide +kernel
theorem dX5_takeBack_2 : decode cX5_takeBack 2 = .ok (.invokevirtual 61, 3) := by decide +kernel
theorem dX5_takeBack_5 : decode cX5_takeBack 5 = .ok (.aload_n 0, 1) := by decide +kernel
theorem dX5_takeBack_6 : decode cX5_takeBack 6 = .ok (.getfield 27, 3) := by decide +kernel
theorem dX5_takeBack_9 : decode cX5_takeBack 9 = .ok (.aload_n 0, 1) := by decide +kernel
theorem dX5_takeBack_10 : decode cX5_takeBack 10 = .ok (.getfield 10, 3) := by decide +kernel
theorem dX5_takeBack_13 : decode cX5_takeBack 13 = .ok (.invokevirtual 53, 3) := by decide +kernel
theorem dX5_takeBack_16 : decode cX5_takeBack 16 = .ok (.aload_n 0, 1) := by decide +kernel
theorem dX5_takeBack_17 : decode cX5_takeBack 17 = .ok (.getfield 10, 3) := by decide +kernel
theorem dX5_takeBack_20 : decode cX5_takeBack 20 = .ok (.iload_n 1, 1) := by decide +kernel
theorem dX5_takeBack_21 : decode cX5_takeBack 21 = .ok (.invokevirtual 85, 3) := by decide +kernel
theorem dX5_takeBack_24 : decode cX5_takeBack 24 = .ok (.aload_n 0, 1) := by decide +kernel
theorem dX5_takeBack_25 : decode cX5_takeBack 25 = .ok (.getfield 10, 3) := by decide +kernel
theorem dX5_takeBack_28 : decode cX5_takeBack 28 = .ok (.getfield 88, 3) := by decide +kernel
theorem dX5_takeBack_31 : decode cX5_takeBack 31 = .ok (.ireturn, 1) := by decide +kernel
theorem dX5_price_0 : decode cX5_price 0 = .ok (.iload_n 1, 1) := by decide +kernel
theorem dX5_price_1 : decode cX5_price 1 = .ok (.bipush 12, 2) := by decide +kernel
theorem dX5_price_3 : decode cX5_price 3 = .ok (.invokestatic 92, 3) := by decide +kernel
theorem dX5_price_6 : decode cX5_price 6 = .ok (.iload_n 2, 1) := by decide +kernel
theorem dX5_price_7 : decode cX5_price 7 = .ok (.iconst 0, 1) := by decide +kernel
theorem dX5_price_8 : decode cX5_price 8 = .ok (.bipush 99, 2) := by decide +kernel
theorem dX5_price_10 : decode cX5_price 10 = .ok (.invokestatic 45, 3) := by decide +kernel
theorem dX5_price_13 : decode cX5_price 13 = .ok (.invokestatic 49, 3) := by decide +kernel
theorem dX5_price_16 : decode cX5_price 16 = .ok (.aload_n 0, 1) := by decide +kernel
theorem dX5_price_17 : decode cX5_price 17 = .ok (.getfield 27, 3) := by decide +kernel
theorem dX5_price_20 : decode cX5_price 20 = .ok (.aload_n 0, 1) := by decide +kernel
theorem dX5_price_21 : decode cX5_price 21 = .ok (.getfield 10, 3) := by decide +kernel
theorem dX5_price_24 : decode cX5_price 24 = .ok (.invokevirtual 53, 3) := by decide +kernel
theorem dX5_price_27 : decode cX5_price 27 = .ok (.aload_n 0, 1) := by decide +kernel
theorem dX5_price_28 : decode cX5_price 28 = .ok (.getfield 10, 3) := by decide +kernel
theorem dX5_price_31 : decode cX5_price 31 = .ok (.getfield 96, 3) := by decide +kernel
theorem dX5_price_34 : decode cX5_price 34 = .ok (.iload_n 1, 1) := by decide +kernel
theorem dX5_price_35 : decode cX5_price 35 = .ok (.iaload, 1) := by decide +kernel
theorem dX5_price_36 : decode cX5_price 36 = .ok (.istore_n 3, 1) := by decide +kernel
theorem dX5_price_37 : decode cX5_price 37 = .ok (.aload_n 0, 1) := by decide +kernel
theorem dX5_price_38 : decode cX5_price 38 = .ok (.getfield 10, 3) := by decide +kernel
theorem dX5_price_41 : decode cX5_price 41 = .ok (.getfield 96, 3) := by decide +kernel
theorem dX5_price_44 : decode cX5_price 44 = .ok (.iload_n 1, 1) := by decide +kernel
theorem dX5_price_45 : decode cX5_price 45 = .ok (.iload_n 2, 1) := by decide +kernel
theorem dX5_price_46 : decode cX5_price 46 = .ok (.iastore, 1) := by decide +kernel
theorem dX5_price_47 : decode cX5_price 47 = .ok (.iload_n 3, 1) := by decide +kernel
theorem dX5_price_48 : decode cX5_price 48 = .ok (.ireturn, 1) := by decide +kernel
theorem dX5_zone_0 : decode cX5_zone 0 = .ok (.iload_n 1, 1) := by decide +kernel
theorem dX5_zone_1 : decode cX5_zone 1 = .ok (.iconst 4, 1) := by decide +kernel
theorem dX5_zone_2 : decode cX5_zone 2 = .ok (.invokestatic 92, 3) := by decide +kernel
theorem dX5_zone_5 : decode cX5_zone 5 = .ok (.iload_n 2, 1) := by decide +kernel
theorem dX5_zone_6 : decode cX5_zone 6 = .ok (.iconst 1, 1) := by decide +kernel
theorem dX5_zone_7 : decode cX5_zone 7 = .ok (.bipush 9, 2) := by decide +kernel
theorem dX5_zone_9 : decode cX5_zone 9 = .ok (.invokestatic 45, 3) := by decide +kernel
theorem dX5_zone_12 : decode cX5_zone 12 = .ok (.invokestatic 49, 3) := by decide +kernel
theorem dX5_zone_15 : decode cX5_zone 15 = .ok (.aload_n 0, 1) := by decide +kernel
theorem dX5_zone_16 : decode cX5_zone 16 = .ok (.getfield 27, 3) := by decide +kernel
theorem dX5_zone_19 : decode cX5_zone 19 = .ok (.aload_n 0, 1) := by decide +kernel
theorem dX5_zone_20 : decode cX5_zone 20 = .ok (.getfield 10, 3) := by decide +kernel
theorem dX5_zone_23 : decode cX5_zone 23 = .ok (.invokevirtual 53, 3) := by decide +kernel
theorem dX5_zone_26 : decode cX5_zone 26 = .ok (.aload_n 0, 1) := by decide +kernel
theorem dX5_zone_27 : decode cX5_zone 27 = .ok (.getfield 10, 3) := by decide +kernel
theorem dX5_zone_30 : decode cX5_zone 30 = .ok (.getfield 100, 3) := by decide +kernel
theorem dX5_zone_33 : decode cX5_zone 33 = .ok (.iload_n 1, 1) := by decide +kernel
theorem dX5_zone_34 : decode cX5_zone 34 = .ok (.iaload, 1) := by decide +kernel
theorem dX5_zone_35 : decode cX5_zone 35 = .ok (.istore_n 3, 1) := by decide +kernel
theorem dX5_zone_36 : decode cX5_zone 36 = .ok (.aload_n 0, 1) := by decide +kernel
theorem dX5_zone_37 : decode cX5_zone 37 = .ok (.getfield 10, 3) := by decide +kernel
theorem dX5_zone_40 : decode cX5_zone 40 = .ok (.getfield 100, 3) := by decide +kernel
theorem dX5_zone_43 : decode cX5_zone 43 = .ok (.iload_n 1, 1) := by decide +kernel
theorem dX5_zone_44 : decode cX5_zone 44 = .ok (.iload_n 2, 1) := by decide +kernel
theorem dX5_zone_45 : decode cX5_zone 45 = .ok (.iastore, 1) := by decide +kernel
theorem dX5_zone_46 : decode cX5_zone 46 = .ok (.iload_n 3, 1) := by decide +kernel
theorem dX5_zone_47 : decode cX5_zone 47 = .ok (.ireturn, 1) := by decide +kernel
theorem dX5_set_0 : decode cX5_set 0 = .ok (.iload_n 1, 1) := by decide +kernel
theorem dX5_set_1 : decode cX5_set 1 = .ok (.iconst 4, 1) := by decide +kernel
theorem dX5_set_2 : decode cX5_set 2 = .ok (.invokestatic 92, 3) := by decide +kernel
theorem dX5_set_5 : decode cX5_set 5 = .ok (.iload_n 2, 1) := by decide +kernel
theorem dX5_set_6 : decode cX5_set 6 = .ok (.getstatic 103, 3) := by decide +kernel
theorem dX5_set_9 : decode cX5_set 9 = .ok (.iload_n 1, 1) := by decide +kernel
theorem dX5_set_10 : decode cX5_set 10 = .ok (.iaload, 1) := by decide +kernel
theorem dX5_set_11 : decode cX5_set 11 = .ok (.getstatic 106, 3) := by decide +kernel
theorem dX5_set_14 : decode cX5_set 14 = .ok (.iload_n 1, 1) := by decide +kernel
theorem dX5_set_15 : decode cX5_set 15 = .ok (.iaload, 1) := by decide +kernel
theorem dX5_set_16 : decode cX5_set 16 = .ok (.invokestatic 45, 3) := by decide +kernel
theorem dX5_set_19 : decode cX5_set 19 = .ok (.invokestatic 49, 3) := by decide +kernel
theorem dX5_set_22 : decode cX5_set 22 = .ok (.aload_n 0, 1) := by decide +kernel
theorem dX5_set_23 : decode cX5_set 23 = .ok (.getfield 27, 3) := by decide +kernel
theorem dX5_set_26 : decode cX5_set 26 = .ok (.aload_n 0, 1) := by decide +kernel
theorem dX5_set_27 : decode cX5_set 27 = .ok (.getfield 10, 3) := by decide +kernel
theorem dX5_set_30 : decode cX5_set 30 = .ok (.invokevirtual 53, 3) := by decide +kernel
theorem dX5_set_33 : decode cX5_set 33 = .ok (.aload_n 0, 1) := by decide +kernel
theorem dX5_set_34 : decode cX5_set 34 = .ok (.getfield 10, 3) := by decide +kernel
theorem dX5_set_37 : decode cX5_set 37 = .ok (.getfield 109, 3) := by decide +kernel
theorem dX5_set_40 : decode cX5_set 40 = .ok (.iload_n 1, 1) := by decide +kernel
theorem dX5_set_41 : decode cX5_set 41 = .ok (.iaload, 1) := by decide +kernel
theorem dX5_set_42 : decode cX5_set 42 = .ok (.istore_n 3, 1) := by decide +kernel
theorem dX5_set_43 : decode cX5_set 43 = .ok (.aload_n 0, 1) := by decide +kernel
theorem dX5_set_44 : decode cX5_set 44 = .ok (.getfield 10, 3) := by decide +kernel
theorem dX5_set_47 : decode cX5_set 47 = .ok (.getfield 109, 3) := by decide +kernel
theorem dX5_set_50 : decode cX5_set 50 = .ok (.iload_n 1, 1) := by decide +kernel
theorem dX5_set_51 : decode cX5_set 51 = .ok (.iload_n 2, 1) := by decide +kernel
theorem dX5_set_52 : decode cX5_set 52 = .ok (.iastore, 1) := by decide +kernel
theorem dX5_set_53 : decode cX5_set 53 = .ok (.iload_n 3, 1) := by decide +kernel
theorem dX5_set_54 : decode cX5_set 54 = .ok (.ireturn, 1) := by decide +kernel
theorem dX5_append_0 : decode cX5_append 0 = .ok (.iload_n 1, 1) := by decide +kernel
theorem dX5_append_1 : decode cX5_append 1 = .ok (.bipush 33, 2) := by decide +kernel
theorem dX5_append_3 : decode cX5_append 3 = .ok (.bipush 126, 2) := by decide +kernel
theorem dX5_append_5 : decode cX5_append 5 = .ok (.invokestatic 45, 3) := by decide +kernel
theorem dX5_append_8 : decode cX5_append 8 = .ok (.invokestatic 49, 3) := by decide +kernel
theorem dX5_append_11 : decode cX5_append 11 = .ok (.aload_n 0, 1) := by decide +kernel
theorem dX5_append_12 : decode cX5_append 12 = .ok (.getfield 34, 3) := by decide +kernel
theorem dX5_append_15 : decode cX5_append 15 = .ok (.invokevirtual 112, 3) := by decide +kernel
theorem dX5_append_18 : decode cX5_append 18 = .ok (.ifCond .ne 13, 3) := by decide +kernel
theorem dX5_append_21 : decode cX5_append 21 = .ok (.new 116, 3) := by decide +kernel
theorem dX5_append_24 : decode cX5_append 24 = .ok (.dup, 1) := by decide +kernel
theorem dX5_append_25 : decode cX5_append 25 = .ok (.ldc 118, 2) := by decide +kernel
theorem dX5_append_27 : decode cX5_append 27 = .ok (.invokespecial 120, 3) := by decide +kernel
theorem dX5_append_30 : decode cX5_append 30 = .ok (.athrow, 1) := by decide +kernel
theorem dX5_append_31 : decode cX5_append 31 = .ok (.aload_n 0, 1) := by decide +kernel
theorem dX5_append_32 : decode cX5_append 32 = .ok (.getfield 34, 3) := by decide +kernel
theorem dX5_append_35 : decode cX5_append 35 = .ok (.iload_n 1, 1) := by decide +kernel
theorem dX5_append_36 : decode cX5_append 36 = .ok (.invokevirtual 123, 3) := by decide +kernel
theorem dX5_append_39 : decode cX5_append 39 = .ok (.aload_n 0, 1) := by decide +kernel
theorem dX5_append_40 : decode cX5_append 40 = .ok (.getfield 34, 3) := by decide +kernel
theorem dX5_append_43 : decode cX5_append 43 = .ok (.getfield 126, 3) := by decide +kernel
theorem dX5_append_46 : decode cX5_append 46 = .ok (.ireturn, 1) := by decide +kernel
theorem dX5_clearBuffer_0 : decode cX5_clearBuffer 0 = .ok (.aload_n 0, 1) := by decide +kernel
theorem dX5_clearBuffer_1 : decode cX5_clearBuffer 1 = .ok (.getfield 34, 3) := by decide +kernel
theorem dX5_clearBuffer_4 : decode cX5_clearBuffer 4 = .ok (.getfield 126, 3) := by decide +kernel
theorem dX5_clearBuffer_7 : decode cX5_clearBuffer 7 = .ok (.istore_n 1, 1) := by decide +kernel
theorem dX5_clearBuffer_8 : decode cX5_clearBuffer 8 = .ok (.aload_n 0, 1) := by decide +kernel
theorem dX5_clearBuffer_9 : decode cX5_clearBuffer 9 = .ok (.getfield 34, 3) := by decide +kernel
theorem dX5_clearBuffer_12 : decode cX5_clearBuffer 12 = .ok (.invokevirtual 129, 3) := by decide +kernel
theorem dX5_clearBuffer_15 : decode cX5_clearBuffer 15 = .ok (.iload_n 1, 1) := by decide +kernel
theorem dX5_clearBuffer_16 : decode cX5_clearBuffer 16 = .ok (.ireturn, 1) := by decide +kernel
theorem dX5_firstError_0 : decode cX5_firstError 0 = .ok (.aload_n 0, 1) := by decide +kernel
theorem dX5_firstError_1 : decode cX5_firstError 1 = .ok (.getfield 34, 3) := by decide +kernel
theorem dX5_firstError_4 : decode cX5_firstError 4 = .ok (.invokevirtual 132, 3) := by decide +kernel
theorem dX5_firstError_7 : decode cX5_firstError 7 = .ok (.ireturn, 1) := by decide +kernel
theorem dX5_run_0 : decode cX5_run 0 = .ok (.aload_n 0, 1) := by decide +kernel
theorem dX5_run_1 : decode cX5_run 1 = .ok (.getfield 34, 3) := by decide +kernel
theorem dX5_run_4 : decode cX5_run 4 = .ok (.invokevirtual 136, 3) := by decide +kernel
theorem dX5_run_7 : decode cX5_run 7 = .ok (.invokestatic 49, 3) := by decide +kernel
theorem dX5_run_10 : decode cX5_run 10 = .ok (.aload_n 0, 1) := by decide +kernel
theorem dX5_run_11 : decode cX5_run 11 = .ok (.getfield 27, 3) := by decide +kernel
theorem dX5_run_14 : decode cX5_run 14 = .ok (.aload_n 0, 1) := by decide +kernel
theorem dX5_run_15 : decode cX5_run 15 = .ok (.getfield 10, 3) := by decide +kernel
theorem dX5_run_18 : decode cX5_run 18 = .ok (.invokevirtual 53, 3) := by decide +kernel
theorem dX5_run_21 : decode cX5_run 21 = .ok (.aload_n 0, 1) := by decide +kernel
theorem dX5_run_22 : decode cX5_run 22 = .ok (.invokevirtual 139, 3) := by decide +kernel
theorem dX5_run_25 : decode cX5_run 25 = .ok (.istore_n 1, 1) := by decide +kernel
theorem dX5_run_26 : decode cX5_run 26 = .ok (.aload_n 0, 1) := by decide +kernel
theorem dX5_run_27 : decode cX5_run 27 = .ok (.getfield 34, 3) := by decide +kernel
theorem dX5_run_30 : decode cX5_run 30 = .ok (.invokevirtual 129, 3) := by decide +kernel
theorem dX5_run_33 : decode cX5_run 33 = .ok (.iload_n 1, 1) := by decide +kernel
theorem dX5_run_34 : decode cX5_run 34 = .ok (.ireturn, 1) := by decide +kernel
theorem dX5_keep_0 : decode cX5_keep 0 = .ok (.iload_n 1, 1) := by decide +kernel
theorem dX5_keep_1 : decode cX5_keep 1 = .ok (.iconst 0, 1) := by decide +kernel
theorem dX5_keep_2 : decode cX5_keep 2 = .ok (.iconst 1, 1) := by decide +kernel
theorem dX5_keep_3 : decode cX5_keep 3 = .ok (.invokestatic 45, 3) := by decide +kernel
theorem dX5_keep_6 : decode cX5_keep 6 = .ok (.invokestatic 49, 3) := by decide +kernel
theorem dX5_keep_9 : decode cX5_keep 9 = .ok (.aload_n 0, 1) := by decide +kernel
theorem dX5_keep_10 : decode cX5_keep 10 = .ok (.getfield 16, 3) := by decide +kernel
theorem dX5_keep_13 : decode cX5_keep 13 = .ok (.iload_n 1, 1) := by decide +kernel
theorem dX5_keep_14 : decode cX5_keep 14 = .ok (.aaload, 1) := by decide +kernel
theorem dX5_keep_15 : decode cX5_keep 15 = .ok (.aload_n 0, 1) := by decide +kernel
theorem dX5_keep_16 : decode cX5_keep 16 = .ok (.getfield 10, 3) := by decide +kernel
theorem dX5_keep_19 : decode cX5_keep 19 = .ok (.invokevirtual 142, 3) := by decide +kernel
theorem dX5_keep_22 : decode cX5_keep 22 = .ok (.aload_n 0, 1) := by decide +kernel
theorem dX5_keep_23 : decode cX5_keep 23 = .ok (.getfield 20, 3) := by decide +kernel
theorem dX5_keep_26 : decode cX5_keep 26 = .ok (.iload_n 1, 1) := by decide +kernel
theorem dX5_keep_27 : decode cX5_keep 27 = .ok (.iconst 1, 1) := by decide +kernel
theorem dX5_keep_28 : decode cX5_keep 28 = .ok (.bastore, 1) := by decide +kernel
theorem dX5_keep_29 : decode cX5_keep 29 = .ok (.aload_n 0, 1) := by decide +kernel
theorem dX5_keep_30 : decode cX5_keep 30 = .ok (.getfield 10, 3) := by decide +kernel
theorem dX5_keep_33 : decode cX5_keep 33 = .ok (.getfield 145, 3) := by decide +kernel
theorem dX5_keep_36 : decode cX5_keep 36 = .ok (.ireturn, 1) := by decide +kernel
theorem dX5_goBack_0 : decode cX5_goBack 0 = .ok (.iload_n 1, 1) := by decide +kernel
theorem dX5_goBack_1 : decode cX5_goBack 1 = .ok (.iconst 0, 1) := by decide +kernel
theorem dX5_goBack_2 : decode cX5_goBack 2 = .ok (.iconst 1, 1) := by decide +kernel
theorem dX5_goBack_3 : decode cX5_goBack 3 = .ok (.invokestatic 45, 3) := by decide +kernel
theorem dX5_goBack_6 : decode cX5_goBack 6 = .ok (.invokestatic 49, 3) := by decide +kernel
theorem dX5_goBack_9 : decode cX5_goBack 9 = .ok (.aload_n 0, 1) := by decide +kernel
theorem dX5_goBack_10 : decode cX5_goBack 10 = .ok (.getfield 20, 3) := by decide +kernel
theorem dX5_goBack_13 : decode cX5_goBack 13 = .ok (.iload_n 1, 1) := by decide +kernel
theorem dX5_goBack_14 : decode cX5_goBack 14 = .ok (.baload, 1) := by decide +kernel
theorem dX5_goBack_15 : decode cX5_goBack 15 = .ok (.ifCond .ne 13, 3) := by decide +kernel
theorem dX5_goBack_18 : decode cX5_goBack 18 = .ok (.new 116, 3) := by decide +kernel
theorem dX5_goBack_21 : decode cX5_goBack 21 = .ok (.dup, 1) := by decide +kernel
theorem dX5_goBack_22 : decode cX5_goBack 22 = .ok (.ldc 148, 2) := by decide +kernel
theorem dX5_goBack_24 : decode cX5_goBack 24 = .ok (.invokespecial 120, 3) := by decide +kernel
theorem dX5_goBack_27 : decode cX5_goBack 27 = .ok (.athrow, 1) := by decide +kernel
theorem dX5_goBack_28 : decode cX5_goBack 28 = .ok (.aload_n 0, 1) := by decide +kernel
theorem dX5_goBack_29 : decode cX5_goBack 29 = .ok (.getfield 27, 3) := by decide +kernel
theorem dX5_goBack_32 : decode cX5_goBack 32 = .ok (.aload_n 0, 1) := by decide +kernel
theorem dX5_goBack_33 : decode cX5_goBack 33 = .ok (.getfield 10, 3) := by decide +kernel
theorem dX5_goBack_36 : decode cX5_goBack 36 = .ok (.invokevirtual 53, 3) := by decide +kernel
theorem dX5_goBack_39 : decode cX5_goBack 39 = .ok (.aload_n 0, 1) := by decide +kernel
theorem dX5_goBack_40 : decode cX5_goBack 40 = .ok (.getfield 10, 3) := by decide +kernel
theorem dX5_goBack_43 : decode cX5_goBack 43 = .ok (.aload_n 0, 1) := by decide +kernel
theorem dX5_goBack_44 : decode cX5_goBack 44 = .ok (.getfield 16, 3) := by decide +kernel
theorem dX5_goBack_47 : decode cX5_goBack 47 = .ok (.iload_n 1, 1) := by decide +kernel
theorem dX5_goBack_48 : decode cX5_goBack 48 = .ok (.aaload, 1) := by decide +kernel
theorem dX5_goBack_49 : decode cX5_goBack 49 = .ok (.invokevirtual 142, 3) := by decide +kernel
theorem dX5_goBack_52 : decode cX5_goBack 52 = .ok (.aload_n 0, 1) := by decide +kernel
theorem dX5_goBack_53 : decode cX5_goBack 53 = .ok (.getfield 10, 3) := by decide +kernel
theorem dX5_goBack_56 : decode cX5_goBack 56 = .ok (.getfield 145, 3) := by decide +kernel
theorem dX5_goBack_59 : decode cX5_goBack 59 = .ok (.ireturn, 1) := by decide +kernel
theorem dX5_undo_0 : decode cX5_undo 0 = .ok (.aload_n 0, 1) := by decide +kernel
theorem dX5_undo_1 : decode cX5_undo 1 = .ok (.getfield 27, 3) := by decide +kernel
theorem dX5_undo_4 : decode cX5_undo 4 = .ok (.getfield 150, 3) := by decide +kernel
theorem dX5_undo_7 : decode cX5_undo 7 = .ok (.ifCond .ne 13, 3) := by decide +kernel
theorem dX5_undo_10 : decode cX5_undo 10 = .ok (.new 116, 3) := by decide +kernel
theorem dX5_undo_13 : decode cX5_undo 13 = .ok (.dup, 1) := by decide +kernel
theorem dX5_undo_14 : decode cX5_undo 14 = .ok (.ldc 151, 2) := by decide +kernel
theorem dX5_undo_16 : decode cX5_undo 16 = .ok (.invokespecial 120, 3) := by decide +kernel
theorem dX5_undo_19 : decode cX5_undo 19 = .ok (.athrow, 1) := by decide +kernel
theorem dX5_undo_20 : decode cX5_undo 20 = .ok (.aload_n 0, 1) := by decide +kernel
theorem dX5_undo_21 : decode cX5_undo 21 = .ok (.getfield 27, 3) := by decide +kernel
theorem dX5_undo_24 : decode cX5_undo 24 = .ok (.aload_n 0, 1) := by decide +kernel
theorem dX5_undo_25 : decode cX5_undo 25 = .ok (.getfield 10, 3) := by decide +kernel
theorem dX5_undo_28 : decode cX5_undo 28 = .ok (.invokevirtual 153, 3) := by decide +kernel
theorem dX5_undo_31 : decode cX5_undo 31 = .ok (.aload_n 0, 1) := by decide +kernel
theorem dX5_undo_32 : decode cX5_undo 32 = .ok (.getfield 27, 3) := by decide +kernel
theorem dX5_undo_35 : decode cX5_undo 35 = .ok (.getfield 150, 3) := by decide +kernel
theorem dX5_undo_38 : decode cX5_undo 38 = .ok (.ireturn, 1) := by decide +kernel
theorem dX5_parcelOf_0 : decode cX5_parcelOf 0 = .ok (.aload_n 0, 1) := by decide +kernel
theorem dX5_parcelOf_1 : decode cX5_parcelOf 1 = .ok (.iload_n 1, 1) := by decide +kernel
theorem dX5_parcelOf_2 : decode cX5_parcelOf 2 = .ok (.invokevirtual 61, 3) := by decide +kernel
theorem dX5_parcelOf_5 : decode cX5_parcelOf 5 = .ok (.iload_n 2, 1) := by decide +kernel
theorem dX5_parcelOf_6 : decode cX5_parcelOf 6 = .ok (.iconst 0, 1) := by decide +kernel
theorem dX5_parcelOf_7 : decode cX5_parcelOf 7 = .ok (.bipush 10, 2) := by decide +kernel
theorem dX5_parcelOf_9 : decode cX5_parcelOf 9 = .ok (.invokestatic 45, 3) := by decide +kernel
theorem dX5_parcelOf_12 : decode cX5_parcelOf 12 = .ok (.invokestatic 49, 3) := by decide +kernel
theorem dX5_parcelOf_15 : decode cX5_parcelOf 15 = .ok (.aload_n 0, 1) := by decide +kernel
theorem dX5_parcelOf_16 : decode cX5_parcelOf 16 = .ok (.getfield 10, 3) := by decide +kernel
theorem dX5_parcelOf_19 : decode cX5_parcelOf 19 = .ok (.aload_n 0, 1) := by decide +kernel
theorem dX5_parcelOf_20 : decode cX5_parcelOf 20 = .ok (.getfield 10, 3) := by decide +kernel
theorem dX5_parcelOf_23 : decode cX5_parcelOf 23 = .ok (.getfield 65, 3) := by decide +kernel
theorem dX5_parcelOf_26 : decode cX5_parcelOf 26 = .ok (.iload_n 1, 1) := by decide +kernel
theorem dX5_parcelOf_27 : decode cX5_parcelOf 27 = .ok (.aaload, 1) := by decide +kernel
theorem dX5_parcelOf_28 : decode cX5_parcelOf 28 = .ok (.iload_n 2, 1) := by decide +kernel
theorem dX5_parcelOf_29 : decode cX5_parcelOf 29 = .ok (.invokevirtual 156, 3) := by decide +kernel
theorem dX5_parcelOf_32 : decode cX5_parcelOf 32 = .ok (.ireturn, 1) := by decide +kernel
theorem dX5_rate_0 : decode cX5_rate 0 = .ok (.iload_n 1, 1) := by decide +kernel
theorem dX5_rate_1 : decode cX5_rate 1 = .ok (.iconst 1, 1) := by decide +kernel
theorem dX5_rate_2 : decode cX5_rate 2 = .ok (.sipush 999, 3) := by decide +kernel
theorem dX5_rate_5 : decode cX5_rate 5 = .ok (.invokestatic 45, 3) := by decide +kernel
theorem dX5_rate_8 : decode cX5_rate 8 = .ok (.ifCond .eq 16, 3) := by decide +kernel
theorem dX5_rate_11 : decode cX5_rate 11 = .ok (.iload_n 2, 1) := by decide +kernel
theorem dX5_rate_12 : decode cX5_rate 12 = .ok (.iconst 0, 1) := by decide +kernel
theorem dX5_rate_13 : decode cX5_rate 13 = .ok (.iconst 1, 1) := by decide +kernel
theorem dX5_rate_14 : decode cX5_rate 14 = .ok (.invokestatic 45, 3) := by decide +kernel
theorem dX5_rate_17 : decode cX5_rate 17 = .ok (.ifCond .eq 7, 3) := by decide +kernel
theorem dX5_rate_20 : decode cX5_rate 20 = .ok (.iconst 1, 1) := by decide +kernel
theorem dX5_rate_21 : decode cX5_rate 21 = .ok (.goto 4, 3) := by decide +kernel
theorem dX5_rate_24 : decode cX5_rate 24 = .ok (.iconst 0, 1) := by decide +kernel
theorem dX5_rate_25 : decode cX5_rate 25 = .ok (.invokestatic 49, 3) := by decide +kernel
theorem dX5_rate_28 : decode cX5_rate 28 = .ok (.iload_n 2, 1) := by decide +kernel
theorem dX5_rate_29 : decode cX5_rate 29 = .ok (.ifCond .ne 14, 3) := by decide +kernel
theorem dX5_rate_32 : decode cX5_rate 32 = .ok (.aload_n 0, 1) := by decide +kernel
theorem dX5_rate_33 : decode cX5_rate 33 = .ok (.getfield 10, 3) := by decide +kernel
theorem dX5_rate_36 : decode cX5_rate 36 = .ok (.iload_n 1, 1) := by decide +kernel
theorem dX5_rate_37 : decode cX5_rate 37 = .ok (.invokevirtual 160, 3) := by decide +kernel
theorem dX5_rate_40 : decode cX5_rate 40 = .ok (.goto 11, 3) := by decide +kernel
theorem dX5_rate_43 : decode cX5_rate 43 = .ok (.aload_n 0, 1) := by decide +kernel
theorem dX5_rate_44 : decode cX5_rate 44 = .ok (.getfield 10, 3) := by decide +kernel
theorem dX5_rate_47 : decode cX5_rate 47 = .ok (.iload_n 1, 1) := by decide +kernel
theorem dX5_rate_48 : decode cX5_rate 48 = .ok (.invokevirtual 163, 3) := by decide +kernel
theorem dX5_rate_51 : decode cX5_rate 51 = .ok (.ireturn, 1) := by decide +kernel
theorem dX5_count_0 : decode cX5_count 0 = .ok (.iload_n 1, 1) := by decide +kernel
theorem dX5_count_1 : decode cX5_count 1 = .ok (.iconst 0, 1) := by decide +kernel
theorem dX5_count_2 : decode cX5_count 2 = .ok (.bipush 9, 2) := by decide +kernel
theorem dX5_count_4 : decode cX5_count 4 = .ok (.invokestatic 45, 3) := by decide +kernel
theorem dX5_count_7 : decode cX5_count 7 = .ok (.invokestatic 49, 3) := by decide +kernel
theorem dX5_count_10 : decode cX5_count 10 = .ok (.iload_n 1, 1) := by decide +kernel
theorem dX5_count_11 : decode cX5_count 11 = .ok (.bipush 9, 2) := by decide +kernel
theorem dX5_count_13 : decode cX5_count 13 = .ok (.if_icmp .ne 13, 3) := by decide +kernel
theorem dX5_count_16 : decode cX5_count 16 = .ok (.aload_n 0, 1) := by decide +kernel
theorem dX5_count_17 : decode cX5_count 17 = .ok (.getfield 27, 3) := by decide +kernel
theorem dX5_count_20 : decode cX5_count 20 = .ok (.getfield 150, 3) := by decide +kernel
theorem dX5_count_23 : decode cX5_count 23 = .ok (.goto 11, 3) := by decide +kernel
theorem dX5_count_26 : decode cX5_count 26 = .ok (.aload_n 0, 1) := by decide +kernel
theorem dX5_count_27 : decode cX5_count 27 = .ok (.getfield 10, 3) := by decide +kernel
theorem dX5_count_30 : decode cX5_count 30 = .ok (.iload_n 1, 1) := by decide +kernel
theorem dX5_count_31 : decode cX5_count 31 = .ok (.invokevirtual 166, 3) := by decide +kernel
theorem dX5_count_34 : decode cX5_count 34 = .ok (.ireturn, 1) := by decide +kernel
theorem dX5_setting_0 : decode cX5_setting 0 = .ok (.iload_n 1, 1) := by decide +kernel
theorem dX5_setting_1 : decode cX5_setting 1 = .ok (.iconst 4, 1) := by decide +kernel
theorem dX5_setting_2 : decode cX5_setting 2 = .ok (.invokestatic 92, 3) := by decide +kernel
theorem dX5_setting_5 : decode cX5_setting 5 = .ok (.aload_n 0, 1) := by decide +kernel
theorem dX5_setting_6 : decode cX5_setting 6 = .ok (.getfield 10, 3) := by decide +kernel
theorem dX5_setting_9 : decode cX5_setting 9 = .ok (.getfield 109, 3) := by decide +kernel
theorem dX5_setting_12 : decode cX5_setting 12 = .ok (.iload_n 1, 1) := by decide +kernel
theorem dX5_setting_13 : decode cX5_setting 13 = .ok (.iaload, 1) := by decide +kernel
theorem dX5_setting_14 : decode cX5_setting 14 = .ok (.ireturn, 1) := by decide +kernel
theorem dX5_cheapestWay_0 : decode cX5_cheapestWay 0 = .ok (.aload_n 0, 1) := by decide +kernel
theorem dX5_cheapestWay_1 : decode cX5_cheapestWay 1 = .ok (.iload_n 1, 1) := by decide +kernel
theorem dX5_cheapestWay_2 : decode cX5_cheapestWay 2 = .ok (.invokevirtual 61, 3) := by decide +kernel
theorem dX5_cheapestWay_5 : decode cX5_cheapestWay 5 = .ok (.aload_n 0, 1) := by decide +kernel
theorem dX5_cheapestWay_6 : decode cX5_cheapestWay 6 = .ok (.getfield 10, 3) := by decide +kernel
theorem dX5_cheapestWay_9 : decode cX5_cheapestWay 9 = .ok (.aload_n 0, 1) := by decide +kernel
theorem dX5_cheapestWay_10 : decode cX5_cheapestWay 10 = .ok (.getfield 10, 3) := by decide +kernel
theorem dX5_cheapestWay_13 : decode cX5_cheapestWay 13 = .ok (.getfield 65, 3) := by decide +kernel
theorem dX5_cheapestWay_16 : decode cX5_cheapestWay 16 = .ok (.iload_n 1, 1) := by decide +kernel
theorem dX5_cheapestWay_17 : decode cX5_cheapestWay 17 = .ok (.aaload, 1) := by decide +kernel
theorem dX5_cheapestWay_18 : decode cX5_cheapestWay 18 = .ok (.invokevirtual 169, 3) := by decide +kernel
theorem dX5_cheapestWay_21 : decode cX5_cheapestWay 21 = .ok (.ireturn, 1) := by decide +kernel
theorem dX5_ifBundled_0 : decode cX5_ifBundled 0 = .ok (.aload_n 0, 1) := by decide +kernel
theorem dX5_ifBundled_1 : decode cX5_ifBundled 1 = .ok (.iload_n 1, 1) := by decide +kernel
theorem dX5_ifBundled_2 : decode cX5_ifBundled 2 = .ok (.invokevirtual 61, 3) := by decide +kernel
theorem dX5_ifBundled_5 : decode cX5_ifBundled 5 = .ok (.aload_n 0, 1) := by decide +kernel
theorem dX5_ifBundled_6 : decode cX5_ifBundled 6 = .ok (.iload_n 2, 1) := by decide +kernel
theorem dX5_ifBundled_7 : decode cX5_ifBundled 7 = .ok (.invokevirtual 61, 3) := by decide +kernel
theorem dX5_ifBundled_10 : decode cX5_ifBundled 10 = .ok (.iload_n 1, 1) := by decide +kernel
theorem dX5_ifBundled_11 : decode cX5_ifBundled 11 = .ok (.iload_n 2, 1) := by decide +kernel
theorem dX5_ifBundled_12 : decode cX5_ifBundled 12 = .ok (.if_icmp .eq 7, 3) := by decide +kernel
theorem dX5_ifBundled_15 : decode cX5_ifBundled 15 = .ok (.iconst 1, 1) := by decide +kernel
theorem dX5_ifBundled_16 : decode cX5_ifBundled 16 = .ok (.goto 4, 3) := by decide +kernel
theorem dX5_ifBundled_19 : decode cX5_ifBundled 19 = .ok (.iconst 0, 1) := by decide +kernel
theorem dX5_ifBundled_20 : decode cX5_ifBundled 20 = .ok (.invokestatic 49, 3) := by decide +kernel
theorem dX5_ifBundled_23 : decode cX5_ifBundled 23 = .ok (.aload_n 0, 1) := by decide +kernel
theorem dX5_ifBundled_24 : decode cX5_ifBundled 24 = .ok (.getfield 41, 3) := by decide +kernel
theorem dX5_ifBundled_27 : decode cX5_ifBundled 27 = .ok (.aload_n 0, 1) := by decide +kernel
theorem dX5_ifBundled_28 : decode cX5_ifBundled 28 = .ok (.getfield 10, 3) := by decide +kernel
theorem dX5_ifBundled_31 : decode cX5_ifBundled 31 = .ok (.aload_n 0, 1) := by decide +kernel
theorem dX5_ifBundled_32 : decode cX5_ifBundled 32 = .ok (.getfield 10, 3) := by decide +kernel
theorem dX5_ifBundled_35 : decode cX5_ifBundled 35 = .ok (.getfield 65, 3) := by decide +kernel
theorem dX5_ifBundled_38 : decode cX5_ifBundled 38 = .ok (.iload_n 1, 1) := by decide +kernel
theorem dX5_ifBundled_39 : decode cX5_ifBundled 39 = .ok (.aaload, 1) := by decide +kernel
theorem dX5_ifBundled_40 : decode cX5_ifBundled 40 = .ok (.aload_n 0, 1) := by decide +kernel
theorem dX5_ifBundled_41 : decode cX5_ifBundled 41 = .ok (.getfield 10, 3) := by decide +kernel
theorem dX5_ifBundled_44 : decode cX5_ifBundled 44 = .ok (.getfield 65, 3) := by decide +kernel
theorem dX5_ifBundled_47 : decode cX5_ifBundled 47 = .ok (.iload_n 2, 1) := by decide +kernel
theorem dX5_ifBundled_48 : decode cX5_ifBundled 48 = .ok (.aaload, 1) := by decide +kernel
theorem dX5_ifBundled_49 : decode cX5_ifBundled 49 = .ok (.invokevirtual 173, 3) := by decide +kernel
theorem dX5_ifBundled_52 : decode cX5_ifBundled 52 = .ok (.ireturn, 1) := by decide +kernel
theorem dX5_cheapest_0 : decode cX5_cheapest 0 = .ok (.iload_n 1, 1) := by decide +kernel
theorem dX5_cheapest_1 : decode cX5_cheapest 1 = .ok (.iconst 0, 1) := by decide +kernel
theorem dX5_cheapest_2 : decode cX5_cheapest 2 = .ok (.iconst 1, 1) := by decide +kernel
theorem dX5_cheapest_3 : decode cX5_cheapest 3 = .ok (.invokestatic 45, 3) := by decide +kernel
theorem dX5_cheapest_6 : decode cX5_cheapest 6 = .ok (.invokestatic 49, 3) := by decide +kernel
theorem dX5_cheapest_9 : decode cX5_cheapest 9 = .ok (.aload_n 0, 1) := by decide +kernel
theorem dX5_cheapest_10 : decode cX5_cheapest 10 = .ok (.getfield 41, 3) := by decide +kernel
theorem dX5_cheapest_13 : decode cX5_cheapest 13 = .ok (.aload_n 0, 1) := by decide +kernel
theorem dX5_cheapest_14 : decode cX5_cheapest 14 = .ok (.getfield 10, 3) := by decide +kernel
theorem dX5_cheapest_17 : decode cX5_cheapest 17 = .ok (.invokevirtual 177, 3) := by decide +kernel
theorem dX5_cheapest_20 : decode cX5_cheapest 20 = .ok (.iload_n 1, 1) := by decide +kernel
theorem dX5_cheapest_21 : decode cX5_cheapest 21 = .ok (.ifCond .ne 13, 3) := by decide +kernel
theorem dX5_cheapest_24 : decode cX5_cheapest 24 = .ok (.aload_n 0, 1) := by decide +kernel
theorem dX5_cheapest_25 : decode cX5_cheapest 25 = .ok (.getfield 41, 3) := by decide +kernel
theorem dX5_cheapest_28 : decode cX5_cheapest 28 = .ok (.invokevirtual 180, 3) := by decide +kernel
theorem dX5_cheapest_31 : decode cX5_cheapest 31 = .ok (.goto 10, 3) := by decide +kernel
theorem dX5_cheapest_34 : decode cX5_cheapest 34 = .ok (.aload_n 0, 1) := by decide +kernel
theorem dX5_cheapest_35 : decode cX5_cheapest 35 = .ok (.getfield 41, 3) := by decide +kernel
theorem dX5_cheapest_38 : decode cX5_cheapest 38 = .ok (.invokevirtual 183, 3) := by decide +kernel
theorem dX5_cheapest_41 : decode cX5_cheapest 41 = .ok (.ireturn, 1) := by decide +kernel
theorem dX5_dearest_0 : decode cX5_dearest 0 = .ok (.aload_n 0, 1) := by decide +kernel
theorem dX5_dearest_1 : decode cX5_dearest 1 = .ok (.getfield 10, 3) := by decide +kernel
theorem dX5_dearest_4 : decode cX5_dearest 4 = .ok (.invokevirtual 186, 3) := by decide +kernel
theorem dX5_dearest_7 : decode cX5_dearest 7 = .ok (.ireturn, 1) := by decide +kernel
theorem dX5_savedShare_0 : decode cX5_savedShare 0 = .ok (.aload_n 0, 1) := by decide +kernel
theorem dX5_savedShare_1 : decode cX5_savedShare 1 = .ok (.getfield 41, 3) := by decide +kernel
theorem dX5_savedShare_4 : decode cX5_savedShare 4 = .ok (.aload_n 0, 1) := by decide +kernel
theorem dX5_savedShare_5 : decode cX5_savedShare 5 = .ok (.getfield 10, 3) := by decide +kernel
theorem dX5_savedShare_8 : decode cX5_savedShare 8 = .ok (.invokevirtual 177, 3) := by decide +kernel
theorem dX5_savedShare_11 : decode cX5_savedShare 11 = .ok (.aload_n 0, 1) := by decide +kernel
theorem dX5_savedShare_12 : decode cX5_savedShare 12 = .ok (.getfield 41, 3) := by decide +kernel
theorem dX5_savedShare_15 : decode cX5_savedShare 15 = .ok (.invokevirtual 189, 3) := by decide +kernel
theorem dX5_savedShare_18 : decode cX5_savedShare 18 = .ok (.istore_n 1, 1) := by decide +kernel
theorem dX5_savedShare_19 : decode cX5_savedShare 19 = .ok (.iload_n 1, 1) := by decide +kernel
theorem dX5_savedShare_20 : decode cX5_savedShare 20 = .ok (.ifCond .ne 5, 3) := by decide +kernel
theorem dX5_savedShare_23 : decode cX5_savedShare 23 = .ok (.dconst 0, 1) := by decide +kernel
theorem dX5_savedShare_24 : decode cX5_savedShare 24 = .ok (.dreturn, 1) := by decide +kernel
theorem dX5_savedShare_25 : decode cX5_savedShare 25 = .ok (.iload_n 1, 1) := by decide +kernel
theorem dX5_savedShare_26 : decode cX5_savedShare 26 = .ok (.aload_n 0, 1) := by decide +kernel
theorem dX5_savedShare_27 : decode cX5_savedShare 27 = .ok (.getfield 41, 3) := by decide +kernel
theorem dX5_savedShare_30 : decode cX5_savedShare 30 = .ok (.invokevirtual 180, 3) := by decide +kernel
theorem dX5_savedShare_33 : decode cX5_savedShare 33 = .ok (.isub, 1) := by decide +kernel
theorem dX5_savedShare_34 : decode cX5_savedShare 34 = .ok (.i2d, 1) := by decide +kernel
theorem dX5_savedShare_35 : decode cX5_savedShare 35 = .ok (.iload_n 1, 1) := by decide +kernel
theorem dX5_savedShare_36 : decode cX5_savedShare 36 = .ok (.i2d, 1) := by decide +kernel
theorem dX5_savedShare_37 : decode cX5_savedShare 37 = .ok (.ddiv, 1) := by decide +kernel
theorem dX5_savedShare_38 : decode cX5_savedShare 38 = .ok (.dreturn, 1) := by decide +kernel
theorem dX5_digest_0 : decode cX5_digest 0 = .ok (.ldc2_w 192, 3) := by decide +kernel
theorem dX5_digest_3 : decode cX5_digest 3 = .ok (.lstore_n 1, 1) := by decide +kernel
theorem dX5_digest_4 : decode cX5_digest 4 = .ok (.iconst 0, 1) := by decide +kernel
theorem dX5_digest_5 : decode cX5_digest 5 = .ok (.istore_n 3, 1) := by decide +kernel
theorem dX5_digest_6 : decode cX5_digest 6 = .ok (.iload_n 3, 1) := by decide +kernel
theorem dX5_digest_7 : decode cX5_digest 7 = .ok (.bipush 9, 2) := by decide +kernel
theorem dX5_digest_9 : decode cX5_digest 9 = .ok (.if_icmp .gt 20, 3) := by decide +kernel
theorem dX5_digest_12 : decode cX5_digest 12 = .ok (.lload_n 1, 1) := by decide +kernel
theorem dX5_digest_13 : decode cX5_digest 13 = .ok (.aload_n 0, 1) := by decide +kernel
theorem dX5_digest_14 : decode cX5_digest 14 = .ok (.iload_n 3, 1) := by decide +kernel
theorem dX5_digest_15 : decode cX5_digest 15 = .ok (.invokevirtual 194, 3) := by decide +kernel
theorem dX5_digest_18 : decode cX5_digest 18 = .ok (.i2l, 1) := by decide +kernel
theorem dX5_digest_19 : decode cX5_digest 19 = .ok (.invokestatic 197, 3) := by decide +kernel
theorem dX5_digest_22 : decode cX5_digest 22 = .ok (.lstore_n 1, 1) := by decide +kernel
theorem dX5_digest_23 : decode cX5_digest 23 = .ok (.iinc 3 1, 3) := by decide +kernel
theorem dX5_digest_26 : decode cX5_digest 26 = .ok (.goto (-20), 3) := by decide +kernel
theorem dX5_digest_29 : decode cX5_digest 29 = .ok (.lload_n 1, 1) := by decide +kernel
theorem dX5_digest_30 : decode cX5_digest 30 = .ok (.aload_n 0, 1) := by decide +kernel
theorem dX5_digest_31 : decode cX5_digest 31 = .ok (.getfield 10, 3) := by decide +kernel
theorem dX5_digest_34 : decode cX5_digest 34 = .ok (.getfield 109, 3) := by decide +kernel
theorem dX5_digest_37 : decode cX5_digest 37 = .ok (.iconst 4, 1) := by decide +kernel
theorem dX5_digest_38 : decode cX5_digest 38 = .ok (.invokestatic 201, 3) := by decide +kernel
theorem dX5_digest_41 : decode cX5_digest 41 = .ok (.lstore_n 1, 1) := by decide +kernel
theorem dX5_digest_42 : decode cX5_digest 42 = .ok (.lload_n 1, 1) := by decide +kernel
theorem dX5_digest_43 : decode cX5_digest 43 = .ok (.aload_n 0, 1) := by decide +kernel
theorem dX5_digest_44 : decode cX5_digest 44 = .ok (.getfield 10, 3) := by decide +kernel
theorem dX5_digest_47 : decode cX5_digest 47 = .ok (.getfield 96, 3) := by decide +kernel
theorem dX5_digest_50 : decode cX5_digest 50 = .ok (.bipush 12, 2) := by decide +kernel
theorem dX5_digest_52 : decode cX5_digest 52 = .ok (.invokestatic 201, 3) := by decide +kernel
theorem dX5_digest_55 : decode cX5_digest 55 = .ok (.lstore_n 1, 1) := by decide +kernel
theorem dX5_digest_56 : decode cX5_digest 56 = .ok (.lload_n 1, 1) := by decide +kernel
theorem dX5_digest_57 : decode cX5_digest 57 = .ok (.aload_n 0, 1) := by decide +kernel
theorem dX5_digest_58 : decode cX5_digest 58 = .ok (.getfield 10, 3) := by decide +kernel
theorem dX5_digest_61 : decode cX5_digest 61 = .ok (.getfield 100, 3) := by decide +kernel
theorem dX5_digest_64 : decode cX5_digest 64 = .ok (.iconst 4, 1) := by decide +kernel
theorem dX5_digest_65 : decode cX5_digest 65 = .ok (.invokestatic 201, 3) := by decide +kernel
theorem dX5_digest_68 : decode cX5_digest 68 = .ok (.lstore_n 1, 1) := by decide +kernel
theorem dX5_digest_69 : decode cX5_digest 69 = .ok (.lload_n 1, 1) := by decide +kernel
theorem dX5_digest_70 : decode cX5_digest 70 = .ok (.aload_n 0, 1) := by decide +kernel
theorem dX5_digest_71 : decode cX5_digest 71 = .ok (.bipush 120, 2) := by decide +kernel
theorem dX5_digest_73 : decode cX5_digest 73 = .ok (.iconst 0, 1) := by decide +kernel
theorem dX5_digest_74 : decode cX5_digest 74 = .ok (.invokevirtual 205, 3) := by decide +kernel
theorem dX5_digest_77 : decode cX5_digest 77 = .ok (.i2l, 1) := by decide +kernel
theorem dX5_digest_78 : decode cX5_digest 78 = .ok (.invokestatic 197, 3) := by decide +kernel
theorem dX5_digest_81 : decode cX5_digest 81 = .ok (.lstore_n 1, 1) := by decide +kernel
theorem dX5_digest_82 : decode cX5_digest 82 = .ok (.lload_n 1, 1) := by decide +kernel
theorem dX5_digest_83 : decode cX5_digest 83 = .ok (.aload_n 0, 1) := by decide +kernel
theorem dX5_digest_84 : decode cX5_digest 84 = .ok (.bipush 120, 2) := by decide +kernel
theorem dX5_digest_86 : decode cX5_digest 86 = .ok (.iconst 1, 1) := by decide +kernel
theorem dX5_digest_87 : decode cX5_digest 87 = .ok (.invokevirtual 205, 3) := by decide +kernel
theorem dX5_digest_90 : decode cX5_digest 90 = .ok (.i2l, 1) := by decide +kernel
theorem dX5_digest_91 : decode cX5_digest 91 = .ok (.invokestatic 197, 3) := by decide +kernel
theorem dX5_digest_94 : decode cX5_digest 94 = .ok (.lstore_n 1, 1) := by decide +kernel
theorem dX5_digest_95 : decode cX5_digest 95 = .ok (.lload_n 1, 1) := by decide +kernel
theorem dX5_digest_96 : decode cX5_digest 96 = .ok (.aload_n 0, 1) := by decide +kernel
theorem dX5_digest_97 : decode cX5_digest 97 = .ok (.sipush 999, 3) := by decide +kernel
theorem dX5_digest_100 : decode cX5_digest 100 = .ok (.iconst 0, 1) := by decide +kernel
theorem dX5_digest_101 : decode cX5_digest 101 = .ok (.invokevirtual 205, 3) := by decide +kernel
theorem dX5_digest_104 : decode cX5_digest 104 = .ok (.i2l, 1) := by decide +kernel
theorem dX5_digest_105 : decode cX5_digest 105 = .ok (.invokestatic 197, 3) := by decide +kernel
theorem dX5_digest_108 : decode cX5_digest 108 = .ok (.lstore_n 1, 1) := by decide +kernel
theorem dX5_digest_109 : decode cX5_digest 109 = .ok (.lload_n 1, 1) := by decide +kernel
theorem dX5_digest_110 : decode cX5_digest 110 = .ok (.aload_n 0, 1) := by decide +kernel
theorem dX5_digest_111 : decode cX5_digest 111 = .ok (.sipush 999, 3) := by decide +kernel
theorem dX5_digest_114 : decode cX5_digest 114 = .ok (.iconst 1, 1) := by decide +kernel
theorem dX5_digest_115 : decode cX5_digest 115 = .ok (.invokevirtual 205, 3) := by decide +kernel
theorem dX5_digest_118 : decode cX5_digest 118 = .ok (.i2l, 1) := by decide +kernel
theorem dX5_digest_119 : decode cX5_digest 119 = .ok (.invokestatic 197, 3) := by decide +kernel
theorem dX5_digest_122 : decode cX5_digest 122 = .ok (.lstore_n 1, 1) := by decide +kernel
theorem dX5_digest_123 : decode cX5_digest 123 = .ok (.iconst 0, 1) := by decide +kernel
theorem dX5_digest_124 : decode cX5_digest 124 = .ok (.istore_n 3, 1) := by decide +kernel
theorem dX5_digest_125 : decode cX5_digest 125 = .ok (.iload_n 3, 1) := by decide +kernel
theorem dX5_digest_126 : decode cX5_digest 126 = .ok (.aload_n 0, 1) := by decide +kernel
theorem dX5_digest_127 : decode cX5_digest 127 = .ok (.getfield 10, 3) := by decide +kernel
theorem dX5_digest_130 : decode cX5_digest 130 = .ok (.getfield 88, 3) := by decide +kernel
theorem dX5_digest_133 : decode cX5_digest 133 = .ok (.if_icmp .ge 16, 3) := by decide +kernel
theorem dX5_digest_136 : decode cX5_digest 136 = .ok (.aload_n 0, 1) := by decide +kernel
theorem dX5_digest_137 : decode cX5_digest 137 = .ok (.lload_n 1, 1) := by decide +kernel
theorem dX5_digest_138 : decode cX5_digest 138 = .ok (.iload_n 3, 1) := by decide +kernel
theorem dX5_digest_139 : decode cX5_digest 139 = .ok (.invokevirtual 208, 3) := by decide +kernel
theorem dX5_digest_142 : decode cX5_digest 142 = .ok (.lstore_n 1, 1) := by decide +kernel
theorem dX5_digest_143 : decode cX5_digest 143 = .ok (.iinc 3 1, 3) := by decide +kernel
theorem dX5_digest_146 : decode cX5_digest 146 = .ok (.goto (-21), 3) := by decide +kernel
theorem dX5_digest_149 : decode cX5_digest 149 = .ok (.lload_n 1, 1) := by decide +kernel
theorem dX5_digest_150 : decode cX5_digest 150 = .ok (.aload_n 0, 1) := by decide +kernel
theorem dX5_digest_151 : decode cX5_digest 151 = .ok (.iconst 0, 1) := by decide +kernel
theorem dX5_digest_152 : decode cX5_digest 152 = .ok (.invokevirtual 212, 3) := by decide +kernel
theorem dX5_digest_155 : decode cX5_digest 155 = .ok (.i2l, 1) := by decide +kernel
theorem dX5_digest_156 : decode cX5_digest 156 = .ok (.invokestatic 197, 3) := by decide +kernel
theorem dX5_digest_159 : decode cX5_digest 159 = .ok (.lstore_n 1, 1) := by decide +kernel
theorem dX5_digest_160 : decode cX5_digest 160 = .ok (.lload_n 1, 1) := by decide +kernel
theorem dX5_digest_161 : decode cX5_digest 161 = .ok (.aload_n 0, 1) := by decide +kernel
theorem dX5_digest_162 : decode cX5_digest 162 = .ok (.iconst 1, 1) := by decide +kernel
theorem dX5_digest_163 : decode cX5_digest 163 = .ok (.invokevirtual 212, 3) := by decide +kernel
theorem dX5_digest_166 : decode cX5_digest 166 = .ok (.i2l, 1) := by decide +kernel
theorem dX5_digest_167 : decode cX5_digest 167 = .ok (.invokestatic 197, 3) := by decide +kernel
theorem dX5_digest_170 : decode cX5_digest 170 = .ok (.lstore_n 1, 1) := by decide +kernel
theorem dX5_digest_171 : decode cX5_digest 171 = .ok (.lload_n 1, 1) := by decide +kernel
theorem dX5_digest_172 : decode cX5_digest 172 = .ok (.aload_n 0, 1) := by decide +kernel
theorem dX5_digest_173 : decode cX5_digest 173 = .ok (.invokevirtual 215, 3) := by decide +kernel
theorem dX5_digest_176 : decode cX5_digest 176 = .ok (.i2l, 1) := by decide +kernel
theorem dX5_digest_177 : decode cX5_digest 177 = .ok (.invokestatic 197, 3) := by decide +kernel
theorem dX5_digest_180 : decode cX5_digest 180 = .ok (.lstore_n 1, 1) := by decide +kernel
theorem dX5_digest_181 : decode cX5_digest 181 = .ok (.lload_n 1, 1) := by decide +kernel
theorem dX5_digest_182 : decode cX5_digest 182 = .ok (.aload_n 0, 1) := by decide +kernel
theorem dX5_digest_183 : decode cX5_digest 183 = .ok (.invokevirtual 218, 3) := by decide +kernel
theorem dX5_digest_186 : decode cX5_digest 186 = .ok (.invokestatic 222, 3) := by decide +kernel
theorem dX5_digest_189 : decode cX5_digest 189 = .ok (.invokestatic 197, 3) := by decide +kernel
theorem dX5_digest_192 : decode cX5_digest 192 = .ok (.lstore_n 1, 1) := by decide +kernel
theorem dX5_digest_193 : decode cX5_digest 193 = .ok (.iconst 0, 1) := by decide +kernel
theorem dX5_digest_194 : decode cX5_digest 194 = .ok (.istore_n 3, 1) := by decide +kernel
theorem dX5_digest_195 : decode cX5_digest 195 = .ok (.iload_n 3, 1) := by decide +kernel
theorem dX5_digest_196 : decode cX5_digest 196 = .ok (.aload_n 0, 1) := by decide +kernel
theorem dX5_digest_197 : decode cX5_digest 197 = .ok (.getfield 20, 3) := by decide +kernel
theorem dX5_digest_200 : decode cX5_digest 200 = .ok (.arraylength, 1) := by decide +kernel
theorem dX5_digest_201 : decode cX5_digest 201 = .ok (.if_icmp .ge 28, 3) := by decide +kernel
theorem dX5_digest_204 : decode cX5_digest 204 = .ok (.lload_n 1, 1) := by decide +kernel
theorem dX5_digest_205 : decode cX5_digest 205 = .ok (.aload_n 0, 1) := by decide +kernel
theorem dX5_digest_206 : decode cX5_digest 206 = .ok (.getfield 20, 3) := by decide +kernel
theorem dX5_digest_209 : decode cX5_digest 209 = .ok (.iload_n 3, 1) := by decide +kernel
theorem dX5_digest_210 : decode cX5_digest 210 = .ok (.baload, 1) := by decide +kernel
theorem dX5_digest_211 : decode cX5_digest 211 = .ok (.ifCond .eq 7, 3) := by decide +kernel
theorem dX5_digest_214 : decode cX5_digest 214 = .ok (.lconst 1, 1) := by decide +kernel
theorem dX5_digest_215 : decode cX5_digest 215 = .ok (.goto 4, 3) := by decide +kernel
theorem dX5_digest_218 : decode cX5_digest 218 = .ok (.lconst 0, 1) := by decide +kernel
theorem dX5_digest_219 : decode cX5_digest 219 = .ok (.invokestatic 197, 3) := by decide +kernel
theorem dX5_digest_222 : decode cX5_digest 222 = .ok (.lstore_n 1, 1) := by decide +kernel
theorem dX5_digest_223 : decode cX5_digest 223 = .ok (.iinc 3 1, 3) := by decide +kernel
theorem dX5_digest_226 : decode cX5_digest 226 = .ok (.goto (-31), 3) := by decide +kernel
theorem dX5_digest_229 : decode cX5_digest 229 = .ok (.lload_n 1, 1) := by decide +kernel
theorem dX5_digest_230 : decode cX5_digest 230 = .ok (.aload_n 0, 1) := by decide +kernel
theorem dX5_digest_231 : decode cX5_digest 231 = .ok (.getfield 34, 3) := by decide +kernel
theorem dX5_digest_234 : decode cX5_digest 234 = .ok (.getfield 126, 3) := by decide +kernel
theorem dX5_digest_237 : decode cX5_digest 237 = .ok (.i2l, 1) := by decide +kernel
theorem dX5_digest_238 : decode cX5_digest 238 = .ok (.invokestatic 197, 3) := by decide +kernel
theorem dX5_digest_241 : decode cX5_digest 241 = .ok (.lstore_n 1, 1) := by decide +kernel
theorem dX5_digest_242 : decode cX5_digest 242 = .ok (.lload_n 1, 1) := by decide +kernel
theorem dX5_digest_243 : decode cX5_digest 243 = .ok (.aload_n 0, 1) := by decide +kernel
theorem dX5_digest_244 : decode cX5_digest 244 = .ok (.getfield 34, 3) := by decide +kernel
theorem dX5_digest_247 : decode cX5_digest 247 = .ok (.getfield 226, 3) := by decide +kernel
theorem dX5_digest_250 : decode cX5_digest 250 = .ok (.aload_n 0, 1) := by decide +kernel
theorem dX5_digest_251 : decode cX5_digest 251 = .ok (.getfield 34, 3) := by decide +kernel
theorem dX5_digest_254 : decode cX5_digest 254 = .ok (.getfield 126, 3) := by decide +kernel
theorem dX5_digest_257 : decode cX5_digest 257 = .ok (.invokestatic 201, 3) := by decide +kernel
theorem dX5_digest_260 : decode cX5_digest 260 = .ok (.lreturn, 1) := by decide +kernel
theorem dX5_isIn_0 : decode cX5_isIn 0 = .ok (.iload_n 0, 1) := by decide +kernel
theorem dX5_isIn_1 : decode cX5_isIn 1 = .ok (.iload_n 1, 1) := by decide +kernel
theorem dX5_isIn_2 : decode cX5_isIn 2 = .ok (.if_icmp .lt 12, 3) := by decide +kernel
theorem dX5_isIn_5 : decode cX5_isIn 5 = .ok (.iload_n 0, 1) := by decide +kernel
theorem dX5_isIn_6 : decode cX5_isIn 6 = .ok (.iload_n 2, 1) := by decide +kernel
theorem dX5_isIn_7 : decode cX5_isIn 7 = .ok (.if_icmp .gt 7, 3) := by decide +kernel
theorem dX5_isIn_10 : decode cX5_isIn 10 = .ok (.iconst 1, 1) := by decide +kernel
theorem dX5_isIn_11 : decode cX5_isIn 11 = .ok (.goto 4, 3) := by decide +kernel
theorem dX5_isIn_14 : decode cX5_isIn 14 = .ok (.iconst 0, 1) := by decide +kernel
theorem dX5_isIn_15 : decode cX5_isIn 15 = .ok (.ireturn, 1) := by decide +kernel
theorem dX5_requireArgument_0 : decode cX5_requireArgument 0 = .ok (.iload_n 0, 1) := by decide +kernel
theorem dX5_requireArgument_1 : decode cX5_requireArgument 1 = .ok (.ifCond .ne 13, 3) := by decide +kernel
theorem dX5_requireArgument_4 : decode cX5_requireArgument 4 = .ok (.new 229, 3) := by decide +kernel
theorem dX5_requireArgument_7 : decode cX5_requireArgument 7 = .ok (.dup, 1) := by decide +kernel
theorem dX5_requireArgument_8 : decode cX5_requireArgument 8 = .ok (.ldc 231, 2) := by decide +kernel
theorem dX5_requireArgument_10 : decode cX5_requireArgument 10 = .ok (.invokespecial 233, 3) := by decide +kernel
theorem dX5_requireArgument_13 : decode cX5_requireArgument 13 = .ok (.athrow, 1) := by decide +kernel
theorem dX5_requireArgument_14 : decode cX5_requireArgument 14 = .ok (.return_, 1) := by decide +kernel
theorem dX5_requireIndex_0 : decode cX5_requireIndex 0 = .ok (.iload_n 0, 1) := by decide +kernel
theorem dX5_requireIndex_1 : decode cX5_requireIndex 1 = .ok (.ifCond .lt 8, 3) := by decide +kernel
theorem dX5_requireIndex_4 : decode cX5_requireIndex 4 = .ok (.iload_n 0, 1) := by decide +kernel
theorem dX5_requireIndex_5 : decode cX5_requireIndex 5 = .ok (.iload_n 1, 1) := by decide +kernel
theorem dX5_requireIndex_6 : decode cX5_requireIndex 6 = .ok (.if_icmp .lt 13, 3) := by decide +kernel
theorem dX5_requireIndex_9 : decode cX5_requireIndex 9 = .ok (.new 234, 3) := by decide +kernel
theorem dX5_requireIndex_12 : decode cX5_requireIndex 12 = .ok (.dup, 1) := by decide +kernel
theorem dX5_requireIndex_13 : decode cX5_requireIndex 13 = .ok (.ldc 236, 2) := by decide +kernel
theorem dX5_requireIndex_15 : decode cX5_requireIndex 15 = .ok (.invokespecial 238, 3) := by decide +kernel
theorem dX5_requireIndex_18 : decode cX5_requireIndex 18 = .ok (.athrow, 1) := by decide +kernel
theorem dX5_requireIndex_19 : decode cX5_requireIndex 19 = .ok (.return_, 1) := by decide +kernel
theorem dX5_requireParcel_0 : decode cX5_requireParcel 0 = .ok (.iload_n 1, 1) := by decide +kernel
theorem dX5_requireParcel_1 : decode cX5_requireParcel 1 = .ok (.aload_n 0, 1) := by decide +kernel
theorem dX5_requireParcel_2 : decode cX5_requireParcel 2 = .ok (.getfield 10, 3) := by decide +kernel
theorem dX5_requireParcel_5 : decode cX5_requireParcel 5 = .ok (.getfield 88, 3) := by decide +kernel
theorem dX5_requireParcel_8 : decode cX5_requireParcel 8 = .ok (.invokestatic 92, 3) := by decide +kernel
theorem dX5_requireParcel_11 : decode cX5_requireParcel 11 = .ok (.return_, 1) := by decide +kernel
theorem dX5_admitAllOfText_0 : decode cX5_admitAllOfText 0 = .ok (.iconst 0, 1) := by decide +kernel
theorem dX5_admitAllOfText_1 : decode cX5_admitAllOfText 1 = .ok (.istore_n 1, 1) := by decide +kernel
theorem dX5_admitAllOfText_2 : decode cX5_admitAllOfText 2 = .ok (.aload_n 0, 1) := by decide +kernel
theorem dX5_admitAllOfText_3 : decode cX5_admitAllOfText 3 = .ok (.getfield 34, 3) := by decide +kernel
theorem dX5_admitAllOfText_6 : decode cX5_admitAllOfText 6 = .ok (.invokevirtual 239, 3) := by decide +kernel
theorem dX5_admitAllOfText_9 : decode cX5_admitAllOfText 9 = .ok (.iconst 0, 1) := by decide +kernel
theorem dX5_admitAllOfText_10 : decode cX5_admitAllOfText 10 = .ok (.istore_n 2, 1) := by decide +kernel
theorem dX5_admitAllOfText_11 : decode cX5_admitAllOfText 11 = .ok (.iload_n 2, 1) := by decide +kernel
theorem dX5_admitAllOfText_12 : decode cX5_admitAllOfText 12 = .ok (.aload_n 0, 1) := by decide +kernel
theorem dX5_admitAllOfText_13 : decode cX5_admitAllOfText 13 = .ok (.getfield 34, 3) := by decide +kernel
theorem dX5_admitAllOfText_16 : decode cX5_admitAllOfText 16 = .ok (.getfield 126, 3) := by decide +kernel
theorem dX5_admitAllOfText_19 : decode cX5_admitAllOfText 19 = .ok (.if_icmp .ge 68, 3) := by decide +kernel
theorem dX5_admitAllOfText_22 : decode cX5_admitAllOfText 22 = .ok (.iload_n 2, 1) := by decide +kernel
theorem dX5_admitAllOfText_23 : decode cX5_admitAllOfText 23 = .ok (.aload_n 0, 1) := by decide +kernel
theorem dX5_admitAllOfText_24 : decode cX5_admitAllOfText 24 = .ok (.getfield 34, 3) := by decide +kernel
theorem dX5_admitAllOfText_27 : decode cX5_admitAllOfText 27 = .ok (.getfield 226, 3) := by decide +kernel
theorem dX5_admitAllOfText_30 : decode cX5_admitAllOfText 30 = .ok (.arraylength, 1) := by decide +kernel
