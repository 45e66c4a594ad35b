theorem dX5_price_28 : decode cX5_price 28 = .ok (.getfield 10, 3) := by decide +kernel
theorem dX5_price_31 : decode cX5_price 31 = .ok (.getfield 96, 3) := by decide +kernel
theorem dX5_price_34 : decode cX5_price 34 = .ok (.iload_n 1, 1) := by decide +kernel
theorem dX5_price_35 : decode cX5_price 35 = .ok (.iaload, 1) := by decide +kernel
theorem dX5_price_36 : decode cX5_price 36 = .ok (.istore_n 3, 1) := by decide +kernel
theorem dX5_price_37 : decode cX5_price 37 = .ok (.aload_n 0, 1) := by decide +kernel
theorem dX5_price_38 : decode cX5_price 38 = .ok (.getfield 10, 3) := by decide +kernel
theorem dX5_price_41 : decode cX5_price 41 = .ok (.getfield 96, 3) := by decide +kernel
theorem dX5_price_44 : decode cX5_price 44 = .ok (.iload_n 1, 1) := by decide +kernel
theorem dX5_price_45 : decode cX5_price 45 = .ok (.iload_n 2, 1) := by decide +kernel
theorem dX5_price_46 : decode cX5_price 46 = .ok (.iastore, 1) := by decide +kernel
theorem dX5_price_47 : decode cX5_price 47 = .ok (.iload_n 3, 1) := by decide +kernel
theorem dX5_price_48 : decode cX5_price 48 = .ok (.ireturn, 1) := by decide +kernel
theorem dX5_zone_0 : decode cX5_zone 0 = .ok (.iload_n 1, 1) := by decide +kernel
theorem dX5_zone_1 : decode cX5_zone 1 = .ok (.iconst 4, 1) := by decide +kernel
theorem dX5_zone_2 : decode cX5_zone 2 = .ok (.invokestatic 92, 3) := by decide +kernel
theorem dX5_zone_5 : decode cX5_zone 5 = .ok (.iload_n 2, 1) := by decide +kernel
theorem dX5_zone_6 : decode cX5_zone 6 = .ok (.iconst 1, 1) := by decide +kernel
theorem dX5_zone_7 : decode cX5_zone 7 = .ok (.bipush 9, 2) := by decide +kernel
theorem dX5_zone_9 : decode cX5_zone 9 = .ok (.invokestatic 45, 3) := by decide +kernel
theorem dX5_zone_12 : decode cX5_zone 12 = .ok (.invokestatic 49, 3) := by decide +kernel
theorem dX5_zone_15 : decode cX5_zone 15 = .ok (.aload_n 0, 1) := by decide +kernel
theorem dX5_zone_16 : decode cX5_zone 16 = .ok (.getfield 27, 3) := by decide +kernel
theorem dX5_zone_19 : decode cX5_zone 19 = .ok (.aload_n 0, 1) := by decide +kernel
theorem dX5_zone_20 : decode cX5_zone 20 = .ok (.getfield 10, 3) := by decide +kernel
theorem dX5_zone_23 : decode cX5_zone 23 = .ok (.invokevirtual 53, 3) := by decide +kernel
theorem dX5_zone_26 : decode cX5_zone 26 = .ok (.aload_n 0, 1) := by decide +kernel
theorem dX5_zone_27 : decode cX5_zone 27 = .ok (.getfield 10, 3) := by decide +kernel
theorem dX5_zone_30 : decode cX5_zone 30 = .ok (.getfield 100, 3) := by decide +kernel
theorem dX5_zone_33 : decode cX5_zone 33 = .ok (.iload_n 1, 1) := by decide +kernel
theorem dX5_zone_34 : decode cX5_zone 34 = .ok (.iaload, 1) := by decide +kernel
theorem dX5_zone_35 : decode cX5_zone 35 = .ok (.istore_n 3, 1) := by decide +kernel
theorem dX5_zone_36 : decode cX5_zone 36 = .ok (.aload_n 0, 1) := by decide +kernel
theorem dX5_zone_37 : decode cX5_zone 37 = .ok (.getfield 10, 3) := by decide +kernel
theorem dX5_zone_40 : decode cX5_zone 40 = .ok (.getfield 100, 3) := by decide +kernel
theorem dX5_zone_43 : decode cX5_zone 43 = .ok (.iload_n 1, 1) := by decide +kernel
theorem dX5_zone_44 : decode cX5_zone 44 = .ok (.iload_n 2, 1) := by decide +kernel
theorem dX5_zone_45 : decode cX5_zone 45 = .ok (.iastore, 1) := by decide +kernel
theorem dX5_zone_46 : decode cX5_zone 46 = .ok (.iload_n 3, 1) := by decide +kernel
theorem dX5_zone_47 : decode cX5_zone 47 = .ok (.ireturn, 1) := by decide +kernel
theorem dX5_set_0 : decode cX5_set 0 = .ok (.iload_n 1, 1) := by decide +kernel
theorem dX5_set_1 : decode cX5_set 1 = .ok (.iconst 4, 1) := by decide +kernel
theorem dX5_set_2 : decode cX5_set 2 = .ok (.invokestatic 92, 3) := by decide +kernel
theorem dX5_set_5 : decode cX5_set 5 = .ok (.iload_n 2, 1) := by decide +kernel
theorem dX5_set_6 : decode cX5_set 6 = .ok (.getstatic 103, 3) := by decide +kernel
theorem dX5_set_9 : decode cX5_set 9 = .ok (.iload_n 1, 1) := by decide +kernel
theorem dX5_set_10 : decode cX5_set 10 = .ok (.iaload, 1) := by decide +kernel
theorem dX5_set_11 : decode cX5_set 11 = .ok (.getstatic 106, 3) := by decide +kernel
theorem dX5_set_14 : decode cX5_set 14 = .ok (.iload_n 1, 1) := by decide +kernel
theorem dX5_set_15 : decode cX5_set 15 = .ok (.iaload, 1) := by decide +kernel
theorem dX5_set_16 : decode cX5_set 16 = .ok (.invokestatic 45, 3) := by decide +kernel
theorem dX5_set_19 : decode cX5_set 19 = .ok (.invokestatic 49, 3) := by decide +kernel
theorem dX5_set_22 : decode cX5_set 22 = .ok (.aload_n 0, 1) := by decide +kernel
theorem dX5_set_23 : decode cX5_set 23 = .ok (.getfield 27, 3) := by decide +kernel
theorem dX5_set_26 : decode cX5_set 26 = .ok (.aload_n 0, 1) := by decide +kernel
theorem dX5_set_27 : decode cX5_set 27 = .ok (.getfield 10, 3) := by decide +kernel
theorem dX5_set_30 : decode cX5_set 30 = .ok (.invokevirtual 53, 3) := by decide +kernel
theorem dX5_set_33 : decode cX5_set 33 = .ok (.aload_n 0, 1) := by decide +kernel
theorem dX5_set_34 : decode cX5_set 34 = .ok (.getfield 10, 3) := by decide +kernel
theorem dX5_set_37 : decode cX5_set 37 = .ok (.getfield 109, 3) := by decide +kernel
theorem dX5_set_40 : decode cX5_set 40 = .ok (.iload_n 1, 1) := by decide +kernel
theorem dX5_set_41 : decode cX5_set 41 = .ok (.iaload, 1) := by decide +kernel
theorem dX5_set_42 : decode cX5_set 42 = .ok (.istore_n 3, 1) := by decide +kernel
theorem dX5_set_43 : decode cX5_set 43 = .ok (.aload_n 0, 1) := by decide +kernel
theorem dX5_set_44 : decode cX5_set 44 = .ok (.getfield 10, 3) := by decide +kernel
theorem dX5_set_47 : decode cX5_set 47 = .ok (.getfield 109, 3) := by decide +kernel
theorem dX5_set_50 : decode cX5_set 50 = .ok (.iload_n 1, 1) := by decide +kernel
theorem dX5_set_51 : decode cX5_set 51 = .ok (.iload_n 2, 1) := by decide +kernel
theorem dX5_set_52 : decode cX5_set 52 = .ok (.iastore, 1) := by decide +kernel
theorem dX5_set_53 : decode cX5_set 53 = .ok (.iload_n 3, 1) := by decide +kernel
theorem dX5_set_54 : decode cX5_set 54 = .ok (.ireturn, 1) := by decide +kernel
theorem dX5_undo_0 : decode cX5_undo 0 = .ok (.aload_n 0, 1) := by decide +kernel
theorem dX5_undo_1 : decode cX5_undo 1 = .ok (.getfield 27, 3) := by decide +kernel
theorem dX5_undo_4 : decode cX5_undo 4 = .ok (.getfield 150, 3) := by decide +kernel
theorem dX5_undo_7 : decode cX5_undo 7 = .ok (.ifCond .ne 13, 3) := by decide +kernel
theorem dX5_undo_10 : decode cX5_undo 10 = .ok (.new 116, 3) := by decide +kernel
theorem dX5_undo_13 : decode cX5_undo 13 = .ok (.dup, 1) := by decide +kernel
theorem dX5_undo_14 : decode cX5_undo 14 = .ok (.ldc 151, 2) := by decide +kernel
theorem dX5_undo_16 : decode cX5_undo 16 = .ok (.invokespecial 120, 3) := by decide +kernel
theorem dX5_undo_19 : decode cX5_undo 19 = .ok (.athrow, 1) := by decide +kernel
theorem dX5_undo_20 : decode cX5_undo 20 = .ok (.aload_n 0, 1) := by decide +kernel
theorem dX5_undo_21 : decode cX5_undo 21 = .ok (.getfield 27, 3) := by decide +kernel
theorem dX5_undo_24 : decode cX5_undo 24 = .ok (.aload_n 0, 1) := by decide +kernel
theorem dX5_undo_25 : decode cX5_undo 25 = .ok (.getfield 10, 3) := by decide +kernel
theorem dX5_undo_28 : decode cX5_undo 28 = .ok (.invokevirtual 153, 3) := by decide +kernel
theorem dX5_undo_31 : decode cX5_undo 31 = .ok (.aload_n 0, 1) := by decide +kernel
theorem dX5_undo_32 : decode cX5_undo 32 = .ok (.getfield 27, 3) := by decide +kernel
theorem dX5_undo_35 : decode cX5_undo 35 = .ok (.getfield 150, 3) := by decide +kernel
theorem dX5_undo_38 : decode cX5_undo 38 = .ok (.ireturn, 1) := by decide +kernel
theorem dX5_parcelOf_0 : decode cX5_parcelOf 0 = .ok (.aload_n 0, 1) := by decide +kernel
theorem dX5_parcelOf_1 : decode cX5_parcelOf 1 = .ok (.iload_n 1, 1) := by decide +kernel
theorem dX5_parcelOf_2 : decode cX5_parcelOf 2 = .ok (.invokevirtual 61, 3) := by decide +kernel
theorem dX5_parcelOf_5 : decode cX5_parcelOf 5 = .ok (.iload_n 2, 1) := by decide +kernel
theorem dX5_parcelOf_6 : decode cX5_parcelOf 6 = .ok (.iconst 0, 1) := by decide +kernel
theorem dX5_parcelOf_7 : decode cX5_parcelOf 7 = .ok (.bipush 10, 2) := by decide +kernel
theorem dX5_parcelOf_9 : decode cX5_parcelOf 9 = .ok (.invokestatic 45, 3) := by decide +kernel
theorem dX5_parcelOf_12 : decode cX5_parcelOf 12 = .ok (.invokestatic 49, 3) := by decide +kernel
theorem dX5_parcelOf_15 : decode cX5_parcelOf 15 = .ok (.aload_n 0, 1) := by decide +kernel
theorem dX5_parcelOf_16 : decode cX5_parcelOf 16 = .ok (.getfield 10, 3) := by decide +kernel
theorem dX5_parcelOf_19 : decode cX5_parcelOf 19 = .ok (.aload_n 0, 1) := by decide +kernel
theorem dX5_parcelOf_20 : decode cX5_parcelOf 20 = .ok (.getfield 10, 3) := by decide +kernel
theorem dX5_parcelOf_23 : decode cX5_parcelOf 23 = .ok (.getfield 65, 3) := by decide +kernel
theorem dX5_parcelOf_26 : decode cX5_parcelOf 26 = .ok (.iload_n 1, 1) := by decide +kernel
theorem dX5_parcelOf_27 : decode cX5_parcelOf 27 = .ok (.aaload, 1) := by decide +kernel
theorem dX5_parcelOf_28 : decode cX5_parcelOf 28 = .ok (.iload_n 2, 1) := by decide +kernel
theorem dX5_parcelOf_29 : decode cX5_parcelOf 29 = .ok (.invokevirtual 156, 3) := by decide +kernel
theorem dX5_parcelOf_32 : decode cX5_parcelOf 32 = .ok (.ireturn, 1) := by decide +kernel
theorem dX5_rate_0 : decode cX5_rate 0 = .ok (.iload_n 1, 1) := by decide +kernel
theorem dX5_rate_1 : decode cX5_rate 1 = .ok (.iconst 1, 1) := by decide +kernel
theorem dX5_rate_2 : decode cX5_rate 2 = .ok (.sipush 999, 3) := by decide +kernel
theorem dX5_rate_5 : decode cX5_rate 5 = .ok (.invokestatic 45, 3) := by decide +kernel
theorem dX5_rate_8 : decode cX5_rate 8 = .ok (.ifCond .eq 16, 3) := by decide +kernel
theorem dX5_rate_11 : decode cX5_rate 11 = .ok (.iload_n 2, 1) := by decide +kernel
theorem dX5_rate_12 : decode cX5_rate 12 = .ok (.iconst 0, 1) := by decide +kernel
theorem dX5_rate_13 : decode cX5_rate 13 = .ok (.iconst 1, 1) := by decide +kernel
theorem dX5_rate_14 : decode cX5_rate 14 = .ok (.invokestatic 45, 3) := by decide +kernel
theorem dX5_rate_17 : decode cX5_rate 17 = .ok (.ifCond .eq 7, 3) := by decide +kernel
theorem dX5_rate_20 : decode cX5_rate 20 = .ok (.iconst 1, 1) := by decide +kernel
theorem dX5_rate_21 : decode cX5_rate 21 = .ok (.goto 4, 3) := by decide +kernel
theorem dX5_rate_24 : decode cX5_rate 24 = .ok (.iconst 0, 1) := by decide +kernel
theorem dX5_rate_25 : decode cX5_rate 25 = .ok (.invokestatic 49, 3) := by decide +kernel
theorem dX5_rate_28 : decode cX5_rate 28 = .ok (.iload_n 2, 1) := by decide +kernel
theorem dX5_rate_29 : decode cX5_rate 29 = .ok (.ifCond .ne 14, 3) := by decide +kernel
theorem dX5_rate_32 : decode cX5_rate 32 = .ok (.aload_n 0, 1) := by decide +kernel
theorem dX5_rate_33 : decode cX5_rate 33 = .ok (.getfield 10, 3) := by decide +kernel
theorem dX5_rate_36 : decode cX5_rate 36 = .ok (.iload_n 1, 1) := by decide +kernel
theorem dX5_rate_37 : decode cX5_rate 37 = .ok (.invokevirtual 160, 3) := by decide +kernel
theorem dX5_rate_40 : decode cX5_rate 40 = .ok (.goto 11, 3) := by decide +kernel
theorem dX5_rate_43 : decode cX5_rate 43 = .ok (.aload_n 0, 1) := by decide +kernel
theorem dX5_rate_44 : decode cX5_rate 44 = .ok (.getfield 10, 3) := by decide +kernel
theorem dX5_rate_47 : decode cX5_rate 47 = .ok (.iload_n 1, 1) := by decide +kernel
theorem dX5_rate_48 : decode cX5_rate 48 = .ok (.invokevirtual 163, 3) := by decide +kernel
theorem dX5_rate_51 : decode cX5_rate 51 = .ok (.ireturn, 1) := by decide +kernel
theorem dX5_count_0 : decode cX5_count 0 = .ok (.iload_n 1, 1) := by decide +kernel
theorem dX5_count_1 : decode cX5_count 1 = .ok (.iconst 0, 1) := by decide +kernel
theorem dX5_count_2 : decode cX5_count 2 = .ok (.bipush 9, 2) := by decide +kernel
theorem dX5_count_4 : decode cX5_count 4 = .ok (.invokestatic 45, 3) := by decide +kernel
theorem dX5_count_7 : decode cX5_count 7 = .ok (.invokestatic 49, 3) := by decide +kernel
theorem dX5_count_10 : decode cX5_count 10 = .ok (.iload_n 1, 1) := by decide +kernel
theorem dX5_count_11 : decode cX5_count 11 = .ok (.bipush 9, 2) := by decide +kernel
theorem dX5_count_13 : decode cX5_count 13 = .ok (.if_icmp .ne 13, 3) := by decide +kernel
theorem dX5_count_16 : decode cX5_count 16 = .ok (.aload_n 0, 1) := by decide +kernel
theorem dX5_count_17 : decode cX5_count 17 = .ok (.getfield 27, 3) := by decide +kernel
theorem dX5_count_20 : decode cX5_count 20 = .ok (.getfield 150, 3) := by decide +kernel
theorem dX5_count_23 : decode cX5_count 23 = .ok (.goto 11, 3) := by decide +kernel
theorem dX5_count_26 : decode cX5_count 26 = .ok (.aload_n 0, 1) := by decide +kernel
theorem dX5_count_27 : decode cX5_count 27 = .ok (.getfield 10, 3) := by decide +kernel
theorem dX5_count_30 : decode cX5_count 30 = .ok (.iload_n 1, 1) := by decide +kernel
theorem dX5_count_31 : decode cX5_count 31 = .ok (.invokevirtual 166, 3) := by decide +kernel
theorem dX5_count_34 : decode cX5_count 34 = .ok (.ireturn, 1) := by decide +kernel
theorem dX5_setting_0 : decode cX5_setting 0 = .ok (.iload_n 1, 1) := by decide +kernel
theorem dX5_setting_1 : decode cX5_setting 1 = .ok (.iconst 4, 1) := by decide +kernel
theorem dX5_setting_2 : decode cX5_setting 2 = .ok (.invokestatic 92, 3) := by decide +kernel
theorem dX5_setting_5 : decode cX5_setting 5 = .ok (.aload_n 0, 1) := by decide +kernel
theorem dX5_setting_6 : decode cX5_setting 6 = .ok (.getfield 10, 3) := by decide +kernel
theorem dX5_setting_9 : decode cX5_setting 9 = .ok (.getfield 109, 3) := by decide +kernel
theorem dX5_setting_12 : decode cX5_setting 12 = .ok (.iload_n 1, 1) := by decide +kernel
theorem dX5_setting_13 : decode cX5_setting 13 = .ok (.iaload, 1) := by decide +kernel
theorem dX5_setting_14 : decode cX5_setting 14 = .ok (.ireturn, 1) := by decide +kernel
theorem dX5_cheapestWay_0 : decode cX5_cheapestWay 0 = .ok (.aload_n 0, 1) := by decide +kernel
theorem dX5_cheapestWay_1 : decode cX5_cheapestWay 1 = .ok (.iload_n 1, 1) := by decide +kernel
theorem dX5_cheapestWay_2 : decode cX5_cheapestWay 2 = .ok (.invokevirtual 61, 3) := by decide +kernel
theorem dX5_cheapestWay_5 : decode cX5_cheapestWay 5 = .ok (.aload_n 0, 1) := by decide +kernel
theorem dX5_cheapestWay_6 : decode cX5_cheapestWay 6 = .ok (.getfield 10, 3) := by decide +kernel
theorem dX5_cheapestWay_9 : decode cX5_cheapestWay 9 = .ok (.aload_n 0, 1) := by decide +kernel
theorem dX5_cheapestWay_10 : decode cX5_cheapestWay 10 = .ok (.getfield 10, 3) := by decide +kernel
theorem dX5_cheapestWay_13 : decode cX5_cheapestWay 13 = .ok (.getfield 65, 3) := by decide +kernel
theorem dX5_cheapestWay_16 : decode cX5_cheapestWay 16 = .ok (.iload_n 1, 1) := by decide +kernel
theorem dX5_cheapestWay_17 : decode cX5_cheapestWay 17 = .ok (.aaload, 1) := by decide +kernel
theorem dX5_cheapestWay_18 : decode cX5_cheapestWay 18 = .ok (.invokevirtual 169, 3) := by decide +kernel
theorem dX5_cheapestWay_21 : decode cX5_cheapestWay 21 = .ok (.ireturn, 1) := by decide +kernel
theorem dX5_ifBundled_0 : decode cX5_ifBundled 0 = .ok (.aload_n 0, 1) := by decide +kernel
theorem dX5_ifBundled_1 : decode cX5_ifBundled 1 = .ok (.iload_n 1, 1) := by decide +kernel
theorem dX5_ifBundled_2 : decode cX5_ifBundled 2 = .ok (.invokevirtual 61, 3) := by decide +kernel
theorem dX5_ifBundled_5 : decode cX5_ifBundled 5 = .ok (.aload_n 0, 1) := by decide +kernel
theorem dX5_ifBundled_6 : decode cX5_ifBundled 6 = .ok (.iload_n 2, 1) := by decide +kernel
theorem dX5_ifBundled_7 : decode cX5_ifBundled 7 = .ok (.invokevirtual 61, 3) := by decide +kernel
theorem dX5_ifBundled_10 : decode cX5_ifBundled 10 = .ok (.iload_n 1, 1) := by decide +kernel
theorem dX5_ifBundled_11 : decode cX5_ifBundled 11 = .ok (.iload_n 2, 1) := by decide +kernel
theorem dX5_ifBundled_12 : decode cX5_ifBundled 12 = .ok (.if_icmp .eq 7, 3) := by decide +kernel
theorem dX5_ifBundled_15 : decode cX5_ifBundled 15 = .ok (.iconst 1, 1) := by decide +kernel
theorem dX5_ifBundled_16 : decode cX5_ifBundled 16 = .ok (.goto 4, 3) := by decide +kernel
theorem dX5_ifBundled_19 : decode cX5_ifBundled 19 = .ok (.iconst 0, 1) := by decide +kernel
theorem dX5_ifBundled_20 : decode cX5_ifBundled 20 = .ok (.invokestatic 49, 3) := by decide +kernel
theorem dX5_ifBundled_23 : decode cX5_ifBundled 23 = .ok (.aload_n 0, 1) := by decide +kernel
theorem dX5_ifBundled_24 : decode cX5_ifBundled 24 = .ok (.getfield 41, 3) := by decide +kernel
theorem dX5_ifBundled_27 : decode cX5_ifBundled 27 = .ok (.aload_n 0, 1) := by decide +kernel
theorem dX5_ifBundled_28 : decode cX5_ifBundled 28 = .ok (.getfield 10, 3) := by decide +kernel
theorem dX5_ifBundled_31 : decode cX5_ifBundled 31 = .ok (.aload_n 0, 1) := by decide +kernel
theorem dX5_ifBundled_32 : decode cX5_ifBundled 32 = .ok (.getfield 10, 3) := by decide +kernel
theorem dX5_ifBundled_35 : decode cX5_ifBundled 35 = .ok (.getfield 65, 3) := by decide +kernel
theorem dX5_ifBundled_38 : decode cX5_ifBundled 38 = .ok (.iload_n 1, 1) := by decide +kernel
theorem dX5_ifBundled_39 : decode cX5_ifBundled 39 = .ok (.aaload, 1) := by decide +kernel
theorem dX5_ifBundled_40 : decode cX5_ifBundled 40 = .ok (.aload_n 0, 1) := by decide +kernel
theorem dX5_ifBundled_41 : decode cX5_ifBundled 41 = .ok (.getfield 10, 3) := by decide +kernel
theorem dX5_ifBundled_44 : decode cX5_ifBundled 44 = .ok (.getfield 65, 3) := by decide +kernel
theorem dX5_ifBundled_47 : decode cX5_ifBundled 47 = .ok (.iload_n 2, 1) := by decide +kernel
theorem dX5_ifBundled_48 : decode cX5_ifBundled 48 = .ok (.aaload, 1) := by decide +kernel
theorem dX5_ifBundled_49 : decode cX5_ifBundled 49 = .ok (.invokevirtual 173, 3) := by decide +kernel
theorem dX5_ifBundled_52 : decode cX5_ifBundled 52 = .ok (.ireturn, 1) := by decide +kernel
theorem dX5_cheapest_0 : decode cX5_cheapest 0 = .ok (.iload_n 1, 1) := by decide +kernel
theorem dX5_cheapest_1 : decode cX5_cheapest 1 = .ok (.iconst 0, 1) := by decide +kernel
theorem dX5_cheapest_2 : decode cX5_cheapest 2 = .ok (.iconst 1, 1) := by decide +kernel
theorem dX5_cheapest_3 : decode cX5_cheapest 3 = .ok (.invokestatic 45, 3) := by decide +kernel
theorem dX5_cheapest_6 : decode cX5_cheapest 6 = .ok (.invokestatic 49, 3) := by decide +kernel
theorem dX5_cheapest_9 : decode cX5_cheapest 9 = .ok (.aload_n 0, 1) := by decide +kernel
theorem dX5_cheapest_10 : decode cX5_cheapest 10 = .ok (.getfield 41, 3) := by decide +kernel
theorem dX5_cheapest_13 : decode cX5_cheapest 13 = .ok (.aload_n 0, 1) := by decide +kernel
theorem dX5_cheapest_14 : decode cX5_cheapest 14 = .ok (.getfield 10, 3) := by decide +kernel
theorem dX5_cheapest_17 : decode cX5_cheapest 17 = .ok (.invokevirtual 177, 3) := by decide +kernel
theorem dX5_cheapest_20 : decode cX5_cheapest 20 = .ok (.iload_n 1, 1) := by decide +kernel
theorem dX5_cheapest_21 : decode cX5_cheapest 21 = .ok (.ifCond .ne 13, 3) := by decide +kernel
theorem dX5_cheapest_24 : decode cX5_cheapest 24 = .ok (.aload_n 0, 1) := by decide +kernel
theorem dX5_cheapest_25 : decode cX5_cheapest 25 = .ok (.getfield 41, 3) := by decide +kernel
theorem dX5_cheapest_28 : decode cX5_cheapest 28 = .ok (.invokevirtual 180, 3) := by decide +kernel
theorem dX5_cheapest_31 : decode cX5_cheapest 31 = .ok (.goto 10, 3) := by decide +kernel
theorem dX5_cheapest_34 : decode cX5_cheapest 34 = .ok (.aload_n 0, 1) := by decide +kernel
theorem dX5_cheapest_35 : decode cX5_cheapest 35 = .ok (.getfield 41, 3) := by decide +kernel
theorem dX5_cheapest_38 : decode cX5_cheapest 38 = .ok (.invokevirtual 183, 3) := by decide +kernel
theorem dX5_cheapest_41 : decode cX5_cheapest 41 = .ok (.ireturn, 1) := by decide +kernel
theorem dX5_dearest_0 : decode cX5_dearest 0 = .ok (.aload_n 0, 1) := by decide +kernel
theorem dX5_dearest_1 : decode cX5_dearest 1 = .ok (.getfield 10, 3) := by decide +kernel
theorem dX5_dearest_4 : decode cX5_dearest 4 = .ok (.invokevirtual 186, 3) := by decide +kernel
theorem dX5_dearest_7 : decode cX5_dearest 7 = .ok (.ireturn, 1) := by decide +kernel
theorem dX5_savedShare_0 : decode cX5_savedShare 0 = .ok (.aload_n 0, 1) := by decide +kernel
theorem dX5_savedShare_1 : decode cX5_savedShare 1 = .ok (.getfield 41, 3) := by decide +kernel
theorem dX5_savedShare_4 : decode cX5_savedShare 4 = .ok (.aload_n 0, 1) := by decide +kernel
theorem dX5_savedShare_5 : decode cX5_savedShare 5 = .ok (.getfield 10, 3) := by decide +kernel
theorem dX5_savedShare_8 : decode cX5_savedShare 8 = .ok (.invokevirtual 177, 3) := by decide +kernel
theorem dX5_savedShare_11 : decode cX5_savedShare 11 = .ok (.aload_n 0, 1) := by decide +kernel
theorem dX5_savedShare_12 : decode cX5_savedShare 12 = .ok (.getfield 41, 3) := by decide +kernel
theorem dX5_savedShare_15 : decode cX5_savedShare 15 = .ok (.invokevirtual 189, 3) := by decide +kernel
theorem dX5_savedShare_18 : decode cX5_savedShare 18 = .ok (.istore_n 1, 1) := by decide +kernel
theorem dX5_savedShare_19 : decode cX5_savedShare 19 = .ok (.iload_n 1, 1) := by decide +kernel
theorem dX5_savedShare_20 : decode cX5_savedShare 20 = .ok (.ifCond .ne 5, 3) := by decide +kernel
theorem dX5_savedShare_23 : decode cX5_savedShare 23 = .ok (.dconst 0, 1) := by decide +kernel
theorem dX5_savedShare_24 : decode cX5_savedShare 24 = .ok (.dreturn, 1) := by decide +kernel
theorem dX5_savedShare_25 : decode cX5_savedShare 25 = .ok (.iload_n 1, 1) := by decide +kernel
theorem dX5_savedShare_26 : decode cX5_savedShare 26 = .ok (.aload_n 0, 1) := by decide +kernel
theorem dX5_savedShare_27 : decode cX5_savedShare 27 = .ok (.getfield 41, 3) := by decide +kernel
theorem dX5_savedShare_30 : decode cX5_savedShare 30 = .ok (.invokevirtual 180, 3) := by decide +kernel
theorem dX5_savedShare_33 : decode cX5_savedShare 33 = .ok (.isub, 1) := by decide +kernel
theorem dX5_savedShare_34 : decode cX5_savedShare 34 = .ok (.i2d, 1) := by decide +kernel
theorem dX5_savedShare_35 : decode cX5_savedShare 35 = .ok (.iload_n 1, 1) := by decide +kernel
theorem dX5_savedShare_36 : decode cX5_savedShare 36 = .ok (.i2d, 1) := by decide +kernel
theorem dX5_savedShare_37 : decode cX5_savedShare 37 = .ok (.ddiv, 1) := by decide +kernel
theorem dX5_savedShare_38 : decode cX5_savedShare 38 = .ok (.dreturn, 1) := by decide +kernel
theorem dX5_isIn_0 : decode cX5_isIn 0 = .ok (.iload_n 0, 1) := by decide +kernel
theorem dX5_isIn_1 : decode cX5_isIn 1 = .ok (.iload_n 1, 1) := by decide +kernel
theorem dX5_isIn_2 : decode cX5_isIn 2 = .ok (.if_icmp .lt 12, 3) := by decide +kernel
theorem dX5_isIn_5 : decode cX5_isIn 5 = .ok (.iload_n 0, 1) := by decide +kernel
theorem dX5_isIn_6 : decode cX5_isIn 6 = .ok (.iload_n 2, 1) := by decide +kernel
theorem dX5_isIn_7 : decode cX5_isIn 7 = .ok (.if_icmp .gt 7, 3) := by decide +kernel
theorem dX5_isIn_10 : decode cX5_isIn 10 = .ok (.iconst 1, 1) := by decide +kernel
theorem dX5_isIn_11 : decode cX5_isIn 11 = .ok (.goto 4, 3) := by decide +kernel
theorem dX5_isIn_14 : decode cX5_isIn 14 = .ok (.iconst 0, 1) := by decide +kernel
theorem dX5_isIn_15 : decode cX5_isIn 15 = .ok (.ireturn, 1) := by decide +kernel
theorem dX5_requireArgument_0 : decode cX5_requireArgument 0 = .ok (.iload_n 0, 1) := by decide +kernel
theorem dX5_requireArgument_1 : decode cX5_requireArgument 1 = .ok (.ifCond .ne 13, 3) := by decide +kernel
theorem dX5_requireArgument_4 : decode cX5_requireArgument 4 = .ok (.new 229, 3) := by decide +kernel
theorem dX5_requireArgument_7 : decode cX5_requireArgument 7 = .ok (.dup, 1) := by decide +kernel
theorem dX5_requireArgument_8 : decode cX5_requireArgument 8 = .ok (.ldc 231, 2) := by decide +kernel
theorem dX5_requireArgument_10 : decode cX5_requireArgument 10 = .ok (.invokespecial 233, 3) := by decide +kernel
theorem dX5_requireArgument_13 : decode cX5_requireArgument 13 = .ok (.athrow, 1) := by decide +kernel
theorem dX5_requireArgument_14 : decode cX5_requireArgument 14 = .ok (.return_, 1) := by decide +kernel
theorem dX5_requireIndex_0 : decode cX5_requireIndex 0 = .ok (.iload_n 0, 1) := by decide +kernel
theorem dX5_requireIndex_1 : decode cX5_requireIndex 1 = .ok (.ifCond .lt 8, 3) := by decide +kernel
theorem dX5_requireIndex_4 : decode cX5_requireIndex 4 = .ok (.iload_n 0, 1) := by decide +kernel
theorem dX5_requireIndex_5 : decode cX5_requireIndex 5 = .ok (.iload_n 1, 1) := by decide +kernel
theorem dX5_requireIndex_6 : decode cX5_requireIndex 6 = .ok (.if_icmp .lt 13, 3) := by decide +kernel
theorem dX5_requireIndex_9 : decode cX5_requireIndex 9 = .ok (.new 234, 3) := by decide +kernel
theorem dX5_requireIndex_12 : decode cX5_requireIndex 12 = .ok (.dup, 1) := by decide +kernel
theorem dX5_requireIndex_13 : decode cX5_requireIndex 13 = .ok (.ldc 236, 2) := by decide +kernel
theorem dX5_requireIndex_15 : decode cX5_requireIndex 15 = .ok (.invokespecial 238, 3) := by decide +kernel
theorem dX5_requireIndex_18 : decode cX5_requireIndex 18 = .ok (.athrow, 1) := by decide +kernel
theorem dX5_requireIndex_19 : decode cX5_requireIndex 19 = .ok (.return_, 1) := by decide +kernel
theorem dX5_requireParcel_0 : decode cX5_requireParcel 0 = .ok (.iload_n 1, 1) := by decide +kernel
theorem dX5_requireParcel_1 : decode cX5_requireParcel 1 = .ok (.aload_n 0, 1) := by decide +kernel
theorem dX5_requireParcel_2 : decode cX5_requireParcel 2 = .ok (.getfield 10, 3) := by decide +kernel
theorem dX5_requireParcel_5 : decode cX5_requireParcel 5 = .ok (.getfield 88, 3) := by decide +kernel
theorem dX5_requireParcel_8 : decode cX5_requireParcel 8 = .ok (.invokestatic 92, 3) := by decide +kernel
theorem dX5_requireParcel_11 : decode cX5_requireParcel 11 = .ok (.return_, 1) := by decide +kernel
theorem dJ9_abs_0f7a4_0 : decode cJ9_abs_0f7a4 0 = .ok (.iload_n 0, 1) := by decide +kernel
theorem dJ9_abs_0f7a4_1 : decode cJ9_abs_0f7a4 1 = .ok (.ifCond .ge 8, 3) := by decide +kernel
theorem dJ9_abs_0f7a4_4 : decode cJ9_abs_0f7a4 4 = .ok (.iload_n 0, 1) := by decide +kernel
theorem dJ9_abs_0f7a4_5 : decode cJ9_abs_0f7a4 5 = .ok (.ineg, 1) := by decide +kernel
theorem dJ9_abs_0f7a4_6 : decode cJ9_abs_0f7a4 6 = .ok (.goto 4, 3) := by decide +kernel
theorem dJ9_abs_0f7a4_9 : decode cJ9_abs_0f7a4 9 = .ok (.iload_n 0, 1) := by decide +kernel
theorem dJ9_abs_0f7a4_10 : decode cJ9_abs_0f7a4 10 = .ok (.ireturn, 1) := by decide +kernel
theorem dJ9_max_7cf53_0 : decode cJ9_max_7cf53 0 = .ok (.iload_n 0, 1) := by decide +kernel
theorem dJ9_max_7cf53_1 : decode cJ9_max_7cf53 1 = .ok (.iload_n 1, 1) := by decide +kernel
theorem dJ9_max_7cf53_2 : decode cJ9_max_7cf53 2 = .ok (.if_icmp .lt 7, 3) := by decide +kernel
theorem dJ9_max_7cf53_5 : decode cJ9_max_7cf53 5 = .ok (.iload_n 0, 1) := by decide +kernel
theorem dJ9_max_7cf53_6 : decode cJ9_max_7cf53 6 = .ok (.goto 4, 3) := by decide +kernel
theorem dJ9_max_7cf53_9 : decode cJ9_max_7cf53 9 = .ok (.iload_n 1, 1) := by decide +kernel
theorem dJ9_max_7cf53_10 : decode cJ9_max_7cf53 10 = .ok (.ireturn, 1) := by decide +kernel
theorem dJ9_min_7cf53_0 : decode cJ9_min_7cf53 0 = .ok (.iload_n 0, 1) := by decide +kernel
theorem dJ9_min_7cf53_1 : decode cJ9_min_7cf53 1 = .ok (.iload_n 1, 1) := by decide +kernel
theorem dJ9_min_7cf53_2 : decode cJ9_min_7cf53 2 = .ok (.if_icmp .gt 7, 3) := by decide +kernel
theorem dJ9_min_7cf53_5 : decode cJ9_min_7cf53 5 = .ok (.iload_n 0, 1) := by decide +kernel
theorem dJ9_min_7cf53_6 : decode cJ9_min_7cf53 6 = .ok (.goto 4, 3) := by decide +kernel
theorem dJ9_min_7cf53_9 : decode cJ9_min_7cf53 9 = .ok (.iload_n 1, 1) := by decide +kernel
theorem dJ9_min_7cf53_10 : decode cJ9_min_7cf53 10 = .ok (.ireturn, 1) := by decide +kernel
theorem dL_at_0 : decode cL_at 0 = .ok (.iload_n 1, 1) := by decide +kernel
theorem dL_at_1 : decode cL_at 1 = .ok (.aload_n 0, 1) := by decide +kernel
theorem dL_at_2 : decode cL_at 2 = .ok (.arraylength, 1) := by decide +kernel
theorem dL_at_3 : decode cL_at 3 = .ok (.if_icmp .ge 9, 3) := by decide +kernel
theorem dL_at_6 : decode cL_at 6 = .ok (.aload_n 0, 1) := by decide +kernel
theorem dL_at_7 : decode cL_at 7 = .ok (.iload_n 1, 1) := by decide +kernel
theorem dL_at_8 : decode cL_at 8 = .ok (.iaload, 1) := by decide +kernel
theorem dL_at_9 : decode cL_at 9 = .ok (.goto 12, 3) := by decide +kernel
theorem dL_at_12 : decode cL_at 12 = .ok (.ldc 7, 2) := by decide +kernel
theorem dL_at_14 : decode cL_at 14 = .ok (.iload_n 1, 1) := by decide +kernel
theorem dL_at_15 : decode cL_at 15 = .ok (.iconst 1, 1) := by decide +kernel
theorem dL_at_16 : decode cL_at 16 = .ok (.iadd, 1) := by decide +kernel
theorem dL_at_17 : decode cL_at 17 = .ok (.imul, 1) := by decide +kernel
theorem dL_at_18 : decode cL_at 18 = .ok (.ldc 8, 2) := by decide +kernel
theorem dL_at_20 : decode cL_at 20 = .ok (.iadd, 1) := by decide +kernel
theorem dL_at_21 : decode cL_at 21 = .ok (.ireturn, 1) := by decide +kernel
theorem dL_low_0 : decode cL_low 0 = .ok (.iload_n 0, 1) := by decide +kernel
theorem dL_low_1 : decode cL_low 1 = .ok (.ldc 9, 2) := by decide +kernel
theorem dL_low_3 : decode cL_low 3 = .ok (.iand, 1) := by decide +kernel
theorem dL_low_4 : decode cL_low 4 = .ok (.iload_n 1, 1) := by decide +kernel
theorem dL_low_5 : decode cL_low 5 = .ok (.irem, 1) := by decide +kernel
theorem dL_low_6 : decode cL_low 6 = .ok (.ireturn, 1) := by decide +kernel
theorem dL_bring_0 : decode cL_bring 0 = .ok (.aload_n 0, 1) := by decide +kernel
theorem dL_bring_1 : decode cL_bring 1 = .ok (.iload_n 1, 1) := by decide +kernel
theorem dL_bring_2 : decode cL_bring 2 = .ok (.iload_n 2, 1) := by decide +kernel
theorem dL_bring_3 : decode cL_bring 3 = .ok (.iload_n 3, 1) := by decide +kernel
theorem dL_bring_4 : decode cL_bring 4 = .ok (.iload 4, 2) := by decide +kernel
theorem dL_bring_6 : decode cL_bring 6 = .ok (.iload 5, 2) := by decide +kernel
theorem dL_bring_8 : decode cL_bring 8 = .ok (.invokevirtual 10, 3) := by decide +kernel
theorem dL_bring_11 : decode cL_bring 11 = .ok (.ireturn, 1) := by decide +kernel
theorem dL_bring_12 : decode cL_bring 12 = .ok (.astore 6, 2) := by decide +kernel
theorem dL_bring_14 : decode cL_bring 14 = .ok (.ldc 18, 2) := by decide +kernel
theorem dL_bring_16 : decode cL_bring 16 = .ok (.ireturn, 1) := by decide +kernel
theorem dL_change_0 : decode cL_change 0 = .ok (.aload_n 0, 1) := by decide +kernel
theorem dL_change_1 : decode cL_change 1 = .ok (.iload_n 1, 1) := by decide +kernel
theorem dL_change_2 : decode cL_change 2 = .ok (.iload_n 2, 1) := by decide +kernel
theorem dL_change_3 : decode cL_change 3 = .ok (.iload_n 3, 1) := by decide +kernel
theorem dL_change_4 : decode cL_change 4 = .ok (.invokevirtual 19, 3) := by decide +kernel
theorem dL_change_7 : decode cL_change 7 = .ok (.ireturn, 1) := by decide +kernel
theorem dL_change_8 : decode cL_change 8 = .ok (.astore 4, 2) := by decide +kernel
theorem dL_change_10 : decode cL_change 10 = .ok (.ldc 18, 2) := by decide +kernel
theorem dL_change_12 : decode cL_change 12 = .ok (.ireturn, 1) := by decide +kernel
theorem dL_change_13 : decode cL_change 13 = .ok (.astore 4, 2) := by decide +kernel
theorem dL_change_15 : decode cL_change 15 = .ok (.ldc 25, 2) := by decide +kernel
theorem dL_change_17 : decode cL_change 17 = .ok (.ireturn, 1) := by decide +kernel
theorem dL_send_0 : decode cL_send 0 = .ok (.aload_n 0, 1) := by decide +kernel
theorem dL_send_1 : decode cL_send 1 = .ok (.iload_n 1, 1) := by decide +kernel
theorem dL_send_2 : decode cL_send 2 = .ok (.invokevirtual 26, 3) := by decide +kernel
theorem dL_send_5 : decode cL_send 5 = .ok (.ireturn, 1) := by decide +kernel
theorem dL_send_6 : decode cL_send 6 = .ok (.astore_n 2, 1) := by decide +kernel
theorem dL_send_7 : decode cL_send 7 = .ok (.ldc 18, 2) := by decide +kernel
theorem dL_send_9 : decode cL_send 9 = .ok (.ireturn, 1) := by decide +kernel
theorem dL_dispute_0 : decode cL_dispute 0 = .ok (.aload_n 0, 1) := by decide +kernel
theorem dL_dispute_1 : decode cL_dispute 1 = .ok (.iload_n 1, 1) := by decide +kernel
theorem dL_dispute_2 : decode cL_dispute 2 = .ok (.iload_n 2, 1) := by decide +kernel
theorem dL_dispute_3 : decode cL_dispute 3 = .ok (.invokevirtual 30, 3) := by decide +kernel
theorem dL_dispute_6 : decode cL_dispute 6 = .ok (.ireturn, 1) := by decide +kernel
theorem dL_dispute_7 : decode cL_dispute 7 = .ok (.astore_n 3, 1) := by decide +kernel
theorem dL_dispute_8 : decode cL_dispute 8 = .ok (.ldc 18, 2) := by decide +kernel
theorem dL_dispute_10 : decode cL_dispute 10 = .ok (.ireturn, 1) := by decide +kernel
theorem dL_dispute_11 : decode cL_dispute 11 = .ok (.astore_n 3, 1) := by decide +kernel
theorem dL_dispute_12 : decode cL_dispute 12 = .ok (.ldc 25, 2) := by decide +kernel
theorem dL_dispute_14 : decode cL_dispute 14 = .ok (.ireturn, 1) := by decide +kernel
theorem dL_takeBack_0 : decode cL_takeBack 0 = .ok (.aload_n 0, 1) := by decide +kernel
theorem dL_takeBack_1 : decode cL_takeBack 1 = .ok (.iload_n 1, 1) := by decide +kernel
theorem dL_takeBack_2 : decode cL_takeBack 2 = .ok (.invokevirtual 34, 3) := by decide +kernel
theorem dL_takeBack_5 : decode cL_takeBack 5 = .ok (.ireturn, 1) := by decide +kernel
theorem dL_takeBack_6 : decode cL_takeBack 6 = .ok (.astore_n 2, 1) := by decide +kernel
theorem dL_takeBack_7 : decode cL_takeBack 7 = .ok (.ldc 18, 2) := by decide +kernel
theorem dL_takeBack_9 : decode cL_takeBack 9 = .ok (.ireturn, 1) := by decide +kernel
theorem dL_price_0 : decode cL_price 0 = .ok (.aload_n 0, 1) := by decide +kernel
theorem dL_price_1 : decode cL_price 1 = .ok (.iload_n 1, 1) := by decide +kernel
theorem dL_price_2 : decode cL_price 2 = .ok (.iload_n 2, 1) := by decide +kernel
theorem dL_price_3 : decode cL_price 3 = .ok (.invokevirtual 37, 3) := by decide +kernel
theorem dL_price_6 : decode cL_price 6 = .ok (.ireturn, 1) := by decide +kernel
theorem dL_price_7 : decode cL_price 7 = .ok (.astore_n 3, 1) := by decide +kernel
theorem dL_price_8 : decode cL_price 8 = .ok (.ldc 18, 2) := by decide +kernel
theorem dL_price_10 : decode cL_price 10 = .ok (.ireturn, 1) := by decide +kernel
theorem dL_price_11 : decode cL_price 11 = .ok (.astore_n 3, 1) := by decide +kernel
theorem dL_price_12 : decode cL_price 12 = .ok (.ldc 25, 2) := by decide +kernel
theorem dL_price_14 : decode cL_price 14 = .ok (.ireturn, 1) := by decide +kernel
theorem dL_zone_0 : decode cL_zone 0 = .ok (.aload_n 0, 1) := by decide +kernel
theorem dL_zone_1 : decode cL_zone 1 = .ok (.iload_n 1, 1) := by decide +kernel
theorem dL_zone_2 : decode cL_zone 2 = .ok (.iload_n 2, 1) := by decide +kernel
theorem dL_zone_3 : decode cL_zone 3 = .ok (.invokevirtual 40, 3) := by decide +kernel
theorem dL_zone_6 : decode cL_zone 6 = .ok (.ireturn, 1) := by decide +kernel
theorem dL_zone_7 : decode cL_zone 7 = .ok (.astore_n 3, 1) := by decide +kernel
theorem dL_zone_8 : decode cL_zone 8 = .ok (.ldc 18, 2) := by decide +kernel
theorem dL_zone_10 : decode cL_zone 10 = .ok (.ireturn, 1) := by decide +kernel
theorem dL_zone_11 : decode cL_zone 11 = .ok (.astore_n 3, 1) := by decide +kernel
theorem dL_zone_12 : decode cL_zone 12 = .ok (.ldc 25, 2) := by decide +kernel
theorem dL_zone_14 : decode cL_zone 14 = .ok (.ireturn, 1) := by decide +kernel
theorem dL_set_0 : decode cL_set 0 = .ok (.aload_n 0, 1) := by decide +kernel
theorem dL_set_1 : decode cL_set 1 = .ok (.iload_n 1, 1) := by decide +kernel
theorem dL_set_2 : decode cL_set 2 = .ok (.iload_n 2, 1) := by decide +kernel
theorem dL_set_3 : decode cL_set 3 = .ok (.invokevirtual 43, 3) := by decide +kernel
theorem dL_set_6 : decode cL_set 6 = .ok (.ireturn, 1) := by decide +kernel
theorem dL_set_7 : decode cL_set 7 = .ok (.astore_n 3, 1) := by decide +kernel
theorem dL_set_8 : decode cL_set 8 = .ok (.ldc 18, 2) := by decide +kernel
theorem dL_set_10 : decode cL_set 10 = .ok (.ireturn, 1) := by decide +kernel
theorem dL_set_11 : decode cL_set 11 = .ok (.astore_n 3, 1) := by decide +kernel
theorem dL_set_12 : decode cL_set 12 = .ok (.ldc 25, 2) := by decide +kernel
theorem dL_set_14 : decode cL_set 14 = .ok (.ireturn, 1) := by decide +kernel
theorem dL_undo_0 : decode cL_undo 0 = .ok (.aload_n 0, 1) := by decide +kernel
theorem dL_undo_1 : decode cL_undo 1 = .ok (.invokevirtual 46, 3) := by decide +kernel
theorem dL_undo_4 : decode cL_undo 4 = .ok (.ireturn, 1) := by decide +kernel
theorem dL_undo_5 : decode cL_undo 5 = .ok (.astore_n 1, 1) := by decide +kernel
theorem dL_undo_6 : decode cL_undo 6 = .ok (.ldc 18, 2) := by decide +kernel
theorem dL_undo_8 : decode cL_undo 8 = .ok (.ireturn, 1) := by decide +kernel
theorem dL_parcelOf_0 : decode cL_parcelOf 0 = .ok (.aload_n 0, 1) := by decide +kernel
theorem dL_parcelOf_1 : decode cL_parcelOf 1 = .ok (.iload_n 1, 1) := by decide +kernel
theorem dL_parcelOf_2 : decode cL_parcelOf 2 = .ok (.iload_n 2, 1) := by decide +kernel
theorem dL_parcelOf_3 : decode cL_parcelOf 3 = .ok (.invokevirtual 52, 3) := by decide +kernel
theorem dL_parcelOf_6 : decode cL_parcelOf 6 = .ok (.ireturn, 1) := by decide +kernel
theorem dL_parcelOf_7 : decode cL_parcelOf 7 = .ok (.astore_n 3, 1) := by decide +kernel
theorem dL_parcelOf_8 : decode cL_parcelOf 8 = .ok (.ldc 18, 2) := by decide +kernel
theorem dL_parcelOf_10 : decode cL_parcelOf 10 = .ok (.ireturn, 1) := by decide +kernel
theorem dL_parcelOf_11 : decode cL_parcelOf 11 = .ok (.astore_n 3, 1) := by decide +kernel
theorem dL_parcelOf_12 : decode cL_parcelOf 12 = .ok (.ldc 25, 2) := by decide +kernel
theorem dL_parcelOf_14 : decode cL_parcelOf 14 = .ok (.ireturn, 1) := by decide +kernel
theorem dL_rate_0 : decode cL_rate 0 = .ok (.aload_n 0, 1) := by decide +kernel
theorem dL_rate_1 : decode cL_rate 1 = .ok (.iload_n 1, 1) := by decide +kernel
theorem dL_rate_2 : decode cL_rate 2 = .ok (.iload_n 2, 1) := by decide +kernel
theorem dL_rate_3 : decode cL_rate 3 = .ok (.invokevirtual 55, 3) := by decide +kernel
theorem dL_rate_6 : decode cL_rate 6 = .ok (.ireturn, 1) := by decide +kernel
theorem dL_rate_7 : decode cL_rate 7 = .ok (.astore_n 3, 1) := by decide +kernel
theorem dL_rate_8 : decode cL_rate 8 = .ok (.ldc 18, 2) := by decide +kernel
theorem dL_rate_10 : decode cL_rate 10 = .ok (.ireturn, 1) := by decide +kernel
theorem dL_count_0 : decode cL_count 0 = .ok (.aload_n 0, 1) := by decide +kernel
theorem dL_count_1 : decode cL_count 1 = .ok (.iload_n 1, 1) := by decide +kernel
theorem dL_count_2 : decode cL_count 2 = .ok (.invokevirtual 58, 3) := by decide +kernel
theorem dL_count_5 : decode cL_count 5 = .ok (.ireturn, 1) := by decide +kernel
theorem dL_count_6 : decode cL_count 6 = .ok (.astore_n 2, 1) := by decide +kernel
theorem dL_count_7 : decode cL_count 7 = .ok (.ldc 18, 2) := by decide +kernel
theorem dL_count_9 : decode cL_count 9 = .ok (.ireturn, 1) := by decide +kernel
theorem dL_setting_0 : decode cL_setting 0 = .ok (.aload_n 0, 1) := by decide +kernel
theorem dL_setting_1 : decode cL_setting 1 = .ok (.iload_n 1, 1) := by decide +kernel
theorem dL_setting_2 : decode cL_setting 2 = .ok (.invokevirtual 61, 3) := by decide +kernel
theorem dL_setting_5 : decode cL_setting 5 = .ok (.ireturn, 1) := by decide +kernel
theorem dL_setting_6 : decode cL_setting 6 = .ok (.astore_n 2, 1) := by decide +kernel
theorem dL_setting_7 : decode cL_setting 7 = .ok (.ldc 18, 2) := by decide +kernel
theorem dL_setting_9 : decode cL_setting 9 = .ok (.ireturn, 1) := by decide +kernel
theorem dL_cheapestWay_0 : decode cL_cheapestWay 0 = .ok (.aload_n 0, 1) := by decide +kernel
theorem dL_cheapestWay_1 : decode cL_cheapestWay 1 = .ok (.iload_n 1, 1) := by decide +kernel
theorem dL_cheapestWay_2 : decode cL_cheapestWay 2 = .ok (.invokevirtual 64, 3) := by decide +kernel
theorem dL_cheapestWay_5 : decode cL_cheapestWay 5 = .ok (.ireturn, 1) := by decide +kernel
theorem dL_cheapestWay_6 : decode cL_cheapestWay 6 = .ok (.astore_n 2, 1) := by decide +kernel
theorem dL_cheapestWay_7 : decode cL_cheapestWay 7 = .ok (.ldc 18, 2) := by decide +kernel
theorem dL_cheapestWay_9 : decode cL_cheapestWay 9 = .ok (.ireturn, 1) := by decide +kernel
theorem dL_ifBundled_0 : decode cL_ifBundled 0 = .ok (.aload_n 0, 1) := by decide +kernel
theorem dL_ifBundled_1 : decode cL_ifBundled 1 = .ok (.iload_n 1, 1) := by decide +kernel
theorem dL_ifBundled_2 : decode cL_ifBundled 2 = .ok (.iload_n 2, 1) := by decide +kernel
theorem dL_ifBundled_3 : decode cL_ifBundled 3 = .ok (.invokevirtual 67, 3) := by decide +kernel
theorem dL_ifBundled_6 : decode cL_ifBundled 6 = .ok (.ireturn, 1) := by decide +kernel
theorem dL_ifBundled_7 : decode cL_ifBundled 7 = .ok (.astore_n 3, 1) := by decide +kernel
theorem dL_ifBundled_8 : decode cL_ifBundled 8 = .ok (.ldc 18, 2) := by decide +kernel
theorem dL_ifBundled_10 : decode cL_ifBundled 10 = .ok (.ireturn, 1) := by decide +kernel
theorem dL_ifBundled_11 : decode cL_ifBundled 11 = .ok (.astore_n 3, 1) := by decide +kernel
theorem dL_ifBundled_12 : decode cL_ifBundled 12 = .ok (.ldc 25, 2) := by decide +kernel
theorem dL_ifBundled_14 : decode cL_ifBundled 14 = .ok (.ireturn, 1) := by decide +kernel
theorem dL_cheapest_0 : decode cL_cheapest 0 = .ok (.aload_n 0, 1) := by decide +kernel
theorem dL_cheapest_1 : decode cL_cheapest 1 = .ok (.iload_n 1, 1) := by decide +kernel
theorem dL_cheapest_2 : decode cL_cheapest 2 = .ok (.invokevirtual 70, 3) := by decide +kernel
theorem dL_cheapest_5 : decode cL_cheapest 5 = .ok (.ireturn, 1) := by decide +kernel
theorem dL_cheapest_6 : decode cL_cheapest 6 = .ok (.astore_n 2, 1) := by decide +kernel
theorem dL_cheapest_7 : decode cL_cheapest 7 = .ok (.ldc 18, 2) := by decide +kernel
theorem dL_cheapest_9 : decode cL_cheapest 9 = .ok (.ireturn, 1) := by decide +kernel
theorem dL_act_0 : decode cL_act 0 = .ok (.iload_n 1, 1) := by decide +kernel
theorem dL_act_1 : decode cL_act 1 = .ok (.iconst 4, 1) := by decide +kernel
theorem dL_act_2 : decode cL_act 2 = .ok (.ishr, 1) := by decide +kernel
theorem dL_act_3 : decode cL_act 3 = .ok (.bipush 6, 2) := by decide +kernel
theorem dL_act_5 : decode cL_act 5 = .ok (.invokestatic 73, 3) := by decide +kernel
theorem dL_act_8 : decode cL_act 8 = .ok (.istore_n 3, 1) := by decide +kernel
theorem dL_act_9 : decode cL_act 9 = .ok (.iload_n 1, 1) := by decide +kernel
theorem dL_act_10 : decode cL_act 10 = .ok (.bipush 14, 2) := by decide +kernel
theorem dL_act_12 : decode cL_act 12 = .ok (.invokestatic 73, 3) := by decide +kernel
theorem dL_act_15 : decode cL_act 15 = .ok (.tableswitch 221 0 11 #[61, 61, 61, 61, 130, 130, 142, 155, 161, 176, 182, 201], 61) := by decide +kernel
theorem dL_act_76 : decode cL_act 76 = .ok (.aload_n 0, 1) := by decide +kernel
theorem dL_act_77 : decode cL_act 77 = .ok (.iconst 1, 1) := by decide +kernel
theorem dL_act_78 : decode cL_act 78 = .ok (.iload_n 2, 1) := by decide +kernel
theorem dL_act_79 : decode cL_act 79 = .ok (.bipush 40, 2) := by decide +kernel
theorem dL_act_81 : decode cL_act 81 = .ok (.invokestatic 73, 3) := by decide +kernel
theorem dL_act_84 : decode cL_act 84 = .ok (.iadd, 1) := by decide +kernel
theorem dL_act_85 : decode cL_act 85 = .ok (.iconst 1, 1) := by decide +kernel
theorem dL_act_86 : decode cL_act 86 = .ok (.iload_n 2, 1) := by decide +kernel
theorem dL_act_87 : decode cL_act 87 = .ok (.iconst 4, 1) := by decide +kernel
theorem dL_act_88 : decode cL_act 88 = .ok (.ishr, 1) := by decide +kernel
theorem dL_act_89 : decode cL_act 89 = .ok (.bipush 40, 2) := by decide +kernel
theorem dL_act_91 : decode cL_act 91 = .ok (.invokestatic 73, 3) := by decide +kernel
theorem dL_act_94 : decode cL_act 94 = .ok (.iadd, 1) := by decide +kernel
theorem dL_act_95 : decode cL_act 95 = .ok (.iconst 1, 1) := by decide +kernel
theorem dL_act_96 : decode cL_act 96 = .ok (.iload_n 2, 1) := by decide +kernel
theorem dL_act_97 : decode cL_act 97 = .ok (.bipush 8, 2) := by decide +kernel
theorem dL_act_99 : decode cL_act 99 = .ok (.ishr, 1) := by decide +kernel
theorem dL_act_100 : decode cL_act 100 = .ok (.bipush 40, 2) := by decide +kernel
theorem dL_act_102 : decode cL_act 102 = .ok (.invokestatic 73, 3) := by decide +kernel
theorem dL_act_105 : decode cL_act 105 = .ok (.iadd, 1) := by decide +kernel
theorem dL_act_106 : decode cL_act 106 = .ok (.iconst 1, 1) := by decide +kernel
theorem dL_act_107 : decode cL_act 107 = .ok (.iload_n 1, 1) := by decide +kernel
theorem dL_act_108 : decode cL_act 108 = .ok (.bipush 6, 2) := by decide +kernel
theorem dL_act_110 : decode cL_act 110 = .ok (.ishr, 1) := by decide +kernel
theorem dL_act_111 : decode cL_act 111 = .ok (.iload_n 1, 1) := by decide +kernel
theorem dL_act_112 : decode cL_act 112 = .ok (.bipush 11, 2) := by decide +kernel
theorem dL_act_114 : decode cL_act 114 = .ok (.ishr, 1) := by decide +kernel
theorem dL_act_115 : decode cL_act 115 = .ok (.iconst 2, 1) := by decide +kernel
theorem dL_act_116 : decode cL_act 116 = .ok (.invokestatic 73, 3) := by decide +kernel
theorem dL_act_119 : decode cL_act 119 = .ok (.ifCond .ne 8, 3) := by decide +kernel
theorem dL_act_122 : decode cL_act 122 = .ok (.bipush 99, 2) := by decide +kernel
theorem dL_act_124 : decode cL_act 124 = .ok (.goto 5, 3) := by decide +kernel
theorem dL_act_127 : decode cL_act 127 = .ok (.bipush 30, 2) := by decide +kernel
theorem dL_act_129 : decode cL_act 129 = .ok (.invokestatic 73, 3) := by decide +kernel
theorem dL_act_132 : decode cL_act 132 = .ok (.iadd, 1) := by decide +kernel
theorem dL_act_133 : decode cL_act 133 = .ok (.iload_n 2, 1) := by decide +kernel
theorem dL_act_134 : decode cL_act 134 = .ok (.bipush 12, 2) := by decide +kernel
theorem dL_act_136 : decode cL_act 136 = .ok (.ishr, 1) := by decide +kernel
theorem dL_act_137 : decode cL_act 137 = .ok (.iconst 2, 1) := by decide +kernel
theorem dL_act_138 : decode cL_act 138 = .ok (.invokestatic 73, 3) := by decide +kernel
theorem dL_act_141 : decode cL_act 141 = .ok (.invokestatic 78, 3) := by decide +kernel
theorem dL_act_144 : decode cL_act 144 = .ok (.ireturn, 1) := by decide +kernel
theorem dL_act_145 : decode cL_act 145 = .ok (.aload_n 0, 1) := by decide +kernel
theorem dL_act_146 : decode cL_act 146 = .ok (.iload_n 3, 1) := by decide +kernel
theorem dL_act_147 : decode cL_act 147 = .ok (.iconst 0, 1) := by decide +kernel
theorem dL_act_148 : decode cL_act 148 = .ok (.iload_n 2, 1) := by decide +kernel
theorem dL_act_149 : decode cL_act 149 = .ok (.iconst 3, 1) := by decide +kernel
theorem dL_act_150 : decode cL_act 150 = .ok (.invokestatic 73, 3) := by decide +kernel
theorem dL_act_153 : decode cL_act 153 = .ok (.invokestatic 81, 3) := by decide +kernel
theorem dL_act_156 : decode cL_act 156 = .ok (.ireturn, 1) := by decide +kernel
theorem dL_act_157 : decode cL_act 157 = .ok (.aload_n 0, 1) := by decide +kernel
theorem dL_act_158 : decode cL_act 158 = .ok (.iload_n 3, 1) := by decide +kernel
theorem dL_act_159 : decode cL_act 159 = .ok (.iconst 1, 1) := by decide +kernel
theorem dL_act_160 : decode cL_act 160 = .ok (.iload_n 2, 1) := by decide +kernel
theorem dL_act_161 : decode cL_act 161 = .ok (.bipush 9, 2) := by decide +kernel
theorem dL_act_163 : decode cL_act 163 = .ok (.invokestatic 73, 3) := by decide +kernel
theorem dL_act_166 : decode cL_act 166 = .ok (.invokestatic 81, 3) := by decide +kernel
theorem dL_act_169 : decode cL_act 169 = .ok (.ireturn, 1) := by decide +kernel
theorem dL_act_170 : decode cL_act 170 = .ok (.aload_n 0, 1) := by decide +kernel
theorem dL_act_171 : decode cL_act 171 = .ok (.iload_n 3, 1) := by decide +kernel
theorem dL_act_172 : decode cL_act 172 = .ok (.invokestatic 84, 3) := by decide +kernel
theorem dL_act_175 : decode cL_act 175 = .ok (.ireturn, 1) := by decide +kernel
theorem dL_act_176 : decode cL_act 176 = .ok (.aload_n 0, 1) := by decide +kernel
theorem dL_act_177 : decode cL_act 177 = .ok (.iload_n 3, 1) := by decide +kernel
theorem dL_act_178 : decode cL_act 178 = .ok (.iconst 1, 1) := by decide +kernel
theorem dL_act_179 : decode cL_act 179 = .ok (.iload_n 2, 1) := by decide +kernel
theorem dL_act_180 : decode cL_act 180 = .ok (.sipush 300, 3) := by decide +kernel
theorem dL_act_183 : decode cL_act 183 = .ok (.invokestatic 73, 3) := by decide +kernel
theorem dL_act_186 : decode cL_act 186 = .ok (.iadd, 1) := by decide +kernel
theorem dL_act_187 : decode cL_act 187 = .ok (.invokestatic 87, 3) := by decide +kernel
theorem dL_act_190 : decode cL_act 190 = .ok (.ireturn, 1) := by decide +kernel
theorem dL_act_191 : decode cL_act 191 = .ok (.aload_n 0, 1) := by decide +kernel
theorem dL_act_192 : decode cL_act 192 = .ok (.iload_n 3, 1) := by decide +kernel
theorem dL_act_193 : decode cL_act 193 = .ok (.invokestatic 90, 3) := by decide +kernel
theorem dL_act_196 : decode cL_act 196 = .ok (.ireturn, 1) := by decide +kernel
theorem dL_act_197 : decode cL_act 197 = .ok (.aload_n 0, 1) := by decide +kernel
theorem dL_act_198 : decode cL_act 198 = .ok (.iload_n 2, 1) := by decide +kernel
theorem dL_act_199 : decode cL_act 199 = .ok (.bipush 12, 2) := by decide +kernel
theorem dL_act_201 : decode cL_act 201 = .ok (.invokestatic 73, 3) := by decide +kernel
theorem dL_act_204 : decode cL_act 204 = .ok (.iload_n 2, 1) := by decide +kernel
theorem dL_act_205 : decode cL_act 205 = .ok (.iconst 4, 1) := by decide +kernel
theorem dL_act_206 : decode cL_act 206 = .ok (.ishr, 1) := by decide +kernel
theorem dL_act_207 : decode cL_act 207 = .ok (.bipush 100, 2) := by decide +kernel
theorem dL_act_209 : decode cL_act 209 = .ok (.invokestatic 73, 3) := by decide +kernel
theorem dL_act_212 : decode cL_act 212 = .ok (.invokestatic 92, 3) := by decide +kernel
theorem dL_act_215 : decode cL_act 215 = .ok (.ireturn, 1) := by decide +kernel
theorem dL_act_216 : decode cL_act 216 = .ok (.aload_n 0, 1) := by decide +kernel
theorem dL_act_217 : decode cL_act 217 = .ok (.iload_n 2, 1) := by decide +kernel
theorem dL_act_218 : decode cL_act 218 = .ok (.iconst 4, 1) := by decide +kernel
theorem dL_act_219 : decode cL_act 219 = .ok (.invokestatic 73, 3) := by decide +kernel
theorem dL_act_222 : decode cL_act 222 = .ok (.iconst 1, 1) := by decide +kernel
theorem dL_act_223 : decode cL_act 223 = .ok (.iload_n 2, 1) := by decide +kernel
theorem dL_act_224 : decode cL_act 224 = .ok (.iconst 2, 1) := by decide +kernel
theorem dL_act_225 : decode cL_act 225 = .ok (.ishr, 1) := by decide +kernel
theorem dL_act_226 : decode cL_act 226 = .ok (.bipush 9, 2) := by decide +kernel
theorem dL_act_228 : decode cL_act 228 = .ok (.invokestatic 73, 3) := by decide +kernel
theorem dL_act_231 : decode cL_act 231 = .ok (.iadd, 1) := by decide +kernel
theorem dL_act_232 : decode cL_act 232 = .ok (.invokestatic 94, 3) := by decide +kernel
theorem dL_act_235 : decode cL_act 235 = .ok (.ireturn, 1) := by decide +kernel
theorem dL_act_236 : decode cL_act 236 = .ok (.iload_n 2, 1) := by decide +kernel
theorem dL_act_237 : decode cL_act 237 = .ok (.iconst 4, 1) := by decide +kernel
theorem dL_act_238 : decode cL_act 238 = .ok (.invokestatic 73, 3) := by decide +kernel
theorem dL_act_241 : decode cL_act 241 = .ok (.istore 4, 2) := by decide +kernel
theorem dL_act_243 : decode cL_act 243 = .ok (.aload_n 0, 1) := by decide +kernel
theorem dL_act_244 : decode cL_act 244 = .ok (.iload 4, 2) := by decide +kernel
theorem dL_act_246 : decode cL_act 246 = .ok (.iload 4, 2) := by decide +kernel
theorem dL_act_248 : decode cL_act 248 = .ok (.iconst 1, 1) := by decide +kernel
theorem dL_act_249 : decode cL_act 249 = .ok (.if_icmp .ne 18, 3) := by decide +kernel
theorem dL_act_252 : decode cL_act 252 = .ok (.bipush 50, 2) := by decide +kernel
theorem dL_act_254 : decode cL_act 254 = .ok (.iload_n 2, 1) := by decide +kernel
theorem dL_act_255 : decode cL_act 255 = .ok (.iconst 2, 1) := by decide +kernel
theorem dL_act_256 : decode cL_act 256 = .ok (.ishr, 1) := by decide +kernel
theorem dL_act_257 : decode cL_act 257 = .ok (.sipush 150, 3) := by decide +kernel
theorem dL_act_260 : decode cL_act 260 = .ok (.invokestatic 73, 3) := by decide +kernel
theorem dL_act_263 : decode cL_act 263 = .ok (.iadd, 1) := by decide +kernel
theorem dL_act_264 : decode cL_act 264 = .ok (.goto 11, 3) := by decide +kernel
theorem dL_act_267 : decode cL_act 267 = .ok (.iload_n 2, 1) := by decide +kernel
theorem dL_act_268 : decode cL_act 268 = .ok (.iconst 2, 1) := by decide +kernel
theorem dL_act_269 : decode cL_act 269 = .ok (.ishr, 1) := by decide +kernel
theorem dL_act_270 : decode cL_act 270 = .ok (.bipush 21, 2) := by decide +kernel
theorem dL_act_272 : decode cL_act 272 = .ok (.invokestatic 73, 3) := by decide +kernel
theorem dL_act_275 : decode cL_act 275 = .ok (.invokestatic 96, 3) := by decide +kernel
theorem dL_act_278 : decode cL_act 278 = .ok (.ireturn, 1) := by decide +kernel
theorem dL_hangs_0 : decode cL_hangs 0 = .ok (.iconst 0, 1) := by decide +kernel
theorem dL_hangs_1 : decode cL_hangs 1 = .ok (.istore_n 1, 1) := by decide +kernel
theorem dL_hangs_2 : decode cL_hangs 2 = .ok (.iconst 0, 1) := by decide +kernel
theorem dL_hangs_3 : decode cL_hangs 3 = .ok (.istore_n 2, 1) := by decide +kernel
theorem dL_hangs_4 : decode cL_hangs 4 = .ok (.iconst 0, 1) := by decide +kernel
theorem dL_hangs_5 : decode cL_hangs 5 = .ok (.istore_n 3, 1) := by decide +kernel
theorem dL_hangs_6 : decode cL_hangs 6 = .ok (.iconst (-1), 1) := by decide +kernel
theorem dL_hangs_7 : decode cL_hangs 7 = .ok (.istore 4, 2) := by decide +kernel
theorem dL_hangs_9 : decode cL_hangs 9 = .ok (.iconst 0, 1) := by decide +kernel
theorem dL_hangs_10 : decode cL_hangs 10 = .ok (.istore 5, 2) := by decide +kernel
theorem dL_hangs_12 : decode cL_hangs 12 = .ok (.iload 5, 2) := by decide +kernel
theorem dL_hangs_14 : decode cL_hangs 14 = .ok (.aload_n 0, 1) := by decide +kernel
theorem dL_hangs_15 : decode cL_hangs 15 = .ok (.iconst 0, 1) := by decide +kernel
theorem dL_hangs_16 : decode cL_hangs 16 = .ok (.invokestatic 98, 3) := by decide +kernel
theorem dL_hangs_19 : decode cL_hangs 19 = .ok (.if_icmp .ge 369, 3) := by decide +kernel
theorem dL_hangs_22 : decode cL_hangs 22 = .ok (.aload_n 0, 1) := by decide +kernel
theorem dL_hangs_23 : decode cL_hangs 23 = .ok (.iload 5, 2) := by decide +kernel
theorem dL_hangs_25 : decode cL_hangs 25 = .ok (.iconst 0, 1) := by decide +kernel
theorem dL_hangs_26 : decode cL_hangs 26 = .ok (.invokestatic 100, 3) := by decide +kernel
theorem dL_hangs_29 : decode cL_hangs 29 = .ok (.istore 6, 2) := by decide +kernel
theorem dL_hangs_31 : decode cL_hangs 31 = .ok (.aload_n 0, 1) := by decide +kernel
theorem dL_hangs_32 : decode cL_hangs 32 = .ok (.iload 5, 2) := by decide +kernel
theorem dL_hangs_34 : decode cL_hangs 34 = .ok (.iconst 1, 1) := by decide +kernel
theorem dL_hangs_35 : decode cL_hangs 35 = .ok (.invokestatic 100, 3) := by decide +kernel
theorem dL_hangs_38 : decode cL_hangs 38 = .ok (.istore 7, 2) := by decide +kernel
theorem dL_hangs_40 : decode cL_hangs 40 = .ok (.aload_n 0, 1) := by decide +kernel
theorem dL_hangs_41 : decode cL_hangs 41 = .ok (.iload 5, 2) := by decide +kernel
theorem dL_hangs_43 : decode cL_hangs 43 = .ok (.iconst 2, 1) := by decide +kernel
theorem dL_hangs_44 : decode cL_hangs 44 = .ok (.invokestatic 100, 3) := by decide +kernel
theorem dL_hangs_47 : decode cL_hangs 47 = .ok (.istore 8, 2) := by decide +kernel
theorem dL_hangs_49 : decode cL_hangs 49 = .ok (.aload_n 0, 1) := by decide +kernel
theorem dL_hangs_50 : decode cL_hangs 50 = .ok (.iload 5, 2) := by decide +kernel
theorem dL_hangs_52 : decode cL_hangs 52 = .ok (.iconst 5, 1) := by decide +kernel
theorem dL_hangs_53 : decode cL_hangs 53 = .ok (.invokestatic 100, 3) := by decide +kernel
theorem dL_hangs_56 : decode cL_hangs 56 = .ok (.istore 9, 2) := by decide +kernel
theorem dL_hangs_58 : decode cL_hangs 58 = .ok (.aload_n 0, 1) := by decide +kernel
theorem dL_hangs_59 : decode cL_hangs 59 = .ok (.iload 5, 2) := by decide +kernel
theorem dL_hangs_61 : decode cL_hangs 61 = .ok (.bipush 9, 2) := by decide +kernel
theorem dL_hangs_63 : decode cL_hangs 63 = .ok (.invokestatic 100, 3) := by decide +kernel
theorem dL_hangs_66 : decode cL_hangs 66 = .ok (.istore 10, 2) := by decide +kernel
theorem dL_hangs_68 : decode cL_hangs 68 = .ok (.aload_n 0, 1) := by decide +kernel
theorem dL_hangs_69 : decode cL_hangs 69 = .ok (.iload 5, 2) := by decide +kernel
theorem dL_hangs_71 : decode cL_hangs 71 = .ok (.bipush 10, 2) := by decide +kernel
theorem dL_hangs_73 : decode cL_hangs 73 = .ok (.invokestatic 100, 3) := by decide +kernel
theorem dL_hangs_76 : decode cL_hangs 76 = .ok (.ifCond .ne 7, 3) := by decide +kernel
theorem dL_hangs_79 : decode cL_hangs 79 = .ok (.iconst 1, 1) := by decide +kernel
theorem dL_hangs_80 : decode cL_hangs 80 = .ok (.goto 4, 3) := by decide +kernel
theorem dL_hangs_83 : decode cL_hangs 83 = .ok (.iconst 0, 1) := by decide +kernel
theorem dL_hangs_84 : decode cL_hangs 84 = .ok (.istore 11, 2) := by decide +kernel
theorem dL_hangs_86 : decode cL_hangs 86 = .ok (.iload 10, 2) := by decide +kernel
theorem dL_hangs_88 : decode cL_hangs 88 = .ok (.iload 9, 2) := by decide +kernel
theorem dL_hangs_90 : decode cL_hangs 90 = .ok (.aload_n 0, 1) := by decide +kernel
theorem dL_hangs_91 : decode cL_hangs 91 = .ok (.iconst 2, 1) := by decide +kernel
theorem dL_hangs_92 : decode cL_hangs 92 = .ok (.invokestatic 102, 3) := by decide +kernel
theorem dL_hangs_95 : decode cL_hangs 95 = .ok (.imul, 1) := by decide +kernel
theorem dL_hangs_96 : decode cL_hangs 96 = .ok (.isub, 1) := by decide +kernel
theorem dL_hangs_97 : decode cL_hangs 97 = .ok (.istore 12, 2) := by decide +kernel
theorem dL_hangs_99 : decode cL_hangs 99 = .ok (.aload_n 0, 1) := by decide +kernel
theorem dL_hangs_100 : decode cL_hangs 100 = .ok (.iload 5, 2) := by decide +kernel
theorem dL_hangs_102 : decode cL_hangs 102 = .ok (.bipush 7, 2) := by decide +kernel
theorem dL_hangs_104 : decode cL_hangs 104 = .ok (.invokestatic 100, 3) := by decide +kernel
theorem dL_hangs_107 : decode cL_hangs 107 = .ok (.aload_n 0, 1) := by decide +kernel
theorem dL_hangs_108 : decode cL_hangs 108 = .ok (.iconst 1, 1) := by decide +kernel
theorem dL_hangs_109 : decode cL_hangs 109 = .ok (.invokestatic 102, 3) := by decide +kernel
theorem dL_hangs_112 : decode cL_hangs 112 = .ok (.if_icmp .le 7, 3) := by decide +kernel
theorem dL_hangs_115 : decode cL_hangs 115 = .ok (.iconst 1, 1) := by decide +kernel
theorem dL_hangs_116 : decode cL_hangs 116 = .ok (.goto 4, 3) := by decide +kernel
theorem dL_hangs_119 : decode cL_hangs 119 = .ok (.iconst 0, 1) := by decide +kernel
theorem dL_hangs_120 : decode cL_hangs 120 = .ok (.istore 13, 2) := by decide +kernel
theorem dL_hangs_122 : decode cL_hangs 122 = .ok (.iload_n 1, 1) := by decide +kernel
theorem dL_hangs_123 : decode cL_hangs 123 = .ok (.iload 11, 2) := by decide +kernel
theorem dL_hangs_125 : decode cL_hangs 125 = .ok (.ifCond .eq 7, 3) := by decide +kernel
theorem dL_hangs_128 : decode cL_hangs 128 = .ok (.iconst 1, 1) := by decide +kernel
theorem dL_hangs_129 : decode cL_hangs 129 = .ok (.goto 4, 3) := by decide +kernel
theorem dL_hangs_132 : decode cL_hangs 132 = .ok (.iconst 0, 1) := by decide +kernel
theorem dL_hangs_133 : decode cL_hangs 133 = .ok (.iadd, 1) := by decide +kernel
theorem dL_hangs_134 : decode cL_hangs 134 = .ok (.istore_n 1, 1) := by decide +kernel
theorem dL_hangs_135 : decode cL_hangs 135 = .ok (.iload_n 2, 1) := by decide +kernel
theorem dL_hangs_136 : decode cL_hangs 136 = .ok (.iload 13, 2) := by decide +kernel
theorem dL_hangs_138 : decode cL_hangs 138 = .ok (.ifCond .eq 7, 3) := by decide +kernel
theorem dL_hangs_141 : decode cL_hangs 141 = .ok (.iconst 1, 1) := by decide +kernel
theorem dL_hangs_142 : decode cL_hangs 142 = .ok (.goto 4, 3) := by decide +kernel
theorem dL_hangs_145 : decode cL_hangs 145 = .ok (.iconst 0, 1) := by decide +kernel
theorem dL_hangs_146 : decode cL_hangs 146 = .ok (.iadd, 1) := by decide +kernel
theorem dL_hangs_147 : decode cL_hangs 147 = .ok (.istore_n 2, 1) := by decide +kernel
theorem dL_hangs_148 : decode cL_hangs 148 = .ok (.iload_n 3, 1) := by decide +kernel
theorem dL_hangs_149 : decode cL_hangs 149 = .ok (.iload 11, 2) := by decide +kernel
theorem dL_hangs_151 : decode cL_hangs 151 = .ok (.ifCond .eq 8, 3) := by decide +kernel
theorem dL_hangs_154 : decode cL_hangs 154 = .ok (.iload 10, 2) := by decide +kernel
theorem dL_hangs_156 : decode cL_hangs 156 = .ok (.goto 4, 3) := by decide +kernel
theorem dL_hangs_159 : decode cL_hangs 159 = .ok (.iconst 0, 1) := by decide +kernel
theorem dL_hangs_160 : decode cL_hangs 160 = .ok (.iadd, 1) := by decide +kernel
theorem dL_hangs_161 : decode cL_hangs 161 = .ok (.istore_n 3, 1) := by decide +kernel
theorem dL_hangs_162 : decode cL_hangs 162 = .ok (.iload 11, 2) := by decide +kernel
theorem dL_hangs_164 : decode cL_hangs 164 = .ok (.ifCond .eq 15, 3) := by decide +kernel
theorem dL_hangs_167 : decode cL_hangs 167 = .ok (.iload 10, 2) := by decide +kernel
theorem dL_hangs_169 : decode cL_hangs 169 = .ok (.iload 4, 2) := by decide +kernel
theorem dL_hangs_171 : decode cL_hangs 171 = .ok (.if_icmp .le 8, 3) := by decide +kernel
theorem dL_hangs_174 : decode cL_hangs 174 = .ok (.iload 10, 2) := by decide +kernel
theorem dL_hangs_176 : decode cL_hangs 176 = .ok (.goto 5, 3) := by decide +kernel
theorem dL_hangs_179 : decode cL_hangs 179 = .ok (.iload 4, 2) := by decide +kernel
theorem dL_hangs_181 : decode cL_hangs 181 = .ok (.istore 4, 2) := by decide +kernel
theorem dL_hangs_183 : decode cL_hangs 183 = .ok (.aload_n 0, 1) := by decide +kernel
theorem dL_hangs_184 : decode cL_hangs 184 = .ok (.aload_n 0, 1) := by decide +kernel
theorem dL_hangs_185 : decode cL_hangs 185 = .ok (.iload 5, 2) := by decide +kernel
theorem dL_hangs_187 : decode cL_hangs 187 = .ok (.bipush 8, 2) := by decide +kernel
theorem dL_hangs_189 : decode cL_hangs 189 = .ok (.invokestatic 100, 3) := by decide +kernel
theorem dL_hangs_192 : decode cL_hangs 192 = .ok (.iconst 0, 1) := by decide +kernel
theorem dL_hangs_193 : decode cL_hangs 193 = .ok (.invokestatic 104, 3) := by decide +kernel
theorem dL_hangs_196 : decode cL_hangs 196 = .ok (.istore 14, 2) := by decide +kernel
theorem dL_hangs_198 : decode cL_hangs 198 = .ok (.iload 6, 2) := by decide +kernel
theorem dL_hangs_200 : decode cL_hangs 200 = .ok (.iload 7, 2) := by decide +kernel
theorem dL_hangs_202 : decode cL_hangs 202 = .ok (.if_icmp .lt 148, 3) := by decide +kernel
theorem dL_hangs_205 : decode cL_hangs 205 = .ok (.iload 7, 2) := by decide +kernel
theorem dL_hangs_207 : decode cL_hangs 207 = .ok (.iload 8, 2) := by decide +kernel
theorem dL_hangs_209 : decode cL_hangs 209 = .ok (.if_icmp .lt 141, 3) := by decide +kernel
theorem dL_hangs_212 : decode cL_hangs 212 = .ok (.iload 8, 2) := by decide +kernel
theorem dL_hangs_214 : decode cL_hangs 214 = .ok (.iconst 1, 1) := by decide +kernel
theorem dL_hangs_215 : decode cL_hangs 215 = .ok (.if_icmp .lt 135, 3) := by decide +kernel
theorem dL_hangs_218 : decode cL_hangs 218 = .ok (.iload 6, 2) := by decide +kernel
theorem dL_hangs_220 : decode cL_hangs 220 = .ok (.bipush 60, 2) := by decide +kernel
theorem dL_hangs_222 : decode cL_hangs 222 = .ok (.if_icmp .gt 128, 3) := by decide +kernel
theorem dL_hangs_225 : decode cL_hangs 225 = .ok (.aload_n 0, 1) := by decide +kernel
theorem dL_hangs_226 : decode cL_hangs 226 = .ok (.iload 5, 2) := by decide +kernel
theorem dL_hangs_228 : decode cL_hangs 228 = .ok (.bipush 7, 2) := by decide +kernel
theorem dL_hangs_230 : decode cL_hangs 230 = .ok (.invokestatic 100, 3) := by decide +kernel
theorem dL_hangs_233 : decode cL_hangs 233 = .ok (.iload 6, 2) := by decide +kernel
theorem dL_hangs_235 : decode cL_hangs 235 = .ok (.iconst 2, 1) := by decide +kernel
theorem dL_hangs_236 : decode cL_hangs 236 = .ok (.iload 7, 2) := by decide +kernel
theorem dL_hangs_238 : decode cL_hangs 238 = .ok (.iload 8, 2) := by decide +kernel
theorem dL_hangs_240 : decode cL_hangs 240 = .ok (.iadd, 1) := by decide +kernel
theorem dL_hangs_241 : decode cL_hangs 241 = .ok (.imul, 1) := by decide +kernel
theorem dL_hangs_242 : decode cL_hangs 242 = .ok (.iadd, 1) := by decide +kernel
theorem dL_hangs_243 : decode cL_hangs 243 = .ok (.if_icmp .ne 107, 3) := by decide +kernel
theorem dL_hangs_246 : decode cL_hangs 246 = .ok (.aload_n 0, 1) := by decide +kernel
theorem dL_hangs_247 : decode cL_hangs 247 = .ok (.iload 5, 2) := by decide +kernel
theorem dL_hangs_249 : decode cL_hangs 249 = .ok (.bipush 8, 2) := by decide +kernel
theorem dL_hangs_251 : decode cL_hangs 251 = .ok (.invokestatic 100, 3) := by decide +kernel
theorem dL_hangs_254 : decode cL_hangs 254 = .ok (.iconst 2, 1) := by decide +kernel
theorem dL_hangs_255 : decode cL_hangs 255 = .ok (.iload 7, 2) := by decide +kernel
theorem dL_hangs_257 : decode cL_hangs 257 = .ok (.iload 8, 2) := by decide +kernel
theorem dL_hangs_259 : decode cL_hangs 259 = .ok (.iadd, 1) := by decide +kernel
theorem dL_hangs_260 : decode cL_hangs 260 = .ok (.imul, 1) := by decide +kernel
theorem dL_hangs_261 : decode cL_hangs 261 = .ok (.if_icmp .gt 11, 3) := by decide +kernel
theorem dL_hangs_264 : decode cL_hangs 264 = .ok (.aload_n 0, 1) := by decide +kernel
theorem dL_hangs_265 : decode cL_hangs 265 = .ok (.iconst 0, 1) := by decide +kernel
theorem dL_hangs_266 : decode cL_hangs 266 = .ok (.invokestatic 102, 3) := by decide +kernel
theorem dL_hangs_269 : decode cL_hangs 269 = .ok (.ifCond .gt 81, 3) := by decide +kernel
theorem dL_hangs_272 : decode cL_hangs 272 = .ok (.iload 13, 2) := by decide +kernel
theorem dL_hangs_274 : decode cL_hangs 274 = .ok (.ifCond .ne 20, 3) := by decide +kernel
theorem dL_hangs_277 : decode cL_hangs 277 = .ok (.iload 12, 2) := by decide +kernel
theorem dL_hangs_279 : decode cL_hangs 279 = .ok (.iload 14, 2) := by decide +kernel
theorem dL_hangs_281 : decode cL_hangs 281 = .ok (.ifCond .ne 7, 3) := by decide +kernel
theorem dL_hangs_284 : decode cL_hangs 284 = .ok (.iconst 1, 1) := by decide +kernel
theorem dL_hangs_285 : decode cL_hangs 285 = .ok (.goto 5, 3) := by decide +kernel
theorem dL_hangs_288 : decode cL_hangs 288 = .ok (.iload 14, 2) := by decide +kernel
theorem dL_hangs_290 : decode cL_hangs 290 = .ok (.irem, 1) := by decide +kernel
theorem dL_hangs_291 : decode cL_hangs 291 = .ok (.ifCond .ne 59, 3) := by decide +kernel
theorem dL_hangs_294 : decode cL_hangs 294 = .ok (.iload 12, 2) := by decide +kernel
theorem dL_hangs_296 : decode cL_hangs 296 = .ok (.iload 14, 2) := by decide +kernel
theorem dL_hangs_298 : decode cL_hangs 298 = .ok (.if_icmp .lt 52, 3) := by decide +kernel
theorem dL_hangs_301 : decode cL_hangs 301 = .ok (.iload 9, 2) := by decide +kernel
theorem dL_hangs_303 : decode cL_hangs 303 = .ok (.ifCond .le 19, 3) := by decide +kernel
theorem dL_hangs_306 : decode cL_hangs 306 = .ok (.aload_n 0, 1) := by decide +kernel
theorem dL_hangs_307 : decode cL_hangs 307 = .ok (.iload 5, 2) := by decide +kernel
theorem dL_hangs_309 : decode cL_hangs 309 = .ok (.bipush 6, 2) := by decide +kernel
theorem dL_hangs_311 : decode cL_hangs 311 = .ok (.invokestatic 100, 3) := by decide +kernel
theorem dL_hangs_314 : decode cL_hangs 314 = .ok (.ifCond .ne 8, 3) := by decide +kernel
theorem dL_hangs_317 : decode cL_hangs 317 = .ok (.iload 11, 2) := by decide +kernel
theorem dL_hangs_319 : decode cL_hangs 319 = .ok (.ifCond .ne 31, 3) := by decide +kernel
theorem dL_hangs_322 : decode cL_hangs 322 = .ok (.aload_n 0, 1) := by decide +kernel
theorem dL_hangs_323 : decode cL_hangs 323 = .ok (.iload 5, 2) := by decide +kernel
theorem dL_hangs_325 : decode cL_hangs 325 = .ok (.bipush 6, 2) := by decide +kernel
theorem dL_hangs_327 : decode cL_hangs 327 = .ok (.invokestatic 100, 3) := by decide +kernel
theorem dL_hangs_330 : decode cL_hangs 330 = .ok (.ifCond .ne 22, 3) := by decide +kernel
theorem dL_hangs_333 : decode cL_hangs 333 = .ok (.aload_n 0, 1) := by decide +kernel
theorem dL_hangs_334 : decode cL_hangs 334 = .ok (.iload 5, 2) := by decide +kernel
theorem dL_hangs_336 : decode cL_hangs 336 = .ok (.iconst 3, 1) := by decide +kernel
theorem dL_hangs_337 : decode cL_hangs 337 = .ok (.invokestatic 100, 3) := by decide +kernel
theorem dL_hangs_340 : decode cL_hangs 340 = .ok (.bipush 30, 2) := by decide +kernel
theorem dL_hangs_342 : decode cL_hangs 342 = .ok (.if_icmp .le 10, 3) := by decide +kernel
theorem dL_hangs_345 : decode cL_hangs 345 = .ok (.iload 11, 2) := by decide +kernel
theorem dL_hangs_347 : decode cL_hangs 347 = .ok (.ifCond .eq 5, 3) := by decide +kernel
theorem dL_hangs_350 : decode cL_hangs 350 = .ok (.iconst 0, 1) := by decide +kernel
theorem dL_hangs_351 : decode cL_hangs 351 = .ok (.ireturn, 1) := by decide +kernel
theorem dL_hangs_352 : decode cL_hangs 352 = .ok (.aload_n 0, 1) := by decide +kernel
theorem dL_hangs_353 : decode cL_hangs 353 = .ok (.iload 5, 2) := by decide +kernel
theorem dL_hangs_355 : decode cL_hangs 355 = .ok (.invokestatic 106, 3) := by decide +kernel
theorem dL_hangs_358 : decode cL_hangs 358 = .ok (.istore 15, 2) := by decide +kernel
theorem dL_hangs_360 : decode cL_hangs 360 = .ok (.iload 11, 2) := by decide +kernel
theorem dL_hangs_362 : decode cL_hangs 362 = .ok (.ifCond .eq 8, 3) := by decide +kernel
theorem dL_hangs_365 : decode cL_hangs 365 = .ok (.iload 15, 2) := by decide +kernel
theorem dL_hangs_367 : decode cL_hangs 367 = .ok (.ifCond .lt 13, 3) := by decide +kernel
theorem dL_hangs_370 : decode cL_hangs 370 = .ok (.iload 15, 2) := by decide +kernel
theorem dL_hangs_372 : decode cL_hangs 372 = .ok (.ifCond .ne 10, 3) := by decide +kernel
theorem dL_hangs_375 : decode cL_hangs 375 = .ok (.iload 9, 2) := by decide +kernel
theorem dL_hangs_377 : decode cL_hangs 377 = .ok (.ifCond .le 5, 3) := by decide +kernel
