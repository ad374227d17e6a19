theorem dX8_isAhead_25 : decode cX8_isAhead 25 = .ok (.iconst 1, 1) := by decide +kernel
theorem dX8_isAhead_26 : decode cX8_isAhead 26 = .ok (.goto 17, 3) := by decide +kernel
theorem dX8_isAhead_29 : decode cX8_isAhead 29 = .ok (.iconst 0, 1) := by decide +kernel
theorem dX8_isAhead_30 : decode cX8_isAhead 30 = .ok (.goto 13, 3) := by decide +kernel
theorem dX8_isAhead_33 : decode cX8_isAhead 33 = .ok (.iload_n 1, 1) := by decide +kernel
theorem dX8_isAhead_34 : decode cX8_isAhead 34 = .ok (.iload_n 2, 1) := by decide +kernel
theorem dX8_isAhead_35 : decode cX8_isAhead 35 = .ok (.if_icmp .ge 7, 3) := by decide +kernel
theorem dX8_isAhead_38 : decode cX8_isAhead 38 = .ok (.iconst 1, 1) := by decide +kernel
theorem dX8_isAhead_39 : decode cX8_isAhead 39 = .ok (.goto 4, 3) := by decide +kernel
theorem dX8_isAhead_42 : decode cX8_isAhead 42 = .ok (.iconst 0, 1) := by decide +kernel
theorem dX8_isAhead_43 : decode cX8_isAhead 43 = .ok (.ireturn, 1) := by decide +kernel
theorem dX8_sort_0 : decode cX8_sort 0 = .ok (.iconst 0, 1) := by decide +kernel
theorem dX8_sort_1 : decode cX8_sort 1 = .ok (.istore_n 3, 1) := by decide +kernel
theorem dX8_sort_2 : decode cX8_sort 2 = .ok (.iload_n 3, 1) := by decide +kernel
theorem dX8_sort_3 : decode cX8_sort 3 = .ok (.aload_n 0, 1) := by decide +kernel
theorem dX8_sort_4 : decode cX8_sort 4 = .ok (.getfield 13, 3) := by decide +kernel
theorem dX8_sort_7 : decode cX8_sort 7 = .ok (.iload_n 1, 1) := by decide +kernel
theorem dX8_sort_8 : decode cX8_sort 8 = .ok (.iaload, 1) := by decide +kernel
theorem dX8_sort_9 : decode cX8_sort 9 = .ok (.if_icmp .ge 67, 3) := by decide +kernel
theorem dX8_sort_12 : decode cX8_sort 12 = .ok (.aload_n 0, 1) := by decide +kernel
theorem dX8_sort_13 : decode cX8_sort 13 = .ok (.getfield 17, 3) := by decide +kernel
theorem dX8_sort_16 : decode cX8_sort 16 = .ok (.bipush 30, 2) := by decide +kernel
theorem dX8_sort_18 : decode cX8_sort 18 = .ok (.iload_n 1, 1) := by decide +kernel
theorem dX8_sort_19 : decode cX8_sort 19 = .ok (.imul, 1) := by decide +kernel
theorem dX8_sort_20 : decode cX8_sort 20 = .ok (.iload_n 3, 1) := by decide +kernel
theorem dX8_sort_21 : decode cX8_sort 21 = .ok (.iadd, 1) := by decide +kernel
theorem dX8_sort_22 : decode cX8_sort 22 = .ok (.iaload, 1) := by decide +kernel
theorem dX8_sort_23 : decode cX8_sort 23 = .ok (.istore 4, 2) := by decide +kernel
theorem dX8_sort_25 : decode cX8_sort 25 = .ok (.iload_n 3, 1) := by decide +kernel
theorem dX8_sort_26 : decode cX8_sort 26 = .ok (.istore 5, 2) := by decide +kernel
theorem dX8_sort_28 : decode cX8_sort 28 = .ok (.iload 5, 2) := by decide +kernel
theorem dX8_sort_30 : decode cX8_sort 30 = .ok (.ifCond .le 34, 3) := by decide +kernel
theorem dX8_sort_33 : decode cX8_sort 33 = .ok (.aload_n 0, 1) := by decide +kernel
theorem dX8_sort_34 : decode cX8_sort 34 = .ok (.iload 4, 2) := by decide +kernel
theorem dX8_sort_36 : decode cX8_sort 36 = .ok (.aload_n 2, 1) := by decide +kernel
theorem dX8_sort_37 : decode cX8_sort 37 = .ok (.iload 5, 2) := by decide +kernel
theorem dX8_sort_39 : decode cX8_sort 39 = .ok (.iconst 1, 1) := by decide +kernel
theorem dX8_sort_40 : decode cX8_sort 40 = .ok (.isub, 1) := by decide +kernel
theorem dX8_sort_41 : decode cX8_sort 41 = .ok (.iaload, 1) := by decide +kernel
theorem dX8_sort_42 : decode cX8_sort 42 = .ok (.invokevirtual 110, 3) := by decide +kernel
theorem dX8_sort_45 : decode cX8_sort 45 = .ok (.ifCond .eq 19, 3) := by decide +kernel
theorem dX8_sort_48 : decode cX8_sort 48 = .ok (.aload_n 2, 1) := by decide +kernel
theorem dX8_sort_49 : decode cX8_sort 49 = .ok (.iload 5, 2) := by decide +kernel
theorem dX8_sort_51 : decode cX8_sort 51 = .ok (.aload_n 2, 1) := by decide +kernel
theorem dX8_sort_52 : decode cX8_sort 52 = .ok (.iload 5, 2) := by decide +kernel
theorem dX8_sort_54 : decode cX8_sort 54 = .ok (.iconst 1, 1) := by decide +kernel
theorem dX8_sort_55 : decode cX8_sort 55 = .ok (.isub, 1) := by decide +kernel
theorem dX8_sort_56 : decode cX8_sort 56 = .ok (.iaload, 1) := by decide +kernel
theorem dX8_sort_57 : decode cX8_sort 57 = .ok (.iastore, 1) := by decide +kernel
theorem dX8_sort_58 : decode cX8_sort 58 = .ok (.iinc 5 (-1), 3) := by decide +kernel
theorem dX8_sort_61 : decode cX8_sort 61 = .ok (.goto (-33), 3) := by decide +kernel
theorem dX8_sort_64 : decode cX8_sort 64 = .ok (.aload_n 2, 1) := by decide +kernel
theorem dX8_sort_65 : decode cX8_sort 65 = .ok (.iload 5, 2) := by decide +kernel
theorem dX8_sort_67 : decode cX8_sort 67 = .ok (.iload 4, 2) := by decide +kernel
theorem dX8_sort_69 : decode cX8_sort 69 = .ok (.iastore, 1) := by decide +kernel
theorem dX8_sort_70 : decode cX8_sort 70 = .ok (.iinc 3 1, 3) := by decide +kernel
theorem dX8_sort_73 : decode cX8_sort 73 = .ok (.goto (-71), 3) := by decide +kernel
theorem dX8_sort_76 : decode cX8_sort 76 = .ok (.return_, 1) := by decide +kernel
theorem dX8_amount_0 : decode cX8_amount 0 = .ok (.iconst 0, 1) := by decide +kernel
theorem dX8_amount_1 : decode cX8_amount 1 = .ok (.istore 4, 2) := by decide +kernel
theorem dX8_amount_3 : decode cX8_amount 3 = .ok (.iload_n 2, 1) := by decide +kernel
theorem dX8_amount_4 : decode cX8_amount 4 = .ok (.istore 5, 2) := by decide +kernel
theorem dX8_amount_6 : decode cX8_amount 6 = .ok (.iload 5, 2) := by decide +kernel
theorem dX8_amount_8 : decode cX8_amount 8 = .ok (.iload_n 3, 1) := by decide +kernel
theorem dX8_amount_9 : decode cX8_amount 9 = .ok (.if_icmp .ge 22, 3) := by decide +kernel
theorem dX8_amount_12 : decode cX8_amount 12 = .ok (.iload 4, 2) := by decide +kernel
theorem dX8_amount_14 : decode cX8_amount 14 = .ok (.aload_n 0, 1) := by decide +kernel
theorem dX8_amount_15 : decode cX8_amount 15 = .ok (.aload_n 1, 1) := by decide +kernel
theorem dX8_amount_16 : decode cX8_amount 16 = .ok (.iload 5, 2) := by decide +kernel
theorem dX8_amount_18 : decode cX8_amount 18 = .ok (.iaload, 1) := by decide +kernel
theorem dX8_amount_19 : decode cX8_amount 19 = .ok (.invokevirtual 114, 3) := by decide +kernel
theorem dX8_amount_22 : decode cX8_amount 22 = .ok (.iadd, 1) := by decide +kernel
theorem dX8_amount_23 : decode cX8_amount 23 = .ok (.istore 4, 2) := by decide +kernel
theorem dX8_amount_25 : decode cX8_amount 25 = .ok (.iinc 5 1, 3) := by decide +kernel
theorem dX8_amount_28 : decode cX8_amount 28 = .ok (.goto (-22), 3) := by decide +kernel
theorem dX8_amount_31 : decode cX8_amount 31 = .ok (.iload 4, 2) := by decide +kernel
theorem dX8_amount_33 : decode cX8_amount 33 = .ok (.ireturn, 1) := by decide +kernel
theorem dX8_amountOf_0 : decode cX8_amountOf 0 = .ok (.iconst 0, 1) := by decide +kernel
theorem dX8_amountOf_1 : decode cX8_amountOf 1 = .ok (.istore_n 2, 1) := by decide +kernel
theorem dX8_amountOf_2 : decode cX8_amountOf 2 = .ok (.iconst 0, 1) := by decide +kernel
theorem dX8_amountOf_3 : decode cX8_amountOf 3 = .ok (.istore_n 3, 1) := by decide +kernel
theorem dX8_amountOf_4 : decode cX8_amountOf 4 = .ok (.iload_n 3, 1) := by decide +kernel
theorem dX8_amountOf_5 : decode cX8_amountOf 5 = .ok (.aload_n 0, 1) := by decide +kernel
theorem dX8_amountOf_6 : decode cX8_amountOf 6 = .ok (.getfield 13, 3) := by decide +kernel
theorem dX8_amountOf_9 : decode cX8_amountOf 9 = .ok (.iload_n 1, 1) := by decide +kernel
theorem dX8_amountOf_10 : decode cX8_amountOf 10 = .ok (.iaload, 1) := by decide +kernel
theorem dX8_amountOf_11 : decode cX8_amountOf 11 = .ok (.if_icmp .ge 27, 3) := by decide +kernel
theorem dX8_amountOf_14 : decode cX8_amountOf 14 = .ok (.iload_n 2, 1) := by decide +kernel
theorem dX8_amountOf_15 : decode cX8_amountOf 15 = .ok (.aload_n 0, 1) := by decide +kernel
theorem dX8_amountOf_16 : decode cX8_amountOf 16 = .ok (.aload_n 0, 1) := by decide +kernel
theorem dX8_amountOf_17 : decode cX8_amountOf 17 = .ok (.getfield 17, 3) := by decide +kernel
theorem dX8_amountOf_20 : decode cX8_amountOf 20 = .ok (.bipush 30, 2) := by decide +kernel
theorem dX8_amountOf_22 : decode cX8_amountOf 22 = .ok (.iload_n 1, 1) := by decide +kernel
theorem dX8_amountOf_23 : decode cX8_amountOf 23 = .ok (.imul, 1) := by decide +kernel
theorem dX8_amountOf_24 : decode cX8_amountOf 24 = .ok (.iload_n 3, 1) := by decide +kernel
theorem dX8_amountOf_25 : decode cX8_amountOf 25 = .ok (.iadd, 1) := by decide +kernel
theorem dX8_amountOf_26 : decode cX8_amountOf 26 = .ok (.iaload, 1) := by decide +kernel
theorem dX8_amountOf_27 : decode cX8_amountOf 27 = .ok (.invokevirtual 114, 3) := by decide +kernel
theorem dX8_amountOf_30 : decode cX8_amountOf 30 = .ok (.iadd, 1) := by decide +kernel
theorem dX8_amountOf_31 : decode cX8_amountOf 31 = .ok (.istore_n 2, 1) := by decide +kernel
theorem dX8_amountOf_32 : decode cX8_amountOf 32 = .ok (.iinc 3 1, 3) := by decide +kernel
theorem dX8_amountOf_35 : decode cX8_amountOf 35 = .ok (.goto (-31), 3) := by decide +kernel
theorem dX8_amountOf_38 : decode cX8_amountOf 38 = .ok (.iload_n 2, 1) := by decide +kernel
theorem dX8_amountOf_39 : decode cX8_amountOf 39 = .ok (.ireturn, 1) := by decide +kernel
theorem dX8_shared_0 : decode cX8_shared 0 = .ok (.iconst 0, 1) := by decide +kernel
theorem dX8_shared_1 : decode cX8_shared 1 = .ok (.istore_n 3, 1) := by decide +kernel
theorem dX8_shared_2 : decode cX8_shared 2 = .ok (.iconst 0, 1) := by decide +kernel
theorem dX8_shared_3 : decode cX8_shared 3 = .ok (.istore 4, 2) := by decide +kernel
theorem dX8_shared_5 : decode cX8_shared 5 = .ok (.iload 4, 2) := by decide +kernel
theorem dX8_shared_7 : decode cX8_shared 7 = .ok (.aload_n 0, 1) := by decide +kernel
theorem dX8_shared_8 : decode cX8_shared 8 = .ok (.getfield 13, 3) := by decide +kernel
theorem dX8_shared_11 : decode cX8_shared 11 = .ok (.iload_n 1, 1) := by decide +kernel
theorem dX8_shared_12 : decode cX8_shared 12 = .ok (.iaload, 1) := by decide +kernel
theorem dX8_shared_13 : decode cX8_shared 13 = .ok (.if_icmp .ge 49, 3) := by decide +kernel
theorem dX8_shared_16 : decode cX8_shared 16 = .ok (.aload_n 0, 1) := by decide +kernel
theorem dX8_shared_17 : decode cX8_shared 17 = .ok (.iload_n 2, 1) := by decide +kernel
theorem dX8_shared_18 : decode cX8_shared 18 = .ok (.aload_n 0, 1) := by decide +kernel
theorem dX8_shared_19 : decode cX8_shared 19 = .ok (.getfield 17, 3) := by decide +kernel
theorem dX8_shared_22 : decode cX8_shared 22 = .ok (.bipush 30, 2) := by decide +kernel
theorem dX8_shared_24 : decode cX8_shared 24 = .ok (.iload_n 1, 1) := by decide +kernel
theorem dX8_shared_25 : decode cX8_shared 25 = .ok (.imul, 1) := by decide +kernel
theorem dX8_shared_26 : decode cX8_shared 26 = .ok (.iload 4, 2) := by decide +kernel
theorem dX8_shared_28 : decode cX8_shared 28 = .ok (.iadd, 1) := by decide +kernel
theorem dX8_shared_29 : decode cX8_shared 29 = .ok (.iaload, 1) := by decide +kernel
theorem dX8_shared_30 : decode cX8_shared 30 = .ok (.invokevirtual 93, 3) := by decide +kernel
theorem dX8_shared_33 : decode cX8_shared 33 = .ok (.iconst (-1), 1) := by decide +kernel
theorem dX8_shared_34 : decode cX8_shared 34 = .ok (.if_icmp .eq 22, 3) := by decide +kernel
theorem dX8_shared_37 : decode cX8_shared 37 = .ok (.iload_n 3, 1) := by decide +kernel
theorem dX8_shared_38 : decode cX8_shared 38 = .ok (.aload_n 0, 1) := by decide +kernel
theorem dX8_shared_39 : decode cX8_shared 39 = .ok (.aload_n 0, 1) := by decide +kernel
theorem dX8_shared_40 : decode cX8_shared 40 = .ok (.getfield 17, 3) := by decide +kernel
theorem dX8_shared_43 : decode cX8_shared 43 = .ok (.bipush 30, 2) := by decide +kernel
theorem dX8_shared_45 : decode cX8_shared 45 = .ok (.iload_n 1, 1) := by decide +kernel
theorem dX8_shared_46 : decode cX8_shared 46 = .ok (.imul, 1) := by decide +kernel
theorem dX8_shared_47 : decode cX8_shared 47 = .ok (.iload 4, 2) := by decide +kernel
theorem dX8_shared_49 : decode cX8_shared 49 = .ok (.iadd, 1) := by decide +kernel
theorem dX8_shared_50 : decode cX8_shared 50 = .ok (.iaload, 1) := by decide +kernel
theorem dX8_shared_51 : decode cX8_shared 51 = .ok (.invokevirtual 114, 3) := by decide +kernel
theorem dX8_shared_54 : decode cX8_shared 54 = .ok (.iadd, 1) := by decide +kernel
theorem dX8_shared_55 : decode cX8_shared 55 = .ok (.istore_n 3, 1) := by decide +kernel
theorem dX8_shared_56 : decode cX8_shared 56 = .ok (.iinc 4 1, 3) := by decide +kernel
theorem dX8_shared_59 : decode cX8_shared 59 = .ok (.goto (-54), 3) := by decide +kernel
theorem dX8_shared_62 : decode cX8_shared 62 = .ok (.iload_n 3, 1) := by decide +kernel
theorem dX8_shared_63 : decode cX8_shared 63 = .ok (.ireturn, 1) := by decide +kernel
theorem dX8_four_0 : decode cX8_four 0 = .ok (.iconst 3, 1) := by decide +kernel
theorem dX8_four_1 : decode cX8_four 1 = .ok (.istore_n 2, 1) := by decide +kernel
theorem dX8_four_2 : decode cX8_four 2 = .ok (.iload_n 2, 1) := by decide +kernel
theorem dX8_four_3 : decode cX8_four 3 = .ok (.ifCond .lt 38, 3) := by decide +kernel
theorem dX8_four_6 : decode cX8_four 6 = .ok (.aload_n 0, 1) := by decide +kernel
theorem dX8_four_7 : decode cX8_four 7 = .ok (.getfield 48, 3) := by decide +kernel
theorem dX8_four_10 : decode cX8_four 10 = .ok (.aload_n 0, 1) := by decide +kernel
theorem dX8_four_11 : decode cX8_four 11 = .ok (.getfield 117, 3) := by decide +kernel
theorem dX8_four_14 : decode cX8_four 14 = .ok (.iload_n 1, 1) := by decide +kernel
theorem dX8_four_15 : decode cX8_four 15 = .ok (.bipush 8, 2) := by decide +kernel
theorem dX8_four_17 : decode cX8_four 17 = .ok (.iload_n 2, 1) := by decide +kernel
theorem dX8_four_18 : decode cX8_four 18 = .ok (.imul, 1) := by decide +kernel
theorem dX8_four_19 : decode cX8_four 19 = .ok (.ishr, 1) := by decide +kernel
theorem dX8_four_20 : decode cX8_four 20 = .ok (.sipush 255, 3) := by decide +kernel
theorem dX8_four_23 : decode cX8_four 23 = .ok (.iand, 1) := by decide +kernel
theorem dX8_four_24 : decode cX8_four 24 = .ok (.iastore, 1) := by decide +kernel
theorem dX8_four_25 : decode cX8_four 25 = .ok (.aload_n 0, 1) := by decide +kernel
theorem dX8_four_26 : decode cX8_four 26 = .ok (.dup, 1) := by decide +kernel
theorem dX8_four_27 : decode cX8_four 27 = .ok (.getfield 117, 3) := by decide +kernel
theorem dX8_four_30 : decode cX8_four 30 = .ok (.iconst 1, 1) := by decide +kernel
theorem dX8_four_31 : decode cX8_four 31 = .ok (.iadd, 1) := by decide +kernel
theorem dX8_four_32 : decode cX8_four 32 = .ok (.putfield 117, 3) := by decide +kernel
theorem dX8_four_35 : decode cX8_four 35 = .ok (.iinc 2 (-1), 3) := by decide +kernel
theorem dX8_four_38 : decode cX8_four 38 = .ok (.goto (-36), 3) := by decide +kernel
theorem dX8_four_41 : decode cX8_four 41 = .ok (.return_, 1) := by decide +kernel
theorem dX8_feed_0 : decode cX8_feed 0 = .ok (.aload_n 0, 1) := by decide +kernel
theorem dX8_feed_1 : decode cX8_feed 1 = .ok (.iconst 0, 1) := by decide +kernel
theorem dX8_feed_2 : decode cX8_feed 2 = .ok (.putfield 75, 3) := by decide +kernel
theorem dX8_feed_5 : decode cX8_feed 5 = .ok (.aload_n 0, 1) := by decide +kernel
theorem dX8_feed_6 : decode cX8_feed 6 = .ok (.getfield 117, 3) := by decide +kernel
theorem dX8_feed_9 : decode cX8_feed 9 = .ok (.bipush 20, 2) := by decide +kernel
theorem dX8_feed_11 : decode cX8_feed 11 = .ok (.iadd, 1) := by decide +kernel
theorem dX8_feed_12 : decode cX8_feed 12 = .ok (.bipush 80, 2) := by decide +kernel
theorem dX8_feed_14 : decode cX8_feed 14 = .ok (.if_icmp .le 5, 3) := by decide +kernel
theorem dX8_feed_17 : decode cX8_feed 17 = .ok (.iconst (-1), 1) := by decide +kernel
theorem dX8_feed_18 : decode cX8_feed 18 = .ok (.ireturn, 1) := by decide +kernel
theorem dX8_feed_19 : decode cX8_feed 19 = .ok (.aload_n 0, 1) := by decide +kernel
theorem dX8_feed_20 : decode cX8_feed 20 = .ok (.iload_n 1, 1) := by decide +kernel
theorem dX8_feed_21 : decode cX8_feed 21 = .ok (.invokevirtual 120, 3) := by decide +kernel
theorem dX8_feed_24 : decode cX8_feed 24 = .ok (.aload_n 0, 1) := by decide +kernel
theorem dX8_feed_25 : decode cX8_feed 25 = .ok (.iload_n 2, 1) := by decide +kernel
theorem dX8_feed_26 : decode cX8_feed 26 = .ok (.invokevirtual 120, 3) := by decide +kernel
theorem dX8_feed_29 : decode cX8_feed 29 = .ok (.aload_n 0, 1) := by decide +kernel
theorem dX8_feed_30 : decode cX8_feed 30 = .ok (.iload_n 3, 1) := by decide +kernel
theorem dX8_feed_31 : decode cX8_feed 31 = .ok (.invokevirtual 120, 3) := by decide +kernel
theorem dX8_feed_34 : decode cX8_feed 34 = .ok (.aload_n 0, 1) := by decide +kernel
theorem dX8_feed_35 : decode cX8_feed 35 = .ok (.iload 4, 2) := by decide +kernel
theorem dX8_feed_37 : decode cX8_feed 37 = .ok (.invokevirtual 120, 3) := by decide +kernel
theorem dX8_feed_40 : decode cX8_feed 40 = .ok (.aload_n 0, 1) := by decide +kernel
theorem dX8_feed_41 : decode cX8_feed 41 = .ok (.iload 5, 2) := by decide +kernel
theorem dX8_feed_43 : decode cX8_feed 43 = .ok (.invokevirtual 120, 3) := by decide +kernel
theorem dX8_feed_46 : decode cX8_feed 46 = .ok (.aload_n 0, 1) := by decide +kernel
theorem dX8_feed_47 : decode cX8_feed 47 = .ok (.getfield 117, 3) := by decide +kernel
theorem dX8_feed_50 : decode cX8_feed 50 = .ok (.ireturn, 1) := by decide +kernel
theorem dX8_end_0 : decode cX8_end 0 = .ok (.aload_n 0, 1) := by decide +kernel
theorem dX8_end_1 : decode cX8_end 1 = .ok (.iconst 0, 1) := by decide +kernel
theorem dX8_end_2 : decode cX8_end 2 = .ok (.putfield 75, 3) := by decide +kernel
theorem dX8_end_5 : decode cX8_end 5 = .ok (.iload_n 1, 1) := by decide +kernel
theorem dX8_end_6 : decode cX8_end 6 = .ok (.iconst 0, 1) := by decide +kernel
theorem dX8_end_7 : decode cX8_end 7 = .ok (.aload_n 0, 1) := by decide +kernel
theorem dX8_end_8 : decode cX8_end 8 = .ok (.getfield 117, 3) := by decide +kernel
theorem dX8_end_11 : decode cX8_end 11 = .ok (.invokestatic 81, 3) := by decide +kernel
theorem dX8_end_14 : decode cX8_end 14 = .ok (.ifCond .ne 5, 3) := by decide +kernel
theorem dX8_end_17 : decode cX8_end 17 = .ok (.iconst (-1), 1) := by decide +kernel
theorem dX8_end_18 : decode cX8_end 18 = .ok (.ireturn, 1) := by decide +kernel
theorem dX8_end_19 : decode cX8_end 19 = .ok (.aload_n 0, 1) := by decide +kernel
theorem dX8_end_20 : decode cX8_end 20 = .ok (.iload_n 1, 1) := by decide +kernel
theorem dX8_end_21 : decode cX8_end 21 = .ok (.putfield 117, 3) := by decide +kernel
theorem dX8_end_24 : decode cX8_end 24 = .ok (.iload_n 1, 1) := by decide +kernel
theorem dX8_end_25 : decode cX8_end 25 = .ok (.ireturn, 1) := by decide +kernel
theorem dX8_piece_0 : decode cX8_piece 0 = .ok (.iload_n 2, 1) := by decide +kernel
theorem dX8_piece_1 : decode cX8_piece 1 = .ok (.iconst 1, 1) := by decide +kernel
theorem dX8_piece_2 : decode cX8_piece 2 = .ok (.if_icmp .ne 12, 3) := by decide +kernel
theorem dX8_piece_5 : decode cX8_piece 5 = .ok (.aload_n 0, 1) := by decide +kernel
theorem dX8_piece_6 : decode cX8_piece 6 = .ok (.getfield 48, 3) := by decide +kernel
theorem dX8_piece_9 : decode cX8_piece 9 = .ok (.iload_n 1, 1) := by decide +kernel
theorem dX8_piece_10 : decode cX8_piece 10 = .ok (.iaload, 1) := by decide +kernel
theorem dX8_piece_11 : decode cX8_piece 11 = .ok (.goto 22, 3) := by decide +kernel
theorem dX8_piece_14 : decode cX8_piece 14 = .ok (.sipush 256, 3) := by decide +kernel
theorem dX8_piece_17 : decode cX8_piece 17 = .ok (.aload_n 0, 1) := by decide +kernel
theorem dX8_piece_18 : decode cX8_piece 18 = .ok (.getfield 48, 3) := by decide +kernel
theorem dX8_piece_21 : decode cX8_piece 21 = .ok (.iload_n 1, 1) := by decide +kernel
theorem dX8_piece_22 : decode cX8_piece 22 = .ok (.iaload, 1) := by decide +kernel
theorem dX8_piece_23 : decode cX8_piece 23 = .ok (.imul, 1) := by decide +kernel
theorem dX8_piece_24 : decode cX8_piece 24 = .ok (.aload_n 0, 1) := by decide +kernel
theorem dX8_piece_25 : decode cX8_piece 25 = .ok (.getfield 48, 3) := by decide +kernel
theorem dX8_piece_28 : decode cX8_piece 28 = .ok (.iload_n 1, 1) := by decide +kernel
theorem dX8_piece_29 : decode cX8_piece 29 = .ok (.iconst 1, 1) := by decide +kernel
theorem dX8_piece_30 : decode cX8_piece 30 = .ok (.iadd, 1) := by decide +kernel
theorem dX8_piece_31 : decode cX8_piece 31 = .ok (.iaload, 1) := by decide +kernel
theorem dX8_piece_32 : decode cX8_piece 32 = .ok (.iadd, 1) := by decide +kernel
theorem dX8_piece_33 : decode cX8_piece 33 = .ok (.ireturn, 1) := by decide +kernel
theorem dX8_text_0 : decode cX8_text 0 = .ok (.aload_n 0, 1) := by decide +kernel
theorem dX8_text_1 : decode cX8_text 1 = .ok (.iconst 0, 1) := by decide +kernel
theorem dX8_text_2 : decode cX8_text 2 = .ok (.putfield 75, 3) := by decide +kernel
theorem dX8_text_5 : decode cX8_text 5 = .ok (.aload_n 0, 1) := by decide +kernel
theorem dX8_text_6 : decode cX8_text 6 = .ok (.iload_n 1, 1) := by decide +kernel
theorem dX8_text_7 : decode cX8_text 7 = .ok (.invokevirtual 85, 3) := by decide +kernel
theorem dX8_text_10 : decode cX8_text 10 = .ok (.ifCond .eq 12, 3) := by decide +kernel
theorem dX8_text_13 : decode cX8_text 13 = .ok (.iload_n 2, 1) := by decide +kernel
theorem dX8_text_14 : decode cX8_text 14 = .ok (.iconst 1, 1) := by decide +kernel
theorem dX8_text_15 : decode cX8_text 15 = .ok (.iconst 2, 1) := by decide +kernel
theorem dX8_text_16 : decode cX8_text 16 = .ok (.invokestatic 81, 3) := by decide +kernel
theorem dX8_text_19 : decode cX8_text 19 = .ok (.ifCond .ne 5, 3) := by decide +kernel
theorem dX8_text_22 : decode cX8_text 22 = .ok (.iconst (-1), 1) := by decide +kernel
theorem dX8_text_23 : decode cX8_text 23 = .ok (.ireturn, 1) := by decide +kernel
theorem dX8_text_24 : decode cX8_text 24 = .ok (.iconst 0, 1) := by decide +kernel
theorem dX8_text_25 : decode cX8_text 25 = .ok (.istore_n 3, 1) := by decide +kernel
theorem dX8_text_26 : decode cX8_text 26 = .ok (.iconst 0, 1) := by decide +kernel
theorem dX8_text_27 : decode cX8_text 27 = .ok (.istore 4, 2) := by decide +kernel
theorem dX8_text_29 : decode cX8_text 29 = .ok (.iload 4, 2) := by decide +kernel
theorem dX8_text_31 : decode cX8_text 31 = .ok (.iconst 2, 1) := by decide +kernel
theorem dX8_text_32 : decode cX8_text 32 = .ok (.if_icmp .ge 128, 3) := by decide +kernel
theorem dX8_text_35 : decode cX8_text 35 = .ok (.iconst 0, 1) := by decide +kernel
theorem dX8_text_36 : decode cX8_text 36 = .ok (.istore_n 3, 1) := by decide +kernel
theorem dX8_text_37 : decode cX8_text 37 = .ok (.iconst 0, 1) := by decide +kernel
theorem dX8_text_38 : decode cX8_text 38 = .ok (.istore 5, 2) := by decide +kernel
theorem dX8_text_40 : decode cX8_text 40 = .ok (.iload 5, 2) := by decide +kernel
theorem dX8_text_42 : decode cX8_text 42 = .ok (.iload_n 2, 1) := by decide +kernel
theorem dX8_text_43 : decode cX8_text 43 = .ok (.iadd, 1) := by decide +kernel
theorem dX8_text_44 : decode cX8_text 44 = .ok (.aload_n 0, 1) := by decide +kernel
theorem dX8_text_45 : decode cX8_text 45 = .ok (.getfield 117, 3) := by decide +kernel
theorem dX8_text_48 : decode cX8_text 48 = .ok (.if_icmp .gt 98, 3) := by decide +kernel
theorem dX8_text_51 : decode cX8_text 51 = .ok (.iconst 0, 1) := by decide +kernel
theorem dX8_text_52 : decode cX8_text 52 = .ok (.istore 6, 2) := by decide +kernel
theorem dX8_text_54 : decode cX8_text 54 = .ok (.iconst 0, 1) := by decide +kernel
theorem dX8_text_55 : decode cX8_text 55 = .ok (.istore 7, 2) := by decide +kernel
theorem dX8_text_57 : decode cX8_text 57 = .ok (.iload 7, 2) := by decide +kernel
theorem dX8_text_59 : decode cX8_text 59 = .ok (.iload 5, 2) := by decide +kernel
theorem dX8_text_61 : decode cX8_text 61 = .ok (.if_icmp .ge 36, 3) := by decide +kernel
theorem dX8_text_64 : decode cX8_text 64 = .ok (.iload 6, 2) := by decide +kernel
theorem dX8_text_66 : decode cX8_text 66 = .ok (.aload_n 0, 1) := by decide +kernel
theorem dX8_text_67 : decode cX8_text 67 = .ok (.iload 7, 2) := by decide +kernel
theorem dX8_text_69 : decode cX8_text 69 = .ok (.iload_n 2, 1) := by decide +kernel
theorem dX8_text_70 : decode cX8_text 70 = .ok (.invokevirtual 124, 3) := by decide +kernel
theorem dX8_text_73 : decode cX8_text 73 = .ok (.aload_n 0, 1) := by decide +kernel
theorem dX8_text_74 : decode cX8_text 74 = .ok (.iload 5, 2) := by decide +kernel
theorem dX8_text_76 : decode cX8_text 76 = .ok (.iload_n 2, 1) := by decide +kernel
theorem dX8_text_77 : decode cX8_text 77 = .ok (.invokevirtual 124, 3) := by decide +kernel
theorem dX8_text_80 : decode cX8_text 80 = .ok (.if_icmp .ne 7, 3) := by decide +kernel
theorem dX8_text_83 : decode cX8_text 83 = .ok (.iconst 1, 1) := by decide +kernel
theorem dX8_text_84 : decode cX8_text 84 = .ok (.goto 4, 3) := by decide +kernel
theorem dX8_text_87 : decode cX8_text 87 = .ok (.iconst 0, 1) := by decide +kernel
theorem dX8_text_88 : decode cX8_text 88 = .ok (.iadd, 1) := by decide +kernel
theorem dX8_text_89 : decode cX8_text 89 = .ok (.istore 6, 2) := by decide +kernel
theorem dX8_text_91 : decode cX8_text 91 = .ok (.iinc 7 1, 3) := by decide +kernel
theorem dX8_text_94 : decode cX8_text 94 = .ok (.goto (-37), 3) := by decide +kernel
theorem dX8_text_97 : decode cX8_text 97 = .ok (.iload 6, 2) := by decide +kernel
theorem dX8_text_99 : decode cX8_text 99 = .ok (.bipush 8, 2) := by decide +kernel
theorem dX8_text_101 : decode cX8_text 101 = .ok (.if_icmp .lt 6, 3) := by decide +kernel
theorem dX8_text_104 : decode cX8_text 104 = .ok (.goto 36, 3) := by decide +kernel
theorem dX8_text_107 : decode cX8_text 107 = .ok (.iload 4, 2) := by decide +kernel
theorem dX8_text_109 : decode cX8_text 109 = .ok (.iconst 1, 1) := by decide +kernel
theorem dX8_text_110 : decode cX8_text 110 = .ok (.if_icmp .ne 27, 3) := by decide +kernel
theorem dX8_text_113 : decode cX8_text 113 = .ok (.aload_n 0, 1) := by decide +kernel
theorem dX8_text_114 : decode cX8_text 114 = .ok (.getfield 17, 3) := by decide +kernel
theorem dX8_text_117 : decode cX8_text 117 = .ok (.bipush 30, 2) := by decide +kernel
theorem dX8_text_119 : decode cX8_text 119 = .ok (.iload_n 1, 1) := by decide +kernel
theorem dX8_text_120 : decode cX8_text 120 = .ok (.imul, 1) := by decide +kernel
theorem dX8_text_121 : decode cX8_text 121 = .ok (.iload_n 3, 1) := by decide +kernel
theorem dX8_text_122 : decode cX8_text 122 = .ok (.iadd, 1) := by decide +kernel
theorem dX8_text_123 : decode cX8_text 123 = .ok (.bipush 8, 2) := by decide +kernel
theorem dX8_text_125 : decode cX8_text 125 = .ok (.aload_n 0, 1) := by decide +kernel
theorem dX8_text_126 : decode cX8_text 126 = .ok (.iload 5, 2) := by decide +kernel
theorem dX8_text_128 : decode cX8_text 128 = .ok (.iload_n 2, 1) := by decide +kernel
theorem dX8_text_129 : decode cX8_text 129 = .ok (.invokevirtual 124, 3) := by decide +kernel
theorem dX8_text_132 : decode cX8_text 132 = .ok (.imul, 1) := by decide +kernel
theorem dX8_text_133 : decode cX8_text 133 = .ok (.iload 6, 2) := by decide +kernel
theorem dX8_text_135 : decode cX8_text 135 = .ok (.iadd, 1) := by decide +kernel
theorem dX8_text_136 : decode cX8_text 136 = .ok (.iastore, 1) := by decide +kernel
theorem dX8_text_137 : decode cX8_text 137 = .ok (.iinc 3 1, 3) := by decide +kernel
theorem dX8_text_140 : decode cX8_text 140 = .ok (.iinc 5 1, 3) := by decide +kernel
theorem dX8_text_143 : decode cX8_text 143 = .ok (.goto (-103), 3) := by decide +kernel
theorem dX8_text_146 : decode cX8_text 146 = .ok (.iload_n 3, 1) := by decide +kernel
theorem dX8_text_147 : decode cX8_text 147 = .ok (.bipush 30, 2) := by decide +kernel
theorem dX8_text_149 : decode cX8_text 149 = .ok (.if_icmp .le 5, 3) := by decide +kernel
theorem dX8_text_152 : decode cX8_text 152 = .ok (.iconst (-1), 1) := by decide +kernel
theorem dX8_text_153 : decode cX8_text 153 = .ok (.ireturn, 1) := by decide +kernel
theorem dX8_text_154 : decode cX8_text 154 = .ok (.iinc 4 1, 3) := by decide +kernel
theorem dX8_text_157 : decode cX8_text 157 = .ok (.goto (-128), 3) := by decide +kernel
theorem dX8_text_160 : decode cX8_text 160 = .ok (.aload_n 0, 1) := by decide +kernel
theorem dX8_text_161 : decode cX8_text 161 = .ok (.getfield 13, 3) := by decide +kernel
theorem dX8_text_164 : decode cX8_text 164 = .ok (.iload_n 1, 1) := by decide +kernel
theorem dX8_text_165 : decode cX8_text 165 = .ok (.iload_n 3, 1) := by decide +kernel
theorem dX8_text_166 : decode cX8_text 166 = .ok (.iastore, 1) := by decide +kernel
theorem dX8_text_167 : decode cX8_text 167 = .ok (.aload_n 0, 1) := by decide +kernel
theorem dX8_text_168 : decode cX8_text 168 = .ok (.iconst 0, 1) := by decide +kernel
theorem dX8_text_169 : decode cX8_text 169 = .ok (.putfield 117, 3) := by decide +kernel
theorem dX8_text_172 : decode cX8_text 172 = .ok (.iload_n 3, 1) := by decide +kernel
theorem dX8_text_173 : decode cX8_text 173 = .ok (.ireturn, 1) := by decide +kernel
theorem dX8_measure_0 : decode cX8_measure 0 = .ok (.aload_n 0, 1) := by decide +kernel
theorem dX8_measure_1 : decode cX8_measure 1 = .ok (.iconst 0, 1) := by decide +kernel
theorem dX8_measure_2 : decode cX8_measure 2 = .ok (.putfield 75, 3) := by decide +kernel
theorem dX8_measure_5 : decode cX8_measure 5 = .ok (.iload_n 1, 1) := by decide +kernel
theorem dX8_measure_6 : decode cX8_measure 6 = .ok (.ifCond .ne 27, 3) := by decide +kernel
theorem dX8_measure_9 : decode cX8_measure 9 = .ok (.iload_n 2, 1) := by decide +kernel
theorem dX8_measure_10 : decode cX8_measure 10 = .ok (.iconst 1, 1) := by decide +kernel
theorem dX8_measure_11 : decode cX8_measure 11 = .ok (.sipush 3000, 3) := by decide +kernel
theorem dX8_measure_14 : decode cX8_measure 14 = .ok (.invokestatic 81, 3) := by decide +kernel
theorem dX8_measure_17 : decode cX8_measure 17 = .ok (.ifCond .eq 12, 3) := by decide +kernel
theorem dX8_measure_20 : decode cX8_measure 20 = .ok (.iload_n 3, 1) := by decide +kernel
theorem dX8_measure_21 : decode cX8_measure 21 = .ok (.iconst 1, 1) := by decide +kernel
theorem dX8_measure_22 : decode cX8_measure 22 = .ok (.if_icmp .ne 7, 3) := by decide +kernel
theorem dX8_measure_25 : decode cX8_measure 25 = .ok (.iconst 1, 1) := by decide +kernel
theorem dX8_measure_26 : decode cX8_measure 26 = .ok (.goto 48, 3) := by decide +kernel
theorem dX8_measure_29 : decode cX8_measure 29 = .ok (.iconst 0, 1) := by decide +kernel
theorem dX8_measure_30 : decode cX8_measure 30 = .ok (.goto 44, 3) := by decide +kernel
theorem dX8_measure_33 : decode cX8_measure 33 = .ok (.iload_n 1, 1) := by decide +kernel
theorem dX8_measure_34 : decode cX8_measure 34 = .ok (.iconst 1, 1) := by decide +kernel
theorem dX8_measure_35 : decode cX8_measure 35 = .ok (.iconst 5, 1) := by decide +kernel
theorem dX8_measure_36 : decode cX8_measure 36 = .ok (.invokestatic 81, 3) := by decide +kernel
theorem dX8_measure_39 : decode cX8_measure 39 = .ok (.ifCond .eq 34, 3) := by decide +kernel
theorem dX8_measure_42 : decode cX8_measure 42 = .ok (.iload_n 2, 1) := by decide +kernel
theorem dX8_measure_43 : decode cX8_measure 43 = .ok (.iconst 1, 1) := by decide +kernel
theorem dX8_measure_44 : decode cX8_measure 44 = .ok (.sipush 1000, 3) := by decide +kernel
theorem dX8_measure_47 : decode cX8_measure 47 = .ok (.invokestatic 81, 3) := by decide +kernel
theorem dX8_measure_50 : decode cX8_measure 50 = .ok (.ifCond .eq 23, 3) := by decide +kernel
theorem dX8_measure_53 : decode cX8_measure 53 = .ok (.iload_n 3, 1) := by decide +kernel
theorem dX8_measure_54 : decode cX8_measure 54 = .ok (.iconst 1, 1) := by decide +kernel
theorem dX8_measure_55 : decode cX8_measure 55 = .ok (.sipush 1000, 3) := by decide +kernel
theorem dX8_measure_58 : decode cX8_measure 58 = .ok (.invokestatic 81, 3) := by decide +kernel
theorem dX8_measure_61 : decode cX8_measure 61 = .ok (.ifCond .eq 12, 3) := by decide +kernel
theorem dX8_measure_64 : decode cX8_measure 64 = .ok (.iload_n 2, 1) := by decide +kernel
theorem dX8_measure_65 : decode cX8_measure 65 = .ok (.iload_n 3, 1) := by decide +kernel
theorem dX8_measure_66 : decode cX8_measure 66 = .ok (.if_icmp .gt 7, 3) := by decide +kernel
theorem dX8_measure_69 : decode cX8_measure 69 = .ok (.iconst 1, 1) := by decide +kernel
theorem dX8_measure_70 : decode cX8_measure 70 = .ok (.goto 4, 3) := by decide +kernel
theorem dX8_measure_73 : decode cX8_measure 73 = .ok (.iconst 0, 1) := by decide +kernel
theorem dX8_measure_74 : decode cX8_measure 74 = .ok (.istore 4, 2) := by decide +kernel
theorem dX8_measure_76 : decode cX8_measure 76 = .ok (.iload 4, 2) := by decide +kernel
theorem dX8_measure_78 : decode cX8_measure 78 = .ok (.ifCond .ne 5, 3) := by decide +kernel
theorem dX8_measure_81 : decode cX8_measure 81 = .ok (.iconst 0, 1) := by decide +kernel
theorem dX8_measure_82 : decode cX8_measure 82 = .ok (.ireturn, 1) := by decide +kernel
theorem dX8_measure_83 : decode cX8_measure 83 = .ok (.aload_n 0, 1) := by decide +kernel
theorem dX8_measure_84 : decode cX8_measure 84 = .ok (.iload_n 1, 1) := by decide +kernel
theorem dX8_measure_85 : decode cX8_measure 85 = .ok (.putfield 32, 3) := by decide +kernel
theorem dX8_measure_88 : decode cX8_measure 88 = .ok (.aload_n 0, 1) := by decide +kernel
theorem dX8_measure_89 : decode cX8_measure 89 = .ok (.iload_n 2, 1) := by decide +kernel
theorem dX8_measure_90 : decode cX8_measure 90 = .ok (.putfield 36, 3) := by decide +kernel
theorem dX8_measure_93 : decode cX8_measure 93 = .ok (.aload_n 0, 1) := by decide +kernel
theorem dX8_measure_94 : decode cX8_measure 94 = .ok (.iload_n 3, 1) := by decide +kernel
theorem dX8_measure_95 : decode cX8_measure 95 = .ok (.putfield 39, 3) := by decide +kernel
theorem dX8_measure_98 : decode cX8_measure 98 = .ok (.iconst 1, 1) := by decide +kernel
theorem dX8_measure_99 : decode cX8_measure 99 = .ok (.ireturn, 1) := by decide +kernel
theorem dX8_order_0 : decode cX8_order 0 = .ok (.aload_n 0, 1) := by decide +kernel
theorem dX8_order_1 : decode cX8_order 1 = .ok (.iconst 0, 1) := by decide +kernel
theorem dX8_order_2 : decode cX8_order 2 = .ok (.putfield 75, 3) := by decide +kernel
theorem dX8_order_5 : decode cX8_order 5 = .ok (.aload_n 0, 1) := by decide +kernel
theorem dX8_order_6 : decode cX8_order 6 = .ok (.iconst 0, 1) := by decide +kernel
theorem dX8_order_7 : decode cX8_order 7 = .ok (.putfield 103, 3) := by decide +kernel
theorem dX8_order_10 : decode cX8_order 10 = .ok (.iconst 0, 1) := by decide +kernel
theorem dX8_order_11 : decode cX8_order 11 = .ok (.istore_n 1, 1) := by decide +kernel
theorem dX8_order_12 : decode cX8_order 12 = .ok (.iload_n 1, 1) := by decide +kernel
theorem dX8_order_13 : decode cX8_order 13 = .ok (.aload_n 0, 1) := by decide +kernel
theorem dX8_order_14 : decode cX8_order 14 = .ok (.getfield 78, 3) := by decide +kernel
theorem dX8_order_17 : decode cX8_order 17 = .ok (.if_icmp .ge 126, 3) := by decide +kernel
theorem dX8_order_20 : decode cX8_order 20 = .ok (.aload_n 0, 1) := by decide +kernel
theorem dX8_order_21 : decode cX8_order 21 = .ok (.getfield 9, 3) := by decide +kernel
theorem dX8_order_24 : decode cX8_order 24 = .ok (.iload_n 1, 1) := by decide +kernel
theorem dX8_order_25 : decode cX8_order 25 = .ok (.baload, 1) := by decide +kernel
theorem dX8_order_26 : decode cX8_order 26 = .ok (.ifCond .eq 6, 3) := by decide +kernel
theorem dX8_order_29 : decode cX8_order 29 = .ok (.goto 108, 3) := by decide +kernel
theorem dX8_order_32 : decode cX8_order 32 = .ok (.iconst 0, 1) := by decide +kernel
theorem dX8_order_33 : decode cX8_order 33 = .ok (.istore_n 2, 1) := by decide +kernel
theorem dX8_order_34 : decode cX8_order 34 = .ok (.iload_n 2, 1) := by decide +kernel
theorem dX8_order_35 : decode cX8_order 35 = .ok (.aload_n 0, 1) := by decide +kernel
theorem dX8_order_36 : decode cX8_order 36 = .ok (.getfield 13, 3) := by decide +kernel
theorem dX8_order_39 : decode cX8_order 39 = .ok (.iload_n 1, 1) := by decide +kernel
theorem dX8_order_40 : decode cX8_order 40 = .ok (.iaload, 1) := by decide +kernel
theorem dX8_order_41 : decode cX8_order 41 = .ok (.if_icmp .ge 96, 3) := by decide +kernel
theorem dX8_order_44 : decode cX8_order 44 = .ok (.aload_n 0, 1) := by decide +kernel
theorem dX8_order_45 : decode cX8_order 45 = .ok (.getfield 17, 3) := by decide +kernel
theorem dX8_order_48 : decode cX8_order 48 = .ok (.bipush 30, 2) := by decide +kernel
theorem dX8_order_50 : decode cX8_order 50 = .ok (.iload_n 1, 1) := by decide +kernel
theorem dX8_order_51 : decode cX8_order 51 = .ok (.imul, 1) := by decide +kernel
theorem dX8_order_52 : decode cX8_order 52 = .ok (.iload_n 2, 1) := by decide +kernel
theorem dX8_order_53 : decode cX8_order 53 = .ok (.iadd, 1) := by decide +kernel
theorem dX8_order_54 : decode cX8_order 54 = .ok (.iaload, 1) := by decide +kernel
theorem dX8_order_55 : decode cX8_order 55 = .ok (.istore_n 3, 1) := by decide +kernel
theorem dX8_order_56 : decode cX8_order 56 = .ok (.iconst 0, 1) := by decide +kernel
theorem dX8_order_57 : decode cX8_order 57 = .ok (.istore 4, 2) := by decide +kernel
theorem dX8_order_59 : decode cX8_order 59 = .ok (.iload 4, 2) := by decide +kernel
theorem dX8_order_61 : decode cX8_order 61 = .ok (.aload_n 0, 1) := by decide +kernel
theorem dX8_order_62 : decode cX8_order 62 = .ok (.getfield 103, 3) := by decide +kernel
theorem dX8_order_65 : decode cX8_order 65 = .ok (.if_icmp .ge 20, 3) := by decide +kernel
theorem dX8_order_68 : decode cX8_order 68 = .ok (.aload_n 0, 1) := by decide +kernel
theorem dX8_order_69 : decode cX8_order 69 = .ok (.getfield 26, 3) := by decide +kernel
theorem dX8_order_72 : decode cX8_order 72 = .ok (.iload 4, 2) := by decide +kernel
theorem dX8_order_74 : decode cX8_order 74 = .ok (.iaload, 1) := by decide +kernel
theorem dX8_order_75 : decode cX8_order 75 = .ok (.iload_n 3, 1) := by decide +kernel
theorem dX8_order_76 : decode cX8_order 76 = .ok (.if_icmp .eq 9, 3) := by decide +kernel
theorem dX8_order_79 : decode cX8_order 79 = .ok (.iinc 4 1, 3) := by decide +kernel
theorem dX8_order_82 : decode cX8_order 82 = .ok (.goto (-23), 3) := by decide +kernel
theorem dX8_order_85 : decode cX8_order 85 = .ok (.iload 4, 2) := by decide +kernel
theorem dX8_order_87 : decode cX8_order 87 = .ok (.aload_n 0, 1) := by decide +kernel
theorem dX8_order_88 : decode cX8_order 88 = .ok (.getfield 103, 3) := by decide +kernel
theorem dX8_order_91 : decode cX8_order 91 = .ok (.if_icmp .ne 29, 3) := by decide +kernel
theorem dX8_order_94 : decode cX8_order 94 = .ok (.aload_n 0, 1) := by decide +kernel
theorem dX8_order_95 : decode cX8_order 95 = .ok (.getfield 26, 3) := by decide +kernel
theorem dX8_order_98 : decode cX8_order 98 = .ok (.iload 4, 2) := by decide +kernel
theorem dX8_order_100 : decode cX8_order 100 = .ok (.iload_n 3, 1) := by decide +kernel
theorem dX8_order_101 : decode cX8_order 101 = .ok (.iastore, 1) := by decide +kernel
theorem dX8_order_102 : decode cX8_order 102 = .ok (.aload_n 0, 1) := by decide +kernel
theorem dX8_order_103 : decode cX8_order 103 = .ok (.getfield 29, 3) := by decide +kernel
theorem dX8_order_106 : decode cX8_order 106 = .ok (.iload 4, 2) := by decide +kernel
theorem dX8_order_108 : decode cX8_order 108 = .ok (.iconst 0, 1) := by decide +kernel
theorem dX8_order_109 : decode cX8_order 109 = .ok (.iastore, 1) := by decide +kernel
theorem dX8_order_110 : decode cX8_order 110 = .ok (.aload_n 0, 1) := by decide +kernel
theorem dX8_order_111 : decode cX8_order 111 = .ok (.dup, 1) := by decide +kernel
theorem dX8_order_112 : decode cX8_order 112 = .ok (.getfield 103, 3) := by decide +kernel
theorem dX8_order_115 : decode cX8_order 115 = .ok (.iconst 1, 1) := by decide +kernel
theorem dX8_order_116 : decode cX8_order 116 = .ok (.iadd, 1) := by decide +kernel
theorem dX8_order_117 : decode cX8_order 117 = .ok (.putfield 103, 3) := by decide +kernel
theorem dX8_order_120 : decode cX8_order 120 = .ok (.aload_n 0, 1) := by decide +kernel
theorem dX8_order_121 : decode cX8_order 121 = .ok (.getfield 29, 3) := by decide +kernel
theorem dX8_order_124 : decode cX8_order 124 = .ok (.iload 4, 2) := by decide +kernel
theorem dX8_order_126 : decode cX8_order 126 = .ok (.dup2, 1) := by decide +kernel
theorem dX8_order_127 : decode cX8_order 127 = .ok (.iaload, 1) := by decide +kernel
theorem dX8_order_128 : decode cX8_order 128 = .ok (.iconst 1, 1) := by decide +kernel
theorem dX8_order_129 : decode cX8_order 129 = .ok (.iadd, 1) := by decide +kernel
theorem dX8_order_130 : decode cX8_order 130 = .ok (.iastore, 1) := by decide +kernel
theorem dX8_order_131 : decode cX8_order 131 = .ok (.iinc 2 1, 3) := by decide +kernel
theorem dX8_order_134 : decode cX8_order 134 = .ok (.goto (-100), 3) := by decide +kernel
theorem dX8_order_137 : decode cX8_order 137 = .ok (.iinc 1 1, 3) := by decide +kernel
theorem dX8_order_140 : decode cX8_order 140 = .ok (.goto (-128), 3) := by decide +kernel
theorem dX8_order_143 : decode cX8_order 143 = .ok (.aload_n 0, 1) := by decide +kernel
theorem dX8_order_144 : decode cX8_order 144 = .ok (.getfield 103, 3) := by decide +kernel
theorem dX8_order_147 : decode cX8_order 147 = .ok (.ireturn, 1) := by decide +kernel
theorem dX8_frequency_0 : decode cX8_frequency 0 = .ok (.aload_n 0, 1) := by decide +kernel
theorem dX8_frequency_1 : decode cX8_frequency 1 = .ok (.iconst 0, 1) := by decide +kernel
theorem dX8_frequency_2 : decode cX8_frequency 2 = .ok (.putfield 75, 3) := by decide +kernel
theorem dX8_frequency_5 : decode cX8_frequency 5 = .ok (.aload_n 0, 1) := by decide +kernel
theorem dX8_frequency_6 : decode cX8_frequency 6 = .ok (.iload_n 1, 1) := by decide +kernel
theorem dX8_frequency_7 : decode cX8_frequency 7 = .ok (.invokevirtual 106, 3) := by decide +kernel
theorem dX8_frequency_10 : decode cX8_frequency 10 = .ok (.ireturn, 1) := by decide +kernel
theorem dX8_up_0 : decode cX8_up 0 = .ok (.lload_n 0, 1) := by decide +kernel
theorem dX8_up_1 : decode cX8_up 1 = .ok (.lload_n 2, 1) := by decide +kernel
theorem dX8_up_2 : decode cX8_up 2 = .ok (.ladd, 1) := by decide +kernel
theorem dX8_up_3 : decode cX8_up 3 = .ok (.lconst 1, 1) := by decide +kernel
theorem dX8_up_4 : decode cX8_up 4 = .ok (.lsub, 1) := by decide +kernel
theorem dX8_up_5 : decode cX8_up 5 = .ok (.lload_n 2, 1) := by decide +kernel
theorem dX8_up_6 : decode cX8_up 6 = .ok (.ldiv, 1) := by decide +kernel
theorem dX8_up_7 : decode cX8_up 7 = .ok (.lreturn, 1) := by decide +kernel
theorem dX8_needed_0 : decode cX8_needed 0 = .ok (.lload_n 1, 1) := by decide +kernel
theorem dX8_needed_1 : decode cX8_needed 1 = .ok (.lload_n 3, 1) := by decide +kernel
theorem dX8_needed_2 : decode cX8_needed 2 = .ok (.lcmp, 1) := by decide +kernel
theorem dX8_needed_3 : decode cX8_needed 3 = .ok (.ifCond .ge 7, 3) := by decide +kernel
theorem dX8_needed_6 : decode cX8_needed 6 = .ok (.lload_n 1, 1) := by decide +kernel
theorem dX8_needed_7 : decode cX8_needed 7 = .ok (.goto 4, 3) := by decide +kernel
theorem dX8_needed_10 : decode cX8_needed 10 = .ok (.lload_n 3, 1) := by decide +kernel
theorem dX8_needed_11 : decode cX8_needed 11 = .ok (.lstore 5, 2) := by decide +kernel
theorem dX8_needed_13 : decode cX8_needed 13 = .ok (.aload_n 0, 1) := by decide +kernel
theorem dX8_needed_14 : decode cX8_needed 14 = .ok (.getfield 32, 3) := by decide +kernel
theorem dX8_needed_17 : decode cX8_needed 17 = .ok (.tableswitch 131 0 4 #[35, 131, 41, 63, 114], 35) := by decide +kernel
theorem dX8_needed_52 : decode cX8_needed 52 = .ok (.aload_n 0, 1) := by decide +kernel
theorem dX8_needed_53 : decode cX8_needed 53 = .ok (.getfield 36, 3) := by decide +kernel
theorem dX8_needed_56 : decode cX8_needed 56 = .ok (.i2l, 1) := by decide +kernel
theorem dX8_needed_57 : decode cX8_needed 57 = .ok (.lreturn, 1) := by decide +kernel
theorem dX8_needed_58 : decode cX8_needed 58 = .ok (.aload_n 0, 1) := by decide +kernel
theorem dX8_needed_59 : decode cX8_needed 59 = .ok (.getfield 36, 3) := by decide +kernel
theorem dX8_needed_62 : decode cX8_needed 62 = .ok (.i2l, 1) := by decide +kernel
theorem dX8_needed_63 : decode cX8_needed 63 = .ok (.lload_n 1, 1) := by decide +kernel
theorem dX8_needed_64 : decode cX8_needed 64 = .ok (.lload_n 3, 1) := by decide +kernel
theorem dX8_needed_65 : decode cX8_needed 65 = .ok (.ladd, 1) := by decide +kernel
theorem dX8_needed_66 : decode cX8_needed 66 = .ok (.lmul, 1) := by decide +kernel
theorem dX8_needed_67 : decode cX8_needed 67 = .ok (.ldc2_w 127, 3) := by decide +kernel
theorem dX8_needed_70 : decode cX8_needed 70 = .ok (.aload_n 0, 1) := by decide +kernel
theorem dX8_needed_71 : decode cX8_needed 71 = .ok (.getfield 39, 3) := by decide +kernel
theorem dX8_needed_74 : decode cX8_needed 74 = .ok (.i2l, 1) := by decide +kernel
theorem dX8_needed_75 : decode cX8_needed 75 = .ok (.lmul, 1) := by decide +kernel
theorem dX8_needed_76 : decode cX8_needed 76 = .ok (.invokestatic 129, 3) := by decide +kernel
theorem dX8_needed_79 : decode cX8_needed 79 = .ok (.lreturn, 1) := by decide +kernel
theorem dX8_needed_80 : decode cX8_needed 80 = .ok (.lconst 0, 1) := by decide +kernel
theorem dX8_needed_81 : decode cX8_needed 81 = .ok (.lstore 7, 2) := by decide +kernel
theorem dX8_needed_83 : decode cX8_needed 83 = .ok (.lload 7, 2) := by decide +kernel
theorem dX8_needed_85 : decode cX8_needed 85 = .ok (.lload 7, 2) := by decide +kernel
theorem dX8_needed_87 : decode cX8_needed 87 = .ok (.lmul, 1) := by decide +kernel
theorem dX8_needed_88 : decode cX8_needed 88 = .ok (.aload_n 0, 1) := by decide +kernel
theorem dX8_needed_89 : decode cX8_needed 89 = .ok (.getfield 39, 3) := by decide +kernel
theorem dX8_needed_92 : decode cX8_needed 92 = .ok (.i2l, 1) := by decide +kernel
theorem dX8_needed_93 : decode cX8_needed 93 = .ok (.lmul, 1) := by decide +kernel
theorem dX8_needed_94 : decode cX8_needed 94 = .ok (.aload_n 0, 1) := by decide +kernel
theorem dX8_needed_95 : decode cX8_needed 95 = .ok (.getfield 39, 3) := by decide +kernel
theorem dX8_needed_98 : decode cX8_needed 98 = .ok (.i2l, 1) := by decide +kernel
theorem dX8_needed_99 : decode cX8_needed 99 = .ok (.lmul, 1) := by decide +kernel
theorem dX8_needed_100 : decode cX8_needed 100 = .ok (.lload_n 1, 1) := by decide +kernel
theorem dX8_needed_101 : decode cX8_needed 101 = .ok (.lload_n 3, 1) := by decide +kernel
theorem dX8_needed_102 : decode cX8_needed 102 = .ok (.lmul, 1) := by decide +kernel
theorem dX8_needed_103 : decode cX8_needed 103 = .ok (.aload_n 0, 1) := by decide +kernel
theorem dX8_needed_104 : decode cX8_needed 104 = .ok (.getfield 36, 3) := by decide +kernel
theorem dX8_needed_107 : decode cX8_needed 107 = .ok (.i2l, 1) := by decide +kernel
theorem dX8_needed_108 : decode cX8_needed 108 = .ok (.lmul, 1) := by decide +kernel
theorem dX8_needed_109 : decode cX8_needed 109 = .ok (.aload_n 0, 1) := by decide +kernel
theorem dX8_needed_110 : decode cX8_needed 110 = .ok (.getfield 36, 3) := by decide +kernel
theorem dX8_needed_113 : decode cX8_needed 113 = .ok (.i2l, 1) := by decide +kernel
theorem dX8_needed_114 : decode cX8_needed 114 = .ok (.lmul, 1) := by decide +kernel
theorem dX8_needed_115 : decode cX8_needed 115 = .ok (.lcmp, 1) := by decide +kernel
theorem dX8_needed_116 : decode cX8_needed 116 = .ok (.ifCond .ge 12, 3) := by decide +kernel
theorem dX8_needed_119 : decode cX8_needed 119 = .ok (.lload 7, 2) := by decide +kernel
theorem dX8_needed_121 : decode cX8_needed 121 = .ok (.lconst 1, 1) := by decide +kernel
theorem dX8_needed_122 : decode cX8_needed 122 = .ok (.ladd, 1) := by decide +kernel
theorem dX8_needed_123 : decode cX8_needed 123 = .ok (.lstore 7, 2) := by decide +kernel
theorem dX8_needed_125 : decode cX8_needed 125 = .ok (.goto (-42), 3) := by decide +kernel
theorem dX8_needed_128 : decode cX8_needed 128 = .ok (.lload 7, 2) := by decide +kernel
theorem dX8_needed_130 : decode cX8_needed 130 = .ok (.lreturn, 1) := by decide +kernel
theorem dX8_needed_131 : decode cX8_needed 131 = .ok (.aload_n 0, 1) := by decide +kernel
theorem dX8_needed_132 : decode cX8_needed 132 = .ok (.getfield 36, 3) := by decide +kernel
theorem dX8_needed_135 : decode cX8_needed 135 = .ok (.i2l, 1) := by decide +kernel
theorem dX8_needed_136 : decode cX8_needed 136 = .ok (.lload 5, 2) := by decide +kernel
theorem dX8_needed_138 : decode cX8_needed 138 = .ok (.lmul, 1) := by decide +kernel
theorem dX8_needed_139 : decode cX8_needed 139 = .ok (.aload_n 0, 1) := by decide +kernel
theorem dX8_needed_140 : decode cX8_needed 140 = .ok (.getfield 39, 3) := by decide +kernel
theorem dX8_needed_143 : decode cX8_needed 143 = .ok (.i2l, 1) := by decide +kernel
theorem dX8_needed_144 : decode cX8_needed 144 = .ok (.invokestatic 129, 3) := by decide +kernel
theorem dX8_needed_147 : decode cX8_needed 147 = .ok (.lreturn, 1) := by decide +kernel
theorem dX8_needed_148 : decode cX8_needed 148 = .ok (.aload_n 0, 1) := by decide +kernel
theorem dX8_needed_149 : decode cX8_needed 149 = .ok (.getfield 36, 3) := by decide +kernel
theorem dX8_needed_152 : decode cX8_needed 152 = .ok (.i2l, 1) := by decide +kernel
theorem dX8_needed_153 : decode cX8_needed 153 = .ok (.lload_n 1, 1) := by decide +kernel
theorem dX8_needed_154 : decode cX8_needed 154 = .ok (.lload_n 3, 1) := by decide +kernel
theorem dX8_needed_155 : decode cX8_needed 155 = .ok (.ladd, 1) := by decide +kernel
theorem dX8_needed_156 : decode cX8_needed 156 = .ok (.lmul, 1) := by decide +kernel
theorem dX8_needed_157 : decode cX8_needed 157 = .ok (.aload_n 0, 1) := by decide +kernel
theorem dX8_needed_158 : decode cX8_needed 158 = .ok (.getfield 36, 3) := by decide +kernel
theorem dX8_needed_161 : decode cX8_needed 161 = .ok (.i2l, 1) := by decide +kernel
theorem dX8_needed_162 : decode cX8_needed 162 = .ok (.aload_n 0, 1) := by decide +kernel
theorem dX8_needed_163 : decode cX8_needed 163 = .ok (.getfield 39, 3) := by decide +kernel
theorem dX8_needed_166 : decode cX8_needed 166 = .ok (.i2l, 1) := by decide +kernel
theorem dX8_needed_167 : decode cX8_needed 167 = .ok (.ladd, 1) := by decide +kernel
theorem dX8_needed_168 : decode cX8_needed 168 = .ok (.invokestatic 129, 3) := by decide +kernel
theorem dX8_needed_171 : decode cX8_needed 171 = .ok (.lreturn, 1) := by decide +kernel
theorem dX8_least_0 : decode cX8_least 0 = .ok (.aload_n 0, 1) := by decide +kernel
theorem dX8_least_1 : decode cX8_least 1 = .ok (.getfield 32, 3) := by decide +kernel
theorem dX8_least_4 : decode cX8_least 4 = .ok (.tableswitch 98 0 4 #[36, 98, 42, 68, 96], 36) := by decide +kernel
theorem dX8_least_40 : decode cX8_least 40 = .ok (.aload_n 0, 1) := by decide +kernel
theorem dX8_least_41 : decode cX8_least 41 = .ok (.getfield 36, 3) := by decide +kernel
theorem dX8_least_44 : decode cX8_least 44 = .ok (.i2l, 1) := by decide +kernel
theorem dX8_least_45 : decode cX8_least 45 = .ok (.lreturn, 1) := by decide +kernel
theorem dX8_least_46 : decode cX8_least 46 = .ok (.aload_n 0, 1) := by decide +kernel
theorem dX8_least_47 : decode cX8_least 47 = .ok (.getfield 36, 3) := by decide +kernel
theorem dX8_least_50 : decode cX8_least 50 = .ok (.i2l, 1) := by decide +kernel
theorem dX8_least_51 : decode cX8_least 51 = .ok (.lload_n 1, 1) := by decide +kernel
theorem dX8_least_52 : decode cX8_least 52 = .ok (.lmul, 1) := by decide +kernel
theorem dX8_least_53 : decode cX8_least 53 = .ok (.ldc2_w 127, 3) := by decide +kernel
theorem dX8_least_56 : decode cX8_least 56 = .ok (.aload_n 0, 1) := by decide +kernel
theorem dX8_least_57 : decode cX8_least 57 = .ok (.getfield 39, 3) := by decide +kernel
theorem dX8_least_60 : decode cX8_least 60 = .ok (.i2l, 1) := by decide +kernel
theorem dX8_least_61 : decode cX8_least 61 = .ok (.lmul, 1) := by decide +kernel
theorem dX8_least_62 : decode cX8_least 62 = .ok (.aload_n 0, 1) := by decide +kernel
theorem dX8_least_63 : decode cX8_least 63 = .ok (.getfield 36, 3) := by decide +kernel
theorem dX8_least_66 : decode cX8_least 66 = .ok (.i2l, 1) := by decide +kernel
theorem dX8_least_67 : decode cX8_least 67 = .ok (.lsub, 1) := by decide +kernel
theorem dX8_least_68 : decode cX8_least 68 = .ok (.invokestatic 129, 3) := by decide +kernel
theorem dX8_least_71 : decode cX8_least 71 = .ok (.lreturn, 1) := by decide +kernel
theorem dX8_least_72 : decode cX8_least 72 = .ok (.lload_n 1, 1) := by decide +kernel
theorem dX8_least_73 : decode cX8_least 73 = .ok (.aload_n 0, 1) := by decide +kernel
theorem dX8_least_74 : decode cX8_least 74 = .ok (.getfield 36, 3) := by decide +kernel
theorem dX8_least_77 : decode cX8_least 77 = .ok (.i2l, 1) := by decide +kernel
theorem dX8_least_78 : decode cX8_least 78 = .ok (.lmul, 1) := by decide +kernel
theorem dX8_least_79 : decode cX8_least 79 = .ok (.aload_n 0, 1) := by decide +kernel
theorem dX8_least_80 : decode cX8_least 80 = .ok (.getfield 36, 3) := by decide +kernel
theorem dX8_least_83 : decode cX8_least 83 = .ok (.i2l, 1) := by decide +kernel
theorem dX8_least_84 : decode cX8_least 84 = .ok (.lmul, 1) := by decide +kernel
theorem dX8_least_85 : decode cX8_least 85 = .ok (.aload_n 0, 1) := by decide +kernel
theorem dX8_least_86 : decode cX8_least 86 = .ok (.getfield 39, 3) := by decide +kernel
theorem dX8_least_89 : decode cX8_least 89 = .ok (.i2l, 1) := by decide +kernel
theorem dX8_least_90 : decode cX8_least 90 = .ok (.aload_n 0, 1) := by decide +kernel
theorem dX8_least_91 : decode cX8_least 91 = .ok (.getfield 39, 3) := by decide +kernel
theorem dX8_least_94 : decode cX8_least 94 = .ok (.i2l, 1) := by decide +kernel
theorem dX8_least_95 : decode cX8_least 95 = .ok (.lmul, 1) := by decide +kernel
theorem dX8_least_96 : decode cX8_least 96 = .ok (.invokestatic 129, 3) := by decide +kernel
theorem dX8_least_99 : decode cX8_least 99 = .ok (.lreturn, 1) := by decide +kernel
theorem dX8_least_100 : decode cX8_least 100 = .ok (.lconst 1, 1) := by decide +kernel
theorem dX8_least_101 : decode cX8_least 101 = .ok (.lreturn, 1) := by decide +kernel
theorem dX8_least_102 : decode cX8_least 102 = .ok (.aload_n 0, 1) := by decide +kernel
theorem dX8_least_103 : decode cX8_least 103 = .ok (.getfield 36, 3) := by decide +kernel
theorem dX8_least_106 : decode cX8_least 106 = .ok (.i2l, 1) := by decide +kernel
theorem dX8_least_107 : decode cX8_least 107 = .ok (.lload_n 1, 1) := by decide +kernel
theorem dX8_least_108 : decode cX8_least 108 = .ok (.lmul, 1) := by decide +kernel
theorem dX8_least_109 : decode cX8_least 109 = .ok (.aload_n 0, 1) := by decide +kernel
theorem dX8_least_110 : decode cX8_least 110 = .ok (.getfield 39, 3) := by decide +kernel
theorem dX8_least_113 : decode cX8_least 113 = .ok (.i2l, 1) := by decide +kernel
theorem dX8_least_114 : decode cX8_least 114 = .ok (.invokestatic 129, 3) := by decide +kernel
theorem dX8_least_117 : decode cX8_least 117 = .ok (.lreturn, 1) := by decide +kernel
theorem dX8_divisor_0 : decode cX8_divisor 0 = .ok (.lload_n 2, 1) := by decide +kernel
theorem dX8_divisor_1 : decode cX8_divisor 1 = .ok (.lconst 0, 1) := by decide +kernel
theorem dX8_divisor_2 : decode cX8_divisor 2 = .ok (.lcmp, 1) := by decide +kernel
theorem dX8_divisor_3 : decode cX8_divisor 3 = .ok (.ifCond .ne 7, 3) := by decide +kernel
theorem dX8_divisor_6 : decode cX8_divisor 6 = .ok (.lload_n 0, 1) := by decide +kernel
theorem dX8_divisor_7 : decode cX8_divisor 7 = .ok (.goto 10, 3) := by decide +kernel
theorem dX8_divisor_10 : decode cX8_divisor 10 = .ok (.lload_n 2, 1) := by decide +kernel
theorem dX8_divisor_11 : decode cX8_divisor 11 = .ok (.lload_n 0, 1) := by decide +kernel
theorem dX8_divisor_12 : decode cX8_divisor 12 = .ok (.lload_n 2, 1) := by decide +kernel
theorem dX8_divisor_13 : decode cX8_divisor 13 = .ok (.lrem, 1) := by decide +kernel
theorem dX8_divisor_14 : decode cX8_divisor 14 = .ok (.invokestatic 133, 3) := by decide +kernel
theorem dX8_divisor_17 : decode cX8_divisor 17 = .ok (.lreturn, 1) := by decide +kernel
theorem dX8_above_0 : decode cX8_above 0 = .ok (.lload 5, 2) := by decide +kernel
theorem dX8_above_2 : decode cX8_above 2 = .ok (.lconst 0, 1) := by decide +kernel
theorem dX8_above_3 : decode cX8_above 3 = .ok (.lcmp, 1) := by decide +kernel
theorem dX8_above_4 : decode cX8_above 4 = .ok (.ifCond .ne 7, 3) := by decide +kernel
theorem dX8_above_7 : decode cX8_above 7 = .ok (.lconst 0, 1) := by decide +kernel
theorem dX8_above_8 : decode cX8_above 8 = .ok (.goto 38, 3) := by decide +kernel
theorem dX8_above_11 : decode cX8_above 11 = .ok (.aload_n 0, 1) := by decide +kernel
theorem dX8_above_12 : decode cX8_above 12 = .ok (.getfield 32, 3) := by decide +kernel
theorem dX8_above_15 : decode cX8_above 15 = .ok (.iconst 2, 1) := by decide +kernel
theorem dX8_above_16 : decode cX8_above 16 = .ok (.if_icmp .ne 12, 3) := by decide +kernel
theorem dX8_above_19 : decode cX8_above 19 = .ok (.ldc2_w 127, 3) := by decide +kernel
theorem dX8_above_22 : decode cX8_above 22 = .ok (.lload 5, 2) := by decide +kernel
theorem dX8_above_24 : decode cX8_above 24 = .ok (.lmul, 1) := by decide +kernel
theorem dX8_above_25 : decode cX8_above 25 = .ok (.goto 21, 3) := by decide +kernel
theorem dX8_above_28 : decode cX8_above 28 = .ok (.aload_n 0, 1) := by decide +kernel
theorem dX8_above_29 : decode cX8_above 29 = .ok (.getfield 32, 3) := by decide +kernel
theorem dX8_above_32 : decode cX8_above 32 = .ok (.iconst 3, 1) := by decide +kernel
theorem dX8_above_33 : decode cX8_above 33 = .ok (.if_icmp .ne 11, 3) := by decide +kernel
theorem dX8_above_36 : decode cX8_above 36 = .ok (.lload 5, 2) := by decide +kernel
theorem dX8_above_38 : decode cX8_above 38 = .ok (.lload 5, 2) := by decide +kernel
theorem dX8_above_40 : decode cX8_above 40 = .ok (.lmul, 1) := by decide +kernel
theorem dX8_above_41 : decode cX8_above 41 = .ok (.goto 5, 3) := by decide +kernel
theorem dX8_above_44 : decode cX8_above 44 = .ok (.lload 5, 2) := by decide +kernel
theorem dX8_above_46 : decode cX8_above 46 = .ok (.lreturn, 1) := by decide +kernel
theorem dX8_below_0 : decode cX8_below 0 = .ok (.lload 5, 2) := by decide +kernel
theorem dX8_below_2 : decode cX8_below 2 = .ok (.lconst 0, 1) := by decide +kernel
theorem dX8_below_3 : decode cX8_below 3 = .ok (.lcmp, 1) := by decide +kernel
theorem dX8_below_4 : decode cX8_below 4 = .ok (.ifCond .ne 5, 3) := by decide +kernel
theorem dX8_below_7 : decode cX8_below 7 = .ok (.lconst 1, 1) := by decide +kernel
theorem dX8_below_8 : decode cX8_below 8 = .ok (.lreturn, 1) := by decide +kernel
theorem dX8_below_9 : decode cX8_below 9 = .ok (.aload_n 0, 1) := by decide +kernel
theorem dX8_below_10 : decode cX8_below 10 = .ok (.getfield 32, 3) := by decide +kernel
theorem dX8_below_13 : decode cX8_below 13 = .ok (.tableswitch 57 0 4 #[35, 57, 37, 41, 45], 35) := by decide +kernel
theorem dX8_below_48 : decode cX8_below 48 = .ok (.lconst 1, 1) := by decide +kernel
theorem dX8_below_49 : decode cX8_below 49 = .ok (.lreturn, 1) := by decide +kernel
theorem dX8_below_50 : decode cX8_below 50 = .ok (.lload_n 1, 1) := by decide +kernel
theorem dX8_below_51 : decode cX8_below 51 = .ok (.lload_n 3, 1) := by decide +kernel
theorem dX8_below_52 : decode cX8_below 52 = .ok (.ladd, 1) := by decide +kernel
theorem dX8_below_53 : decode cX8_below 53 = .ok (.lreturn, 1) := by decide +kernel
theorem dX8_below_54 : decode cX8_below 54 = .ok (.lload_n 1, 1) := by decide +kernel
theorem dX8_below_55 : decode cX8_below 55 = .ok (.lload_n 3, 1) := by decide +kernel
theorem dX8_below_56 : decode cX8_below 56 = .ok (.lmul, 1) := by decide +kernel
theorem dX8_below_57 : decode cX8_below 57 = .ok (.lreturn, 1) := by decide +kernel
theorem dX8_below_58 : decode cX8_below 58 = .ok (.lload_n 1, 1) := by decide +kernel
theorem dX8_below_59 : decode cX8_below 59 = .ok (.lload_n 3, 1) := by decide +kernel
theorem dX8_below_60 : decode cX8_below 60 = .ok (.lcmp, 1) := by decide +kernel
theorem dX8_below_61 : decode cX8_below 61 = .ok (.ifCond .ge 7, 3) := by decide +kernel
theorem dX8_below_64 : decode cX8_below 64 = .ok (.lload_n 1, 1) := by decide +kernel
theorem dX8_below_65 : decode cX8_below 65 = .ok (.goto 4, 3) := by decide +kernel
theorem dX8_below_68 : decode cX8_below 68 = .ok (.lload_n 3, 1) := by decide +kernel
theorem dX8_below_69 : decode cX8_below 69 = .ok (.lreturn, 1) := by decide +kernel
theorem dX8_below_70 : decode cX8_below 70 = .ok (.lload_n 1, 1) := by decide +kernel
theorem dX8_below_71 : decode cX8_below 71 = .ok (.lload_n 3, 1) := by decide +kernel
theorem dX8_below_72 : decode cX8_below 72 = .ok (.ladd, 1) := by decide +kernel
theorem dX8_below_73 : decode cX8_below 73 = .ok (.lload 5, 2) := by decide +kernel
theorem dX8_below_75 : decode cX8_below 75 = .ok (.lsub, 1) := by decide +kernel
theorem dX8_below_76 : decode cX8_below 76 = .ok (.lreturn, 1) := by decide +kernel
theorem dX8_isPair_0 : decode cX8_isPair 0 = .ok (.aload_n 0, 1) := by decide +kernel
theorem dX8_isPair_1 : decode cX8_isPair 1 = .ok (.iload_n 1, 1) := by decide +kernel
theorem dX8_isPair_2 : decode cX8_isPair 2 = .ok (.invokevirtual 136, 3) := by decide +kernel
theorem dX8_isPair_5 : decode cX8_isPair 5 = .ok (.i2l, 1) := by decide +kernel
theorem dX8_isPair_6 : decode cX8_isPair 6 = .ok (.lstore_n 3, 1) := by decide +kernel
theorem dX8_isPair_7 : decode cX8_isPair 7 = .ok (.aload_n 0, 1) := by decide +kernel
theorem dX8_isPair_8 : decode cX8_isPair 8 = .ok (.iload_n 2, 1) := by decide +kernel
theorem dX8_isPair_9 : decode cX8_isPair 9 = .ok (.invokevirtual 136, 3) := by decide +kernel
theorem dX8_isPair_12 : decode cX8_isPair 12 = .ok (.i2l, 1) := by decide +kernel
theorem dX8_isPair_13 : decode cX8_isPair 13 = .ok (.lstore 5, 2) := by decide +kernel
theorem dX8_isPair_15 : decode cX8_isPair 15 = .ok (.aload_n 0, 1) := by decide +kernel
theorem dX8_isPair_16 : decode cX8_isPair 16 = .ok (.iload_n 1, 1) := by decide +kernel
theorem dX8_isPair_17 : decode cX8_isPair 17 = .ok (.iload_n 2, 1) := by decide +kernel
theorem dX8_isPair_18 : decode cX8_isPair 18 = .ok (.invokevirtual 139, 3) := by decide +kernel
theorem dX8_isPair_21 : decode cX8_isPair 21 = .ok (.i2l, 1) := by decide +kernel
theorem dX8_isPair_22 : decode cX8_isPair 22 = .ok (.lstore 7, 2) := by decide +kernel
theorem dX8_isPair_24 : decode cX8_isPair 24 = .ok (.lload 7, 2) := by decide +kernel
theorem dX8_isPair_26 : decode cX8_isPair 26 = .ok (.lconst 0, 1) := by decide +kernel
theorem dX8_isPair_27 : decode cX8_isPair 27 = .ok (.lcmp, 1) := by decide +kernel
theorem dX8_isPair_28 : decode cX8_isPair 28 = .ok (.ifCond .ne 5, 3) := by decide +kernel
theorem dX8_isPair_31 : decode cX8_isPair 31 = .ok (.iconst 0, 1) := by decide +kernel
theorem dX8_isPair_32 : decode cX8_isPair 32 = .ok (.ireturn, 1) := by decide +kernel
theorem dX8_isPair_33 : decode cX8_isPair 33 = .ok (.aload_n 0, 1) := by decide +kernel
theorem dX8_isPair_34 : decode cX8_isPair 34 = .ok (.getfield 32, 3) := by decide +kernel
theorem dX8_isPair_37 : decode cX8_isPair 37 = .ok (.iconst 3, 1) := by decide +kernel
theorem dX8_isPair_38 : decode cX8_isPair 38 = .ok (.if_icmp .ne 17, 3) := by decide +kernel
theorem dX8_isPair_41 : decode cX8_isPair 41 = .ok (.aload_n 0, 1) := by decide +kernel
theorem dX8_isPair_42 : decode cX8_isPair 42 = .ok (.getfield 36, 3) := by decide +kernel
theorem dX8_isPair_45 : decode cX8_isPair 45 = .ok (.i2l, 1) := by decide +kernel
theorem dX8_isPair_46 : decode cX8_isPair 46 = .ok (.aload_n 0, 1) := by decide +kernel
theorem dX8_isPair_47 : decode cX8_isPair 47 = .ok (.getfield 36, 3) := by decide +kernel
theorem dX8_isPair_50 : decode cX8_isPair 50 = .ok (.i2l, 1) := by decide +kernel
theorem dX8_isPair_51 : decode cX8_isPair 51 = .ok (.lmul, 1) := by decide +kernel
theorem dX8_isPair_52 : decode cX8_isPair 52 = .ok (.goto 8, 3) := by decide +kernel
theorem dX8_isPair_55 : decode cX8_isPair 55 = .ok (.aload_n 0, 1) := by decide +kernel
theorem dX8_isPair_56 : decode cX8_isPair 56 = .ok (.getfield 36, 3) := by decide +kernel
theorem dX8_isPair_59 : decode cX8_isPair 59 = .ok (.i2l, 1) := by decide +kernel
theorem dX8_isPair_60 : decode cX8_isPair 60 = .ok (.lstore 9, 2) := by decide +kernel
theorem dX8_isPair_62 : decode cX8_isPair 62 = .ok (.aload_n 0, 1) := by decide +kernel
theorem dX8_isPair_63 : decode cX8_isPair 63 = .ok (.getfield 32, 3) := by decide +kernel
theorem dX8_isPair_66 : decode cX8_isPair 66 = .ok (.iconst 3, 1) := by decide +kernel
theorem dX8_isPair_67 : decode cX8_isPair 67 = .ok (.if_icmp .ne 17, 3) := by decide +kernel
theorem dX8_isPair_70 : decode cX8_isPair 70 = .ok (.aload_n 0, 1) := by decide +kernel
theorem dX8_isPair_71 : decode cX8_isPair 71 = .ok (.getfield 39, 3) := by decide +kernel
theorem dX8_isPair_74 : decode cX8_isPair 74 = .ok (.i2l, 1) := by decide +kernel
theorem dX8_isPair_75 : decode cX8_isPair 75 = .ok (.aload_n 0, 1) := by decide +kernel
theorem dX8_isPair_76 : decode cX8_isPair 76 = .ok (.getfield 39, 3) := by decide +kernel
theorem dX8_isPair_79 : decode cX8_isPair 79 = .ok (.i2l, 1) := by decide +kernel
theorem dX8_isPair_80 : decode cX8_isPair 80 = .ok (.lmul, 1) := by decide +kernel
theorem dX8_isPair_81 : decode cX8_isPair 81 = .ok (.goto 8, 3) := by decide +kernel
theorem dX8_isPair_84 : decode cX8_isPair 84 = .ok (.aload_n 0, 1) := by decide +kernel
theorem dX8_isPair_85 : decode cX8_isPair 85 = .ok (.getfield 39, 3) := by decide +kernel
theorem dX8_isPair_88 : decode cX8_isPair 88 = .ok (.i2l, 1) := by decide +kernel
theorem dX8_isPair_89 : decode cX8_isPair 89 = .ok (.lstore 11, 2) := by decide +kernel
theorem dX8_isPair_91 : decode cX8_isPair 91 = .ok (.aload_n 0, 1) := by decide +kernel
theorem dX8_isPair_92 : decode cX8_isPair 92 = .ok (.lload_n 3, 1) := by decide +kernel
theorem dX8_isPair_93 : decode cX8_isPair 93 = .ok (.lload 5, 2) := by decide +kernel
theorem dX8_isPair_95 : decode cX8_isPair 95 = .ok (.lload 7, 2) := by decide +kernel
theorem dX8_isPair_97 : decode cX8_isPair 97 = .ok (.invokevirtual 142, 3) := by decide +kernel
theorem dX8_isPair_100 : decode cX8_isPair 100 = .ok (.lload 11, 2) := by decide +kernel
theorem dX8_isPair_102 : decode cX8_isPair 102 = .ok (.lmul, 1) := by decide +kernel
theorem dX8_isPair_103 : decode cX8_isPair 103 = .ok (.lload 9, 2) := by decide +kernel
theorem dX8_isPair_105 : decode cX8_isPair 105 = .ok (.aload_n 0, 1) := by decide +kernel
theorem dX8_isPair_106 : decode cX8_isPair 106 = .ok (.lload_n 3, 1) := by decide +kernel
theorem dX8_isPair_107 : decode cX8_isPair 107 = .ok (.lload 5, 2) := by decide +kernel
theorem dX8_isPair_109 : decode cX8_isPair 109 = .ok (.lload 7, 2) := by decide +kernel
theorem dX8_isPair_111 : decode cX8_isPair 111 = .ok (.invokevirtual 146, 3) := by decide +kernel
theorem dX8_isPair_114 : decode cX8_isPair 114 = .ok (.lmul, 1) := by decide +kernel
theorem dX8_isPair_115 : decode cX8_isPair 115 = .ok (.lcmp, 1) := by decide +kernel
theorem dX8_isPair_116 : decode cX8_isPair 116 = .ok (.ifCond .lt 7, 3) := by decide +kernel
theorem dX8_isPair_119 : decode cX8_isPair 119 = .ok (.iconst 1, 1) := by decide +kernel
theorem dX8_isPair_120 : decode cX8_isPair 120 = .ok (.goto 4, 3) := by decide +kernel
theorem dX8_isPair_123 : decode cX8_isPair 123 = .ok (.iconst 0, 1) := by decide +kernel
theorem dX8_isPair_124 : decode cX8_isPair 124 = .ok (.ireturn, 1) := by decide +kernel
theorem dX8_beginning_0 : decode cX8_beginning 0 = .ok (.aload_n 0, 1) := by decide +kernel
theorem dX8_beginning_1 : decode cX8_beginning 1 = .ok (.aload_n 0, 1) := by decide +kernel
theorem dX8_beginning_2 : decode cX8_beginning 2 = .ok (.aload_n 1, 1) := by decide +kernel
theorem dX8_beginning_3 : decode cX8_beginning 3 = .ok (.iconst 0, 1) := by decide +kernel
theorem dX8_beginning_4 : decode cX8_beginning 4 = .ok (.iload_n 2, 1) := by decide +kernel
theorem dX8_beginning_5 : decode cX8_beginning 5 = .ok (.invokevirtual 149, 3) := by decide +kernel
theorem dX8_beginning_8 : decode cX8_beginning 8 = .ok (.i2l, 1) := by decide +kernel
theorem dX8_beginning_9 : decode cX8_beginning 9 = .ok (.invokevirtual 153, 3) := by decide +kernel
theorem dX8_beginning_12 : decode cX8_beginning 12 = .ok (.lstore_n 3, 1) := by decide +kernel
theorem dX8_beginning_13 : decode cX8_beginning 13 = .ok (.iconst 0, 1) := by decide +kernel
theorem dX8_beginning_14 : decode cX8_beginning 14 = .ok (.istore 5, 2) := by decide +kernel
theorem dX8_beginning_16 : decode cX8_beginning 16 = .ok (.iload 5, 2) := by decide +kernel
theorem dX8_beginning_18 : decode cX8_beginning 18 = .ok (.iload_n 2, 1) := by decide +kernel
theorem dX8_beginning_19 : decode cX8_beginning 19 = .ok (.if_icmp .ge 23, 3) := by decide +kernel
theorem dX8_beginning_22 : decode cX8_beginning 22 = .ok (.aload_n 0, 1) := by decide +kernel
theorem dX8_beginning_23 : decode cX8_beginning 23 = .ok (.aload_n 1, 1) := by decide +kernel
theorem dX8_beginning_24 : decode cX8_beginning 24 = .ok (.iload 5, 2) := by decide +kernel
theorem dX8_beginning_26 : decode cX8_beginning 26 = .ok (.iload_n 2, 1) := by decide +kernel
theorem dX8_beginning_27 : decode cX8_beginning 27 = .ok (.invokevirtual 149, 3) := by decide +kernel
theorem dX8_beginning_30 : decode cX8_beginning 30 = .ok (.i2l, 1) := by decide +kernel
theorem dX8_beginning_31 : decode cX8_beginning 31 = .ok (.lload_n 3, 1) := by decide +kernel
theorem dX8_beginning_32 : decode cX8_beginning 32 = .ok (.lcmp, 1) := by decide +kernel
theorem dX8_beginning_33 : decode cX8_beginning 33 = .ok (.ifCond .lt 9, 3) := by decide +kernel
theorem dX8_beginning_36 : decode cX8_beginning 36 = .ok (.iinc 5 1, 3) := by decide +kernel
theorem dX8_beginning_39 : decode cX8_beginning 39 = .ok (.goto (-23), 3) := by decide +kernel
theorem dX8_beginning_42 : decode cX8_beginning 42 = .ok (.iload 5, 2) := by decide +kernel
theorem dX8_beginning_44 : decode cX8_beginning 44 = .ok (.ireturn, 1) := by decide +kernel
theorem dX8_whyOf_0 : decode cX8_whyOf 0 = .ok (.aload_n 0, 1) := by decide +kernel
theorem dX8_whyOf_1 : decode cX8_whyOf 1 = .ok (.iload_n 1, 1) := by decide +kernel
