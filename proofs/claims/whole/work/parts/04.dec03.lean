theorem dX7_drop_2 : decode cX7_drop 2 = .ok (.invokevirtual 74, 3) := by decide +kernel
theorem dX7_drop_5 : decode cX7_drop 5 = .ok (.ifnonnull 5, 3) := by decide +kernel
theorem dX7_drop_8 : decode cX7_drop 8 = .ok (.iconst 0, 1) := by decide +kernel
theorem dX7_drop_9 : decode cX7_drop 9 = .ok (.ireturn, 1) := by decide +kernel
theorem dX7_drop_10 : decode cX7_drop 10 = .ok (.aload_n 0, 1) := by decide +kernel
theorem dX7_drop_11 : decode cX7_drop 11 = .ok (.getfield 11, 3) := by decide +kernel
theorem dX7_drop_14 : decode cX7_drop 14 = .ok (.iload_n 1, 1) := by decide +kernel
theorem dX7_drop_15 : decode cX7_drop 15 = .ok (.aconst_null, 1) := by decide +kernel
theorem dX7_drop_16 : decode cX7_drop 16 = .ok (.aastore, 1) := by decide +kernel
theorem dX7_drop_17 : decode cX7_drop 17 = .ok (.aload_n 0, 1) := by decide +kernel
theorem dX7_drop_18 : decode cX7_drop 18 = .ok (.getfield 65, 3) := by decide +kernel
theorem dX7_drop_21 : decode cX7_drop 21 = .ok (.iload_n 1, 1) := by decide +kernel
theorem dX7_drop_22 : decode cX7_drop 22 = .ok (.invokevirtual 78, 3) := by decide +kernel
theorem dX7_drop_25 : decode cX7_drop 25 = .ok (.iconst 1, 1) := by decide +kernel
theorem dX7_drop_26 : decode cX7_drop 26 = .ok (.ireturn, 1) := by decide +kernel
theorem dX7_put_0 : decode cX7_put 0 = .ok (.aload_n 0, 1) := by decide +kernel
theorem dX7_put_1 : decode cX7_put 1 = .ok (.iload_n 1, 1) := by decide +kernel
theorem dX7_put_2 : decode cX7_put 2 = .ok (.invokevirtual 74, 3) := by decide +kernel
theorem dX7_put_5 : decode cX7_put 5 = .ok (.astore_n 3, 1) := by decide +kernel
theorem dX7_put_6 : decode cX7_put 6 = .ok (.aload_n 3, 1) := by decide +kernel
theorem dX7_put_7 : decode cX7_put 7 = .ok (.ifnull 30, 3) := by decide +kernel
theorem dX7_put_10 : decode cX7_put 10 = .ok (.iload_n 2, 1) := by decide +kernel
theorem dX7_put_11 : decode cX7_put 11 = .ok (.invokestatic 81, 3) := by decide +kernel
theorem dX7_put_14 : decode cX7_put 14 = .ok (.ifCond .eq 23, 3) := by decide +kernel
theorem dX7_put_17 : decode cX7_put 17 = .ok (.aload_n 3, 1) := by decide +kernel
theorem dX7_put_18 : decode cX7_put 18 = .ok (.iload_n 2, 1) := by decide +kernel
theorem dX7_put_19 : decode cX7_put 19 = .ok (.aload_n 0, 1) := by decide +kernel
theorem dX7_put_20 : decode cX7_put 20 = .ok (.getfield 20, 3) := by decide +kernel
theorem dX7_put_23 : decode cX7_put 23 = .ok (.invokestatic 85, 3) := by decide +kernel
theorem dX7_put_26 : decode cX7_put 26 = .ok (.aload_n 0, 1) := by decide +kernel
theorem dX7_put_27 : decode cX7_put 27 = .ok (.iload_n 2, 1) := by decide +kernel
theorem dX7_put_28 : decode cX7_put 28 = .ok (.invokevirtual 89, 3) := by decide +kernel
theorem dX7_put_31 : decode cX7_put 31 = .ok (.invokevirtual 93, 3) := by decide +kernel
theorem dX7_put_34 : decode cX7_put 34 = .ok (.ifCond .ne 5, 3) := by decide +kernel
theorem dX7_put_37 : decode cX7_put 37 = .ok (.iconst 0, 1) := by decide +kernel
theorem dX7_put_38 : decode cX7_put 38 = .ok (.ireturn, 1) := by decide +kernel
theorem dX7_put_39 : decode cX7_put 39 = .ok (.aload_n 0, 1) := by decide +kernel
theorem dX7_put_40 : decode cX7_put 40 = .ok (.getfield 65, 3) := by decide +kernel
theorem dX7_put_43 : decode cX7_put 43 = .ok (.iload_n 1, 1) := by decide +kernel
theorem dX7_put_44 : decode cX7_put 44 = .ok (.invokevirtual 78, 3) := by decide +kernel
theorem dX7_put_47 : decode cX7_put 47 = .ok (.iconst 1, 1) := by decide +kernel
theorem dX7_put_48 : decode cX7_put 48 = .ok (.ireturn, 1) := by decide +kernel
theorem dX7_take_0 : decode cX7_take 0 = .ok (.aload_n 0, 1) := by decide +kernel
theorem dX7_take_1 : decode cX7_take 1 = .ok (.iload_n 1, 1) := by decide +kernel
theorem dX7_take_2 : decode cX7_take 2 = .ok (.invokevirtual 74, 3) := by decide +kernel
theorem dX7_take_5 : decode cX7_take 5 = .ok (.astore_n 3, 1) := by decide +kernel
theorem dX7_take_6 : decode cX7_take 6 = .ok (.aload_n 3, 1) := by decide +kernel
theorem dX7_take_7 : decode cX7_take 7 = .ok (.ifnull 25, 3) := by decide +kernel
theorem dX7_take_10 : decode cX7_take 10 = .ok (.iload_n 2, 1) := by decide +kernel
theorem dX7_take_11 : decode cX7_take 11 = .ok (.invokestatic 81, 3) := by decide +kernel
theorem dX7_take_14 : decode cX7_take 14 = .ok (.ifCond .eq 18, 3) := by decide +kernel
theorem dX7_take_17 : decode cX7_take 17 = .ok (.aload_n 3, 1) := by decide +kernel
theorem dX7_take_18 : decode cX7_take 18 = .ok (.iload_n 2, 1) := by decide +kernel
theorem dX7_take_19 : decode cX7_take 19 = .ok (.aload_n 0, 1) := by decide +kernel
theorem dX7_take_20 : decode cX7_take 20 = .ok (.getfield 20, 3) := by decide +kernel
theorem dX7_take_23 : decode cX7_take 23 = .ok (.invokestatic 85, 3) := by decide +kernel
theorem dX7_take_26 : decode cX7_take 26 = .ok (.invokevirtual 97, 3) := by decide +kernel
theorem dX7_take_29 : decode cX7_take 29 = .ok (.ifCond .ne 5, 3) := by decide +kernel
theorem dX7_take_32 : decode cX7_take 32 = .ok (.iconst 0, 1) := by decide +kernel
theorem dX7_take_33 : decode cX7_take 33 = .ok (.ireturn, 1) := by decide +kernel
theorem dX7_take_34 : decode cX7_take 34 = .ok (.aload_n 0, 1) := by decide +kernel
theorem dX7_take_35 : decode cX7_take 35 = .ok (.getfield 65, 3) := by decide +kernel
theorem dX7_take_38 : decode cX7_take 38 = .ok (.iload_n 1, 1) := by decide +kernel
theorem dX7_take_39 : decode cX7_take 39 = .ok (.invokevirtual 78, 3) := by decide +kernel
theorem dX7_take_42 : decode cX7_take 42 = .ok (.iconst 1, 1) := by decide +kernel
theorem dX7_take_43 : decode cX7_take 43 = .ok (.ireturn, 1) := by decide +kernel
theorem dX7_weight_0 : decode cX7_weight 0 = .ok (.iload_n 1, 1) := by decide +kernel
theorem dX7_weight_1 : decode cX7_weight 1 = .ok (.invokestatic 81, 3) := by decide +kernel
theorem dX7_weight_4 : decode cX7_weight 4 = .ok (.ifCond .eq 26, 3) := by decide +kernel
theorem dX7_weight_7 : decode cX7_weight 7 = .ok (.iload_n 2, 1) := by decide +kernel
theorem dX7_weight_8 : decode cX7_weight 8 = .ok (.iconst 1, 1) := by decide +kernel
theorem dX7_weight_9 : decode cX7_weight 9 = .ok (.if_icmp .lt 21, 3) := by decide +kernel
theorem dX7_weight_12 : decode cX7_weight 12 = .ok (.iload_n 2, 1) := by decide +kernel
theorem dX7_weight_13 : decode cX7_weight 13 = .ok (.bipush 100, 2) := by decide +kernel
theorem dX7_weight_15 : decode cX7_weight 15 = .ok (.if_icmp .gt 15, 3) := by decide +kernel
theorem dX7_weight_18 : decode cX7_weight 18 = .ok (.aload_n 0, 1) := by decide +kernel
theorem dX7_weight_19 : decode cX7_weight 19 = .ok (.getfield 24, 3) := by decide +kernel
theorem dX7_weight_22 : decode cX7_weight 22 = .ok (.iload_n 1, 1) := by decide +kernel
theorem dX7_weight_23 : decode cX7_weight 23 = .ok (.iload_n 2, 1) := by decide +kernel
theorem dX7_weight_24 : decode cX7_weight 24 = .ok (.invokevirtual 100, 3) := by decide +kernel
theorem dX7_weight_27 : decode cX7_weight 27 = .ok (.ifCond .ne 5, 3) := by decide +kernel
theorem dX7_weight_30 : decode cX7_weight 30 = .ok (.iconst 0, 1) := by decide +kernel
theorem dX7_weight_31 : decode cX7_weight 31 = .ok (.ireturn, 1) := by decide +kernel
theorem dX7_weight_32 : decode cX7_weight 32 = .ok (.aload_n 0, 1) := by decide +kernel
theorem dX7_weight_33 : decode cX7_weight 33 = .ok (.invokevirtual 103, 3) := by decide +kernel
theorem dX7_weight_36 : decode cX7_weight 36 = .ok (.iconst 1, 1) := by decide +kernel
theorem dX7_weight_37 : decode cX7_weight 37 = .ok (.ireturn, 1) := by decide +kernel
theorem dX7_feed_0 : decode cX7_feed 0 = .ok (.aload_n 0, 1) := by decide +kernel
theorem dX7_feed_1 : decode cX7_feed 1 = .ok (.getfield 37, 3) := by decide +kernel
theorem dX7_feed_4 : decode cX7_feed 4 = .ok (.bipush 20, 2) := by decide +kernel
theorem dX7_feed_6 : decode cX7_feed 6 = .ok (.invokevirtual 106, 3) := by decide +kernel
theorem dX7_feed_9 : decode cX7_feed 9 = .ok (.ifCond .ne 5, 3) := by decide +kernel
theorem dX7_feed_12 : decode cX7_feed 12 = .ok (.iconst (-1), 1) := by decide +kernel
theorem dX7_feed_13 : decode cX7_feed 13 = .ok (.ireturn, 1) := by decide +kernel
theorem dX7_feed_14 : decode cX7_feed 14 = .ok (.aload_n 0, 1) := by decide +kernel
theorem dX7_feed_15 : decode cX7_feed 15 = .ok (.getfield 37, 3) := by decide +kernel
theorem dX7_feed_18 : decode cX7_feed 18 = .ok (.iload_n 1, 1) := by decide +kernel
theorem dX7_feed_19 : decode cX7_feed 19 = .ok (.invokevirtual 109, 3) := by decide +kernel
theorem dX7_feed_22 : decode cX7_feed 22 = .ok (.aload_n 0, 1) := by decide +kernel
theorem dX7_feed_23 : decode cX7_feed 23 = .ok (.getfield 37, 3) := by decide +kernel
theorem dX7_feed_26 : decode cX7_feed 26 = .ok (.iload_n 2, 1) := by decide +kernel
theorem dX7_feed_27 : decode cX7_feed 27 = .ok (.invokevirtual 109, 3) := by decide +kernel
theorem dX7_feed_30 : decode cX7_feed 30 = .ok (.aload_n 0, 1) := by decide +kernel
theorem dX7_feed_31 : decode cX7_feed 31 = .ok (.getfield 37, 3) := by decide +kernel
theorem dX7_feed_34 : decode cX7_feed 34 = .ok (.iload_n 3, 1) := by decide +kernel
theorem dX7_feed_35 : decode cX7_feed 35 = .ok (.invokevirtual 109, 3) := by decide +kernel
theorem dX7_feed_38 : decode cX7_feed 38 = .ok (.aload_n 0, 1) := by decide +kernel
theorem dX7_feed_39 : decode cX7_feed 39 = .ok (.getfield 37, 3) := by decide +kernel
theorem dX7_feed_42 : decode cX7_feed 42 = .ok (.iload 4, 2) := by decide +kernel
theorem dX7_feed_44 : decode cX7_feed 44 = .ok (.invokevirtual 109, 3) := by decide +kernel
theorem dX7_feed_47 : decode cX7_feed 47 = .ok (.aload_n 0, 1) := by decide +kernel
theorem dX7_feed_48 : decode cX7_feed 48 = .ok (.getfield 37, 3) := by decide +kernel
theorem dX7_feed_51 : decode cX7_feed 51 = .ok (.iload 5, 2) := by decide +kernel
theorem dX7_feed_53 : decode cX7_feed 53 = .ok (.invokevirtual 109, 3) := by decide +kernel
theorem dX7_feed_56 : decode cX7_feed 56 = .ok (.aload_n 0, 1) := by decide +kernel
theorem dX7_feed_57 : decode cX7_feed 57 = .ok (.getfield 37, 3) := by decide +kernel
theorem dX7_feed_60 : decode cX7_feed 60 = .ok (.getfield 112, 3) := by decide +kernel
theorem dX7_feed_63 : decode cX7_feed 63 = .ok (.ireturn, 1) := by decide +kernel
theorem dX7_end_0 : decode cX7_end 0 = .ok (.aload_n 0, 1) := by decide +kernel
theorem dX7_end_1 : decode cX7_end 1 = .ok (.getfield 37, 3) := by decide +kernel
theorem dX7_end_4 : decode cX7_end 4 = .ok (.iload_n 1, 1) := by decide +kernel
theorem dX7_end_5 : decode cX7_end 5 = .ok (.invokevirtual 115, 3) := by decide +kernel
theorem dX7_end_8 : decode cX7_end 8 = .ok (.ifCond .eq 7, 3) := by decide +kernel
theorem dX7_end_11 : decode cX7_end 11 = .ok (.iload_n 1, 1) := by decide +kernel
theorem dX7_end_12 : decode cX7_end 12 = .ok (.goto 4, 3) := by decide +kernel
theorem dX7_end_15 : decode cX7_end 15 = .ok (.iconst (-1), 1) := by decide +kernel
theorem dX7_end_16 : decode cX7_end 16 = .ok (.ireturn, 1) := by decide +kernel
theorem dX7_text_0 : decode cX7_text 0 = .ok (.aload_n 0, 1) := by decide +kernel
theorem dX7_text_1 : decode cX7_text 1 = .ok (.iload_n 1, 1) := by decide +kernel
theorem dX7_text_2 : decode cX7_text 2 = .ok (.invokevirtual 74, 3) := by decide +kernel
theorem dX7_text_5 : decode cX7_text 5 = .ok (.astore_n 3, 1) := by decide +kernel
theorem dX7_text_6 : decode cX7_text 6 = .ok (.aload_n 3, 1) := by decide +kernel
theorem dX7_text_7 : decode cX7_text 7 = .ok (.ifnull 13, 3) := by decide +kernel
theorem dX7_text_10 : decode cX7_text 10 = .ok (.iload_n 2, 1) := by decide +kernel
theorem dX7_text_11 : decode cX7_text 11 = .ok (.iconst 1, 1) := by decide +kernel
theorem dX7_text_12 : decode cX7_text 12 = .ok (.if_icmp .lt 8, 3) := by decide +kernel
theorem dX7_text_15 : decode cX7_text 15 = .ok (.iload_n 2, 1) := by decide +kernel
theorem dX7_text_16 : decode cX7_text 16 = .ok (.iconst 2, 1) := by decide +kernel
theorem dX7_text_17 : decode cX7_text 17 = .ok (.if_icmp .le 5, 3) := by decide +kernel
theorem dX7_text_20 : decode cX7_text 20 = .ok (.iconst (-1), 1) := by decide +kernel
theorem dX7_text_21 : decode cX7_text 21 = .ok (.ireturn, 1) := by decide +kernel
theorem dX7_text_22 : decode cX7_text 22 = .ok (.aload_n 0, 1) := by decide +kernel
theorem dX7_text_23 : decode cX7_text 23 = .ok (.getfield 37, 3) := by decide +kernel
theorem dX7_text_26 : decode cX7_text 26 = .ok (.iload_n 2, 1) := by decide +kernel
theorem dX7_text_27 : decode cX7_text 27 = .ok (.invokevirtual 118, 3) := by decide +kernel
theorem dX7_text_30 : decode cX7_text 30 = .ok (.istore 4, 2) := by decide +kernel
theorem dX7_text_32 : decode cX7_text 32 = .ok (.iload 4, 2) := by decide +kernel
theorem dX7_text_34 : decode cX7_text 34 = .ok (.iconst (-1), 1) := by decide +kernel
theorem dX7_text_35 : decode cX7_text 35 = .ok (.if_icmp .ne 5, 3) := by decide +kernel
theorem dX7_text_38 : decode cX7_text 38 = .ok (.iconst (-1), 1) := by decide +kernel
theorem dX7_text_39 : decode cX7_text 39 = .ok (.ireturn, 1) := by decide +kernel
theorem dX7_text_40 : decode cX7_text 40 = .ok (.aload_n 3, 1) := by decide +kernel
theorem dX7_text_41 : decode cX7_text 41 = .ok (.invokevirtual 121, 3) := by decide +kernel
theorem dX7_text_44 : decode cX7_text 44 = .ok (.iconst 0, 1) := by decide +kernel
theorem dX7_text_45 : decode cX7_text 45 = .ok (.istore 5, 2) := by decide +kernel
theorem dX7_text_47 : decode cX7_text 47 = .ok (.iload 5, 2) := by decide +kernel
theorem dX7_text_49 : decode cX7_text 49 = .ok (.iload 4, 2) := by decide +kernel
theorem dX7_text_51 : decode cX7_text 51 = .ok (.if_icmp .ge 41, 3) := by decide +kernel
theorem dX7_text_54 : decode cX7_text 54 = .ok (.aload_n 0, 1) := by decide +kernel
theorem dX7_text_55 : decode cX7_text 55 = .ok (.getfield 37, 3) := by decide +kernel
theorem dX7_text_58 : decode cX7_text 58 = .ok (.getfield 124, 3) := by decide +kernel
theorem dX7_text_61 : decode cX7_text 61 = .ok (.iload 5, 2) := by decide +kernel
theorem dX7_text_63 : decode cX7_text 63 = .ok (.iaload, 1) := by decide +kernel
theorem dX7_text_64 : decode cX7_text 64 = .ok (.istore 6, 2) := by decide +kernel
theorem dX7_text_66 : decode cX7_text 66 = .ok (.aload_n 3, 1) := by decide +kernel
theorem dX7_text_67 : decode cX7_text 67 = .ok (.iload 6, 2) := by decide +kernel
theorem dX7_text_69 : decode cX7_text 69 = .ok (.aload_n 0, 1) := by decide +kernel
theorem dX7_text_70 : decode cX7_text 70 = .ok (.getfield 20, 3) := by decide +kernel
theorem dX7_text_73 : decode cX7_text 73 = .ok (.invokestatic 85, 3) := by decide +kernel
theorem dX7_text_76 : decode cX7_text 76 = .ok (.aload_n 0, 1) := by decide +kernel
theorem dX7_text_77 : decode cX7_text 77 = .ok (.iload 6, 2) := by decide +kernel
theorem dX7_text_79 : decode cX7_text 79 = .ok (.invokevirtual 89, 3) := by decide +kernel
theorem dX7_text_82 : decode cX7_text 82 = .ok (.invokevirtual 93, 3) := by decide +kernel
theorem dX7_text_85 : decode cX7_text 85 = .ok (.pop, 1) := by decide +kernel
theorem dX7_text_86 : decode cX7_text 86 = .ok (.iinc 5 1, 3) := by decide +kernel
theorem dX7_text_89 : decode cX7_text 89 = .ok (.goto (-42), 3) := by decide +kernel
theorem dX7_text_92 : decode cX7_text 92 = .ok (.aload_n 0, 1) := by decide +kernel
theorem dX7_text_93 : decode cX7_text 93 = .ok (.getfield 37, 3) := by decide +kernel
theorem dX7_text_96 : decode cX7_text 96 = .ok (.iconst 0, 1) := by decide +kernel
theorem dX7_text_97 : decode cX7_text 97 = .ok (.invokevirtual 115, 3) := by decide +kernel
theorem dX7_text_100 : decode cX7_text 100 = .ok (.pop, 1) := by decide +kernel
theorem dX7_text_101 : decode cX7_text 101 = .ok (.aload_n 0, 1) := by decide +kernel
theorem dX7_text_102 : decode cX7_text 102 = .ok (.getfield 65, 3) := by decide +kernel
theorem dX7_text_105 : decode cX7_text 105 = .ok (.iload_n 1, 1) := by decide +kernel
theorem dX7_text_106 : decode cX7_text 106 = .ok (.invokevirtual 78, 3) := by decide +kernel
theorem dX7_text_109 : decode cX7_text 109 = .ok (.iload 4, 2) := by decide +kernel
theorem dX7_text_111 : decode cX7_text 111 = .ok (.ireturn, 1) := by decide +kernel
theorem dX7_measure_0 : decode cX7_measure 0 = .ok (.aload_n 0, 1) := by decide +kernel
theorem dX7_measure_1 : decode cX7_measure 1 = .ok (.getfield 30, 3) := by decide +kernel
theorem dX7_measure_4 : decode cX7_measure 4 = .ok (.iload_n 1, 1) := by decide +kernel
theorem dX7_measure_5 : decode cX7_measure 5 = .ok (.iload_n 2, 1) := by decide +kernel
theorem dX7_measure_6 : decode cX7_measure 6 = .ok (.iload_n 3, 1) := by decide +kernel
theorem dX7_measure_7 : decode cX7_measure 7 = .ok (.invokevirtual 127, 3) := by decide +kernel
theorem dX7_measure_10 : decode cX7_measure 10 = .ok (.ifCond .ne 5, 3) := by decide +kernel
theorem dX7_measure_13 : decode cX7_measure 13 = .ok (.iconst 0, 1) := by decide +kernel
theorem dX7_measure_14 : decode cX7_measure 14 = .ok (.ireturn, 1) := by decide +kernel
theorem dX7_measure_15 : decode cX7_measure 15 = .ok (.aload_n 0, 1) := by decide +kernel
theorem dX7_measure_16 : decode cX7_measure 16 = .ok (.invokevirtual 103, 3) := by decide +kernel
theorem dX7_measure_19 : decode cX7_measure 19 = .ok (.iconst 1, 1) := by decide +kernel
theorem dX7_measure_20 : decode cX7_measure 20 = .ok (.ireturn, 1) := by decide +kernel
theorem dX7_order_0 : decode cX7_order 0 = .ok (.aload_n 0, 1) := by decide +kernel
theorem dX7_order_1 : decode cX7_order 1 = .ok (.getfield 20, 3) := by decide +kernel
theorem dX7_order_4 : decode cX7_order 4 = .ok (.invokevirtual 131, 3) := by decide +kernel
theorem dX7_order_7 : decode cX7_order 7 = .ok (.iconst 0, 1) := by decide +kernel
theorem dX7_order_8 : decode cX7_order 8 = .ok (.istore_n 1, 1) := by decide +kernel
theorem dX7_order_9 : decode cX7_order 9 = .ok (.iload_n 1, 1) := by decide +kernel
theorem dX7_order_10 : decode cX7_order 10 = .ok (.aload_n 0, 1) := by decide +kernel
theorem dX7_order_11 : decode cX7_order 11 = .ok (.getfield 69, 3) := by decide +kernel
theorem dX7_order_14 : decode cX7_order 14 = .ok (.if_icmp .ge 48, 3) := by decide +kernel
theorem dX7_order_17 : decode cX7_order 17 = .ok (.aload_n 0, 1) := by decide +kernel
theorem dX7_order_18 : decode cX7_order 18 = .ok (.getfield 11, 3) := by decide +kernel
theorem dX7_order_21 : decode cX7_order 21 = .ok (.iload_n 1, 1) := by decide +kernel
theorem dX7_order_22 : decode cX7_order 22 = .ok (.aaload, 1) := by decide +kernel
theorem dX7_order_23 : decode cX7_order 23 = .ok (.astore_n 2, 1) := by decide +kernel
theorem dX7_order_24 : decode cX7_order 24 = .ok (.iconst 0, 1) := by decide +kernel
theorem dX7_order_25 : decode cX7_order 25 = .ok (.istore_n 3, 1) := by decide +kernel
theorem dX7_order_26 : decode cX7_order 26 = .ok (.aload_n 2, 1) := by decide +kernel
theorem dX7_order_27 : decode cX7_order 27 = .ok (.ifnull 29, 3) := by decide +kernel
theorem dX7_order_30 : decode cX7_order 30 = .ok (.iload_n 3, 1) := by decide +kernel
theorem dX7_order_31 : decode cX7_order 31 = .ok (.aload_n 2, 1) := by decide +kernel
theorem dX7_order_32 : decode cX7_order 32 = .ok (.getfield 132, 3) := by decide +kernel
theorem dX7_order_35 : decode cX7_order 35 = .ok (.if_icmp .ge 21, 3) := by decide +kernel
theorem dX7_order_38 : decode cX7_order 38 = .ok (.aload_n 0, 1) := by decide +kernel
theorem dX7_order_39 : decode cX7_order 39 = .ok (.getfield 20, 3) := by decide +kernel
theorem dX7_order_42 : decode cX7_order 42 = .ok (.aload_n 2, 1) := by decide +kernel
theorem dX7_order_43 : decode cX7_order 43 = .ok (.iload_n 3, 1) := by decide +kernel
theorem dX7_order_44 : decode cX7_order 44 = .ok (.invokevirtual 135, 3) := by decide +kernel
theorem dX7_order_47 : decode cX7_order 47 = .ok (.invokevirtual 138, 3) := by decide +kernel
theorem dX7_order_50 : decode cX7_order 50 = .ok (.iinc 3 1, 3) := by decide +kernel
theorem dX7_order_53 : decode cX7_order 53 = .ok (.goto (-27), 3) := by decide +kernel
theorem dX7_order_56 : decode cX7_order 56 = .ok (.iinc 1 1, 3) := by decide +kernel
theorem dX7_order_59 : decode cX7_order 59 = .ok (.goto (-50), 3) := by decide +kernel
theorem dX7_order_62 : decode cX7_order 62 = .ok (.iconst 0, 1) := by decide +kernel
theorem dX7_order_63 : decode cX7_order 63 = .ok (.istore_n 1, 1) := by decide +kernel
theorem dX7_order_64 : decode cX7_order 64 = .ok (.iload_n 1, 1) := by decide +kernel
theorem dX7_order_65 : decode cX7_order 65 = .ok (.aload_n 0, 1) := by decide +kernel
theorem dX7_order_66 : decode cX7_order 66 = .ok (.getfield 69, 3) := by decide +kernel
theorem dX7_order_69 : decode cX7_order 69 = .ok (.if_icmp .ge 31, 3) := by decide +kernel
theorem dX7_order_72 : decode cX7_order 72 = .ok (.aload_n 0, 1) := by decide +kernel
theorem dX7_order_73 : decode cX7_order 73 = .ok (.getfield 11, 3) := by decide +kernel
theorem dX7_order_76 : decode cX7_order 76 = .ok (.iload_n 1, 1) := by decide +kernel
theorem dX7_order_77 : decode cX7_order 77 = .ok (.aaload, 1) := by decide +kernel
theorem dX7_order_78 : decode cX7_order 78 = .ok (.ifnull 16, 3) := by decide +kernel
theorem dX7_order_81 : decode cX7_order 81 = .ok (.aload_n 0, 1) := by decide +kernel
theorem dX7_order_82 : decode cX7_order 82 = .ok (.getfield 11, 3) := by decide +kernel
theorem dX7_order_85 : decode cX7_order 85 = .ok (.iload_n 1, 1) := by decide +kernel
theorem dX7_order_86 : decode cX7_order 86 = .ok (.aaload, 1) := by decide +kernel
theorem dX7_order_87 : decode cX7_order 87 = .ok (.aload_n 0, 1) := by decide +kernel
theorem dX7_order_88 : decode cX7_order 88 = .ok (.getfield 20, 3) := by decide +kernel
theorem dX7_order_91 : decode cX7_order 91 = .ok (.invokevirtual 141, 3) := by decide +kernel
theorem dX7_order_94 : decode cX7_order 94 = .ok (.iinc 1 1, 3) := by decide +kernel
theorem dX7_order_97 : decode cX7_order 97 = .ok (.goto (-33), 3) := by decide +kernel
theorem dX7_order_100 : decode cX7_order 100 = .ok (.aload_n 0, 1) := by decide +kernel
theorem dX7_order_101 : decode cX7_order 101 = .ok (.getfield 20, 3) := by decide +kernel
theorem dX7_order_104 : decode cX7_order 104 = .ok (.getfield 145, 3) := by decide +kernel
theorem dX7_order_107 : decode cX7_order 107 = .ok (.ireturn, 1) := by decide +kernel
theorem dX7_frequency_0 : decode cX7_frequency 0 = .ok (.aload_n 0, 1) := by decide +kernel
theorem dX7_frequency_1 : decode cX7_frequency 1 = .ok (.getfield 20, 3) := by decide +kernel
theorem dX7_frequency_4 : decode cX7_frequency 4 = .ok (.iload_n 1, 1) := by decide +kernel
theorem dX7_frequency_5 : decode cX7_frequency 5 = .ok (.iconst 0, 1) := by decide +kernel
theorem dX7_frequency_6 : decode cX7_frequency 6 = .ok (.invokevirtual 146, 3) := by decide +kernel
theorem dX7_frequency_9 : decode cX7_frequency 9 = .ok (.ireturn, 1) := by decide +kernel
theorem dX7_about_0 : decode cX7_about 0 = .ok (.aload_n 0, 1) := by decide +kernel
theorem dX7_about_1 : decode cX7_about 1 = .ok (.iload_n 1, 1) := by decide +kernel
theorem dX7_about_2 : decode cX7_about 2 = .ok (.invokevirtual 74, 3) := by decide +kernel
theorem dX7_about_5 : decode cX7_about 5 = .ok (.astore_n 3, 1) := by decide +kernel
theorem dX7_about_6 : decode cX7_about 6 = .ok (.aload_n 3, 1) := by decide +kernel
theorem dX7_about_7 : decode cX7_about 7 = .ok (.ifnonnull 5, 3) := by decide +kernel
theorem dX7_about_10 : decode cX7_about 10 = .ok (.iconst (-1), 1) := by decide +kernel
theorem dX7_about_11 : decode cX7_about 11 = .ok (.ireturn, 1) := by decide +kernel
theorem dX7_about_12 : decode cX7_about 12 = .ok (.iload_n 2, 1) := by decide +kernel
theorem dX7_about_13 : decode cX7_about 13 = .ok (.tableswitch 93 0 5 #[39, 44, 49, 63, 69, 81], 39) := by decide +kernel
theorem dX7_about_52 : decode cX7_about 52 = .ok (.aload_n 3, 1) := by decide +kernel
theorem dX7_about_53 : decode cX7_about 53 = .ok (.getfield 132, 3) := by decide +kernel
theorem dX7_about_56 : decode cX7_about 56 = .ok (.ireturn, 1) := by decide +kernel
theorem dX7_about_57 : decode cX7_about 57 = .ok (.aload_n 3, 1) := by decide +kernel
theorem dX7_about_58 : decode cX7_about 58 = .ok (.getfield 150, 3) := by decide +kernel
theorem dX7_about_61 : decode cX7_about 61 = .ok (.ireturn, 1) := by decide +kernel
theorem dX7_about_62 : decode cX7_about 62 = .ok (.aload_n 0, 1) := by decide +kernel
theorem dX7_about_63 : decode cX7_about 63 = .ok (.getfield 30, 3) := by decide +kernel
theorem dX7_about_66 : decode cX7_about 66 = .ok (.aload_n 3, 1) := by decide +kernel
theorem dX7_about_67 : decode cX7_about 67 = .ok (.getfield 150, 3) := by decide +kernel
theorem dX7_about_70 : decode cX7_about 70 = .ok (.i2l, 1) := by decide +kernel
theorem dX7_about_71 : decode cX7_about 71 = .ok (.invokevirtual 153, 3) := by decide +kernel
theorem dX7_about_74 : decode cX7_about 74 = .ok (.l2i, 1) := by decide +kernel
theorem dX7_about_75 : decode cX7_about 75 = .ok (.ireturn, 1) := by decide +kernel
theorem dX7_about_76 : decode cX7_about 76 = .ok (.aload_n 0, 1) := by decide +kernel
theorem dX7_about_77 : decode cX7_about 77 = .ok (.aload_n 3, 1) := by decide +kernel
theorem dX7_about_78 : decode cX7_about 78 = .ok (.invokevirtual 157, 3) := by decide +kernel
theorem dX7_about_81 : decode cX7_about 81 = .ok (.ireturn, 1) := by decide +kernel
theorem dX7_about_82 : decode cX7_about 82 = .ok (.aload_n 0, 1) := by decide +kernel
theorem dX7_about_83 : decode cX7_about 83 = .ok (.invokevirtual 161, 3) := by decide +kernel
theorem dX7_about_86 : decode cX7_about 86 = .ok (.iload_n 1, 1) := by decide +kernel
theorem dX7_about_87 : decode cX7_about 87 = .ok (.invokevirtual 165, 3) := by decide +kernel
theorem dX7_about_90 : decode cX7_about 90 = .ok (.invokestatic 169, 3) := by decide +kernel
theorem dX7_about_93 : decode cX7_about 93 = .ok (.ireturn, 1) := by decide +kernel
theorem dX7_about_94 : decode cX7_about 94 = .ok (.aload_n 0, 1) := by decide +kernel
theorem dX7_about_95 : decode cX7_about 95 = .ok (.invokevirtual 161, 3) := by decide +kernel
theorem dX7_about_98 : decode cX7_about 98 = .ok (.iload_n 1, 1) := by decide +kernel
theorem dX7_about_99 : decode cX7_about 99 = .ok (.invokevirtual 165, 3) := by decide +kernel
theorem dX7_about_102 : decode cX7_about 102 = .ok (.invokestatic 173, 3) := by decide +kernel
theorem dX7_about_105 : decode cX7_about 105 = .ok (.ireturn, 1) := by decide +kernel
theorem dX7_about_106 : decode cX7_about 106 = .ok (.iconst (-1), 1) := by decide +kernel
theorem dX7_about_107 : decode cX7_about 107 = .ok (.ireturn, 1) := by decide +kernel
theorem dX7_at_0 : decode cX7_at 0 = .ok (.aload_n 0, 1) := by decide +kernel
theorem dX7_at_1 : decode cX7_at 1 = .ok (.iload_n 1, 1) := by decide +kernel
theorem dX7_at_2 : decode cX7_at 2 = .ok (.invokevirtual 74, 3) := by decide +kernel
theorem dX7_at_5 : decode cX7_at 5 = .ok (.astore_n 3, 1) := by decide +kernel
theorem dX7_at_6 : decode cX7_at 6 = .ok (.aload_n 3, 1) := by decide +kernel
theorem dX7_at_7 : decode cX7_at 7 = .ok (.ifnonnull 7, 3) := by decide +kernel
theorem dX7_at_10 : decode cX7_at 10 = .ok (.iconst (-1), 1) := by decide +kernel
theorem dX7_at_11 : decode cX7_at 11 = .ok (.goto 8, 3) := by decide +kernel
theorem dX7_at_14 : decode cX7_at 14 = .ok (.aload_n 3, 1) := by decide +kernel
theorem dX7_at_15 : decode cX7_at 15 = .ok (.iload_n 2, 1) := by decide +kernel
theorem dX7_at_16 : decode cX7_at 16 = .ok (.invokevirtual 135, 3) := by decide +kernel
theorem dX7_at_19 : decode cX7_at 19 = .ok (.ireturn, 1) := by decide +kernel
theorem dX7_like_0 : decode cX7_like 0 = .ok (.aload_n 0, 1) := by decide +kernel
theorem dX7_like_1 : decode cX7_like 1 = .ok (.iload_n 1, 1) := by decide +kernel
theorem dX7_like_2 : decode cX7_like 2 = .ok (.invokevirtual 74, 3) := by decide +kernel
theorem dX7_like_5 : decode cX7_like 5 = .ok (.astore 4, 2) := by decide +kernel
theorem dX7_like_7 : decode cX7_like 7 = .ok (.aload_n 0, 1) := by decide +kernel
theorem dX7_like_8 : decode cX7_like 8 = .ok (.iload_n 2, 1) := by decide +kernel
theorem dX7_like_9 : decode cX7_like 9 = .ok (.invokevirtual 74, 3) := by decide +kernel
theorem dX7_like_12 : decode cX7_like 12 = .ok (.astore 5, 2) := by decide +kernel
theorem dX7_like_14 : decode cX7_like 14 = .ok (.aload 4, 2) := by decide +kernel
theorem dX7_like_16 : decode cX7_like 16 = .ok (.ifnull 13, 3) := by decide +kernel
theorem dX7_like_19 : decode cX7_like 19 = .ok (.aload 5, 2) := by decide +kernel
theorem dX7_like_21 : decode cX7_like 21 = .ok (.ifnull 8, 3) := by decide +kernel
theorem dX7_like_24 : decode cX7_like 24 = .ok (.iload_n 1, 1) := by decide +kernel
theorem dX7_like_25 : decode cX7_like 25 = .ok (.iload_n 2, 1) := by decide +kernel
theorem dX7_like_26 : decode cX7_like 26 = .ok (.if_icmp .ne 7, 3) := by decide +kernel
theorem dX7_like_29 : decode cX7_like 29 = .ok (.ldc2_w 178, 3) := by decide +kernel
theorem dX7_like_32 : decode cX7_like 32 = .ok (.lreturn, 1) := by decide +kernel
theorem dX7_like_33 : decode cX7_like 33 = .ok (.aload_n 0, 1) := by decide +kernel
theorem dX7_like_34 : decode cX7_like 34 = .ok (.getfield 44, 3) := by decide +kernel
theorem dX7_like_37 : decode cX7_like 37 = .ok (.aload 4, 2) := by decide +kernel
theorem dX7_like_39 : decode cX7_like 39 = .ok (.iconst 0, 1) := by decide +kernel
theorem dX7_like_40 : decode cX7_like 40 = .ok (.aload 5, 2) := by decide +kernel
theorem dX7_like_42 : decode cX7_like 42 = .ok (.iconst 0, 1) := by decide +kernel
theorem dX7_like_43 : decode cX7_like 43 = .ok (.invokevirtual 180, 3) := by decide +kernel
theorem dX7_like_46 : decode cX7_like 46 = .ok (.aload_n 0, 1) := by decide +kernel
theorem dX7_like_47 : decode cX7_like 47 = .ok (.getfield 44, 3) := by decide +kernel
theorem dX7_like_50 : decode cX7_like 50 = .ok (.getfield 184, 3) := by decide +kernel
theorem dX7_like_53 : decode cX7_like 53 = .ok (.i2l, 1) := by decide +kernel
theorem dX7_like_54 : decode cX7_like 54 = .ok (.lstore 6, 2) := by decide +kernel
theorem dX7_like_56 : decode cX7_like 56 = .ok (.aload_n 0, 1) := by decide +kernel
theorem dX7_like_57 : decode cX7_like 57 = .ok (.getfield 30, 3) := by decide +kernel
theorem dX7_like_60 : decode cX7_like 60 = .ok (.lload 6, 2) := by decide +kernel
theorem dX7_like_62 : decode cX7_like 62 = .ok (.aload 4, 2) := by decide +kernel
theorem dX7_like_64 : decode cX7_like 64 = .ok (.getfield 150, 3) := by decide +kernel
theorem dX7_like_67 : decode cX7_like 67 = .ok (.i2l, 1) := by decide +kernel
theorem dX7_like_68 : decode cX7_like 68 = .ok (.aload 5, 2) := by decide +kernel
theorem dX7_like_70 : decode cX7_like 70 = .ok (.getfield 150, 3) := by decide +kernel
theorem dX7_like_73 : decode cX7_like 73 = .ok (.i2l, 1) := by decide +kernel
theorem dX7_like_74 : decode cX7_like 74 = .ok (.invokevirtual 187, 3) := by decide +kernel
theorem dX7_like_77 : decode cX7_like 77 = .ok (.lstore 8, 2) := by decide +kernel
theorem dX7_like_79 : decode cX7_like 79 = .ok (.aload_n 0, 1) := by decide +kernel
theorem dX7_like_80 : decode cX7_like 80 = .ok (.getfield 30, 3) := by decide +kernel
theorem dX7_like_83 : decode cX7_like 83 = .ok (.lload 6, 2) := by decide +kernel
theorem dX7_like_85 : decode cX7_like 85 = .ok (.aload 4, 2) := by decide +kernel
theorem dX7_like_87 : decode cX7_like 87 = .ok (.getfield 150, 3) := by decide +kernel
theorem dX7_like_90 : decode cX7_like 90 = .ok (.i2l, 1) := by decide +kernel
theorem dX7_like_91 : decode cX7_like 91 = .ok (.aload 5, 2) := by decide +kernel
theorem dX7_like_93 : decode cX7_like 93 = .ok (.getfield 150, 3) := by decide +kernel
theorem dX7_like_96 : decode cX7_like 96 = .ok (.i2l, 1) := by decide +kernel
theorem dX7_like_97 : decode cX7_like 97 = .ok (.invokevirtual 191, 3) := by decide +kernel
theorem dX7_like_100 : decode cX7_like 100 = .ok (.lstore 10, 2) := by decide +kernel
theorem dX7_like_102 : decode cX7_like 102 = .ok (.iload_n 3, 1) := by decide +kernel
theorem dX7_like_103 : decode cX7_like 103 = .ok (.tableswitch 106 0 4 #[33, 36, 56, 66, 76], 33) := by decide +kernel
theorem dX7_like_136 : decode cX7_like 136 = .ok (.lload 6, 2) := by decide +kernel
theorem dX7_like_138 : decode cX7_like 138 = .ok (.lreturn, 1) := by decide +kernel
theorem dX7_like_139 : decode cX7_like 139 = .ok (.aload_n 0, 1) := by decide +kernel
theorem dX7_like_140 : decode cX7_like 140 = .ok (.getfield 30, 3) := by decide +kernel
theorem dX7_like_143 : decode cX7_like 143 = .ok (.aload 4, 2) := by decide +kernel
theorem dX7_like_145 : decode cX7_like 145 = .ok (.getfield 150, 3) := by decide +kernel
theorem dX7_like_148 : decode cX7_like 148 = .ok (.i2l, 1) := by decide +kernel
theorem dX7_like_149 : decode cX7_like 149 = .ok (.aload 5, 2) := by decide +kernel
theorem dX7_like_151 : decode cX7_like 151 = .ok (.getfield 150, 3) := by decide +kernel
theorem dX7_like_154 : decode cX7_like 154 = .ok (.i2l, 1) := by decide +kernel
theorem dX7_like_155 : decode cX7_like 155 = .ok (.invokevirtual 194, 3) := by decide +kernel
theorem dX7_like_158 : decode cX7_like 158 = .ok (.lreturn, 1) := by decide +kernel
theorem dX7_like_159 : decode cX7_like 159 = .ok (.lload 8, 2) := by decide +kernel
theorem dX7_like_161 : decode cX7_like 161 = .ok (.lload 8, 2) := by decide +kernel
theorem dX7_like_163 : decode cX7_like 163 = .ok (.lload 10, 2) := by decide +kernel
theorem dX7_like_165 : decode cX7_like 165 = .ok (.invokestatic 198, 3) := by decide +kernel
theorem dX7_like_168 : decode cX7_like 168 = .ok (.lreturn, 1) := by decide +kernel
theorem dX7_like_169 : decode cX7_like 169 = .ok (.lload 10, 2) := by decide +kernel
theorem dX7_like_171 : decode cX7_like 171 = .ok (.lload 8, 2) := by decide +kernel
theorem dX7_like_173 : decode cX7_like 173 = .ok (.lload 10, 2) := by decide +kernel
theorem dX7_like_175 : decode cX7_like 175 = .ok (.invokestatic 198, 3) := by decide +kernel
theorem dX7_like_178 : decode cX7_like 178 = .ok (.lreturn, 1) := by decide +kernel
theorem dX7_like_179 : decode cX7_like 179 = .ok (.aload_n 0, 1) := by decide +kernel
theorem dX7_like_180 : decode cX7_like 180 = .ok (.getfield 30, 3) := by decide +kernel
theorem dX7_like_183 : decode cX7_like 183 = .ok (.lload 6, 2) := by decide +kernel
theorem dX7_like_185 : decode cX7_like 185 = .ok (.aload 4, 2) := by decide +kernel
theorem dX7_like_187 : decode cX7_like 187 = .ok (.getfield 150, 3) := by decide +kernel
theorem dX7_like_190 : decode cX7_like 190 = .ok (.i2l, 1) := by decide +kernel
theorem dX7_like_191 : decode cX7_like 191 = .ok (.aload 5, 2) := by decide +kernel
theorem dX7_like_193 : decode cX7_like 193 = .ok (.getfield 150, 3) := by decide +kernel
theorem dX7_like_196 : decode cX7_like 196 = .ok (.i2l, 1) := by decide +kernel
theorem dX7_like_197 : decode cX7_like 197 = .ok (.invokevirtual 201, 3) := by decide +kernel
theorem dX7_like_200 : decode cX7_like 200 = .ok (.ifCond .eq 7, 3) := by decide +kernel
theorem dX7_like_203 : decode cX7_like 203 = .ok (.lconst 1, 1) := by decide +kernel
theorem dX7_like_204 : decode cX7_like 204 = .ok (.goto 4, 3) := by decide +kernel
theorem dX7_like_207 : decode cX7_like 207 = .ok (.lconst 0, 1) := by decide +kernel
theorem dX7_like_208 : decode cX7_like 208 = .ok (.lreturn, 1) := by decide +kernel
theorem dX7_like_209 : decode cX7_like 209 = .ok (.ldc2_w 178, 3) := by decide +kernel
theorem dX7_like_212 : decode cX7_like 212 = .ok (.lreturn, 1) := by decide +kernel
theorem dX7_why_0 : decode cX7_why 0 = .ok (.aload_n 0, 1) := by decide +kernel
theorem dX7_why_1 : decode cX7_why 1 = .ok (.iload_n 1, 1) := by decide +kernel
theorem dX7_why_2 : decode cX7_why 2 = .ok (.invokevirtual 74, 3) := by decide +kernel
theorem dX7_why_5 : decode cX7_why 5 = .ok (.astore_n 3, 1) := by decide +kernel
theorem dX7_why_6 : decode cX7_why 6 = .ok (.aload_n 0, 1) := by decide +kernel
theorem dX7_why_7 : decode cX7_why 7 = .ok (.iload_n 2, 1) := by decide +kernel
theorem dX7_why_8 : decode cX7_why 8 = .ok (.invokevirtual 74, 3) := by decide +kernel
theorem dX7_why_11 : decode cX7_why 11 = .ok (.astore 4, 2) := by decide +kernel
theorem dX7_why_13 : decode cX7_why 13 = .ok (.aload_n 3, 1) := by decide +kernel
theorem dX7_why_14 : decode cX7_why 14 = .ok (.ifnull 13, 3) := by decide +kernel
theorem dX7_why_17 : decode cX7_why 17 = .ok (.aload 4, 2) := by decide +kernel
theorem dX7_why_19 : decode cX7_why 19 = .ok (.ifnull 8, 3) := by decide +kernel
theorem dX7_why_22 : decode cX7_why 22 = .ok (.iload_n 1, 1) := by decide +kernel
theorem dX7_why_23 : decode cX7_why 23 = .ok (.iload_n 2, 1) := by decide +kernel
theorem dX7_why_24 : decode cX7_why 24 = .ok (.if_icmp .ne 5, 3) := by decide +kernel
theorem dX7_why_27 : decode cX7_why 27 = .ok (.iconst (-1), 1) := by decide +kernel
theorem dX7_why_28 : decode cX7_why 28 = .ok (.ireturn, 1) := by decide +kernel
theorem dX7_why_29 : decode cX7_why 29 = .ok (.aload_n 0, 1) := by decide +kernel
theorem dX7_why_30 : decode cX7_why 30 = .ok (.aload_n 3, 1) := by decide +kernel
theorem dX7_why_31 : decode cX7_why 31 = .ok (.aload_n 0, 1) := by decide +kernel
theorem dX7_why_32 : decode cX7_why 32 = .ok (.aload_n 3, 1) := by decide +kernel
theorem dX7_why_33 : decode cX7_why 33 = .ok (.invokevirtual 157, 3) := by decide +kernel
theorem dX7_why_36 : decode cX7_why 36 = .ok (.aload 4, 2) := by decide +kernel
theorem dX7_why_38 : decode cX7_why 38 = .ok (.aload_n 0, 1) := by decide +kernel
theorem dX7_why_39 : decode cX7_why 39 = .ok (.aload 4, 2) := by decide +kernel
theorem dX7_why_41 : decode cX7_why 41 = .ok (.invokevirtual 157, 3) := by decide +kernel
theorem dX7_why_44 : decode cX7_why 44 = .ok (.invokevirtual 205, 3) := by decide +kernel
theorem dX7_why_47 : decode cX7_why 47 = .ok (.ireturn, 1) := by decide +kernel
theorem dX7_pairs_0 : decode cX7_pairs 0 = .ok (.aload_n 0, 1) := by decide +kernel
theorem dX7_pairs_1 : decode cX7_pairs 1 = .ok (.invokevirtual 209, 3) := by decide +kernel
theorem dX7_pairs_4 : decode cX7_pairs 4 = .ok (.iconst 0, 1) := by decide +kernel
theorem dX7_pairs_5 : decode cX7_pairs 5 = .ok (.istore_n 1, 1) := by decide +kernel
theorem dX7_pairs_6 : decode cX7_pairs 6 = .ok (.iload_n 1, 1) := by decide +kernel
theorem dX7_pairs_7 : decode cX7_pairs 7 = .ok (.aload_n 0, 1) := by decide +kernel
theorem dX7_pairs_8 : decode cX7_pairs 8 = .ok (.getfield 69, 3) := by decide +kernel
theorem dX7_pairs_11 : decode cX7_pairs 11 = .ok (.if_icmp .ge 51, 3) := by decide +kernel
theorem dX7_pairs_14 : decode cX7_pairs 14 = .ok (.iload_n 1, 1) := by decide +kernel
theorem dX7_pairs_15 : decode cX7_pairs 15 = .ok (.iconst 1, 1) := by decide +kernel
theorem dX7_pairs_16 : decode cX7_pairs 16 = .ok (.iadd, 1) := by decide +kernel
theorem dX7_pairs_17 : decode cX7_pairs 17 = .ok (.istore_n 2, 1) := by decide +kernel
theorem dX7_pairs_18 : decode cX7_pairs 18 = .ok (.iload_n 2, 1) := by decide +kernel
theorem dX7_pairs_19 : decode cX7_pairs 19 = .ok (.aload_n 0, 1) := by decide +kernel
theorem dX7_pairs_20 : decode cX7_pairs 20 = .ok (.getfield 69, 3) := by decide +kernel
theorem dX7_pairs_23 : decode cX7_pairs 23 = .ok (.if_icmp .ge 33, 3) := by decide +kernel
theorem dX7_pairs_26 : decode cX7_pairs 26 = .ok (.aload_n 0, 1) := by decide +kernel
theorem dX7_pairs_27 : decode cX7_pairs 27 = .ok (.getfield 11, 3) := by decide +kernel
theorem dX7_pairs_30 : decode cX7_pairs 30 = .ok (.iload_n 1, 1) := by decide +kernel
theorem dX7_pairs_31 : decode cX7_pairs 31 = .ok (.aaload, 1) := by decide +kernel
theorem dX7_pairs_32 : decode cX7_pairs 32 = .ok (.ifnull 18, 3) := by decide +kernel
theorem dX7_pairs_35 : decode cX7_pairs 35 = .ok (.aload_n 0, 1) := by decide +kernel
theorem dX7_pairs_36 : decode cX7_pairs 36 = .ok (.getfield 11, 3) := by decide +kernel
theorem dX7_pairs_39 : decode cX7_pairs 39 = .ok (.iload_n 2, 1) := by decide +kernel
theorem dX7_pairs_40 : decode cX7_pairs 40 = .ok (.aaload, 1) := by decide +kernel
theorem dX7_pairs_41 : decode cX7_pairs 41 = .ok (.ifnull 9, 3) := by decide +kernel
theorem dX7_pairs_44 : decode cX7_pairs 44 = .ok (.aload_n 0, 1) := by decide +kernel
theorem dX7_pairs_45 : decode cX7_pairs 45 = .ok (.iload_n 1, 1) := by decide +kernel
theorem dX7_pairs_46 : decode cX7_pairs 46 = .ok (.iload_n 2, 1) := by decide +kernel
theorem dX7_pairs_47 : decode cX7_pairs 47 = .ok (.invokevirtual 212, 3) := by decide +kernel
theorem dX7_pairs_50 : decode cX7_pairs 50 = .ok (.iinc 2 1, 3) := by decide +kernel
theorem dX7_pairs_53 : decode cX7_pairs 53 = .ok (.goto (-35), 3) := by decide +kernel
theorem dX7_pairs_56 : decode cX7_pairs 56 = .ok (.iinc 1 1, 3) := by decide +kernel
theorem dX7_pairs_59 : decode cX7_pairs 59 = .ok (.goto (-53), 3) := by decide +kernel
theorem dX7_pairs_62 : decode cX7_pairs 62 = .ok (.aload_n 0, 1) := by decide +kernel
theorem dX7_pairs_63 : decode cX7_pairs 63 = .ok (.getfield 52, 3) := by decide +kernel
theorem dX7_pairs_66 : decode cX7_pairs 66 = .ok (.iconst 0, 1) := by decide +kernel
theorem dX7_pairs_67 : decode cX7_pairs 67 = .ok (.iaload, 1) := by decide +kernel
theorem dX7_pairs_68 : decode cX7_pairs 68 = .ok (.ireturn, 1) := by decide +kernel
theorem dX7_pair_0 : decode cX7_pair 0 = .ok (.iload_n 1, 1) := by decide +kernel
theorem dX7_pair_1 : decode cX7_pair 1 = .ok (.ifCond .lt 23, 3) := by decide +kernel
theorem dX7_pair_4 : decode cX7_pair 4 = .ok (.iload_n 1, 1) := by decide +kernel
theorem dX7_pair_5 : decode cX7_pair 5 = .ok (.aload_n 0, 1) := by decide +kernel
theorem dX7_pair_6 : decode cX7_pair 6 = .ok (.getfield 58, 3) := by decide +kernel
theorem dX7_pair_9 : decode cX7_pair 9 = .ok (.getfield 216, 3) := by decide +kernel
theorem dX7_pair_12 : decode cX7_pair 12 = .ok (.if_icmp .ge 12, 3) := by decide +kernel
theorem dX7_pair_15 : decode cX7_pair 15 = .ok (.iload_n 2, 1) := by decide +kernel
theorem dX7_pair_16 : decode cX7_pair 16 = .ok (.ifCond .lt 8, 3) := by decide +kernel
theorem dX7_pair_19 : decode cX7_pair 19 = .ok (.iload_n 2, 1) := by decide +kernel
theorem dX7_pair_20 : decode cX7_pair 20 = .ok (.iconst 2, 1) := by decide +kernel
theorem dX7_pair_21 : decode cX7_pair 21 = .ok (.if_icmp .le 13, 3) := by decide +kernel
theorem dX7_pair_24 : decode cX7_pair 24 = .ok (.new 217, 3) := by decide +kernel
theorem dX7_pair_27 : decode cX7_pair 27 = .ok (.dup, 1) := by decide +kernel
theorem dX7_pair_28 : decode cX7_pair 28 = .ok (.ldc 219, 2) := by decide +kernel
theorem dX7_pair_30 : decode cX7_pair 30 = .ok (.invokespecial 221, 3) := by decide +kernel
theorem dX7_pair_33 : decode cX7_pair 33 = .ok (.athrow, 1) := by decide +kernel
theorem dX7_pair_34 : decode cX7_pair 34 = .ok (.iload_n 2, 1) := by decide +kernel
theorem dX7_pair_35 : decode cX7_pair 35 = .ok (.iconst 2, 1) := by decide +kernel
theorem dX7_pair_36 : decode cX7_pair 36 = .ok (.if_icmp .ne 13, 3) := by decide +kernel
theorem dX7_pair_39 : decode cX7_pair 39 = .ok (.aload_n 0, 1) := by decide +kernel
theorem dX7_pair_40 : decode cX7_pair 40 = .ok (.getfield 58, 3) := by decide +kernel
theorem dX7_pair_43 : decode cX7_pair 43 = .ok (.getfield 224, 3) := by decide +kernel
theorem dX7_pair_46 : decode cX7_pair 46 = .ok (.iload_n 1, 1) := by decide +kernel
theorem dX7_pair_47 : decode cX7_pair 47 = .ok (.iaload, 1) := by decide +kernel
theorem dX7_pair_48 : decode cX7_pair 48 = .ok (.ireturn, 1) := by decide +kernel
theorem dX7_pair_49 : decode cX7_pair 49 = .ok (.iload_n 2, 1) := by decide +kernel
theorem dX7_pair_50 : decode cX7_pair 50 = .ok (.ifCond .ne 15, 3) := by decide +kernel
theorem dX7_pair_53 : decode cX7_pair 53 = .ok (.aload_n 0, 1) := by decide +kernel
theorem dX7_pair_54 : decode cX7_pair 54 = .ok (.getfield 58, 3) := by decide +kernel
theorem dX7_pair_57 : decode cX7_pair 57 = .ok (.getfield 226, 3) := by decide +kernel
theorem dX7_pair_60 : decode cX7_pair 60 = .ok (.iload_n 1, 1) := by decide +kernel
theorem dX7_pair_61 : decode cX7_pair 61 = .ok (.iaload, 1) := by decide +kernel
theorem dX7_pair_62 : decode cX7_pair 62 = .ok (.goto 12, 3) := by decide +kernel
theorem dX7_pair_65 : decode cX7_pair 65 = .ok (.aload_n 0, 1) := by decide +kernel
theorem dX7_pair_66 : decode cX7_pair 66 = .ok (.getfield 58, 3) := by decide +kernel
theorem dX7_pair_69 : decode cX7_pair 69 = .ok (.getfield 229, 3) := by decide +kernel
theorem dX7_pair_72 : decode cX7_pair 72 = .ok (.iload_n 1, 1) := by decide +kernel
theorem dX7_pair_73 : decode cX7_pair 73 = .ok (.iaload, 1) := by decide +kernel
theorem dX7_pair_74 : decode cX7_pair 74 = .ok (.ireturn, 1) := by decide +kernel
theorem dX7_top_0 : decode cX7_top 0 = .ok (.iload_n 1, 1) := by decide +kernel
theorem dX7_top_1 : decode cX7_top 1 = .ok (.iconst 1, 1) := by decide +kernel
theorem dX7_top_2 : decode cX7_top 2 = .ok (.if_icmp .lt 9, 3) := by decide +kernel
theorem dX7_top_5 : decode cX7_top 5 = .ok (.iload_n 1, 1) := by decide +kernel
theorem dX7_top_6 : decode cX7_top 6 = .ok (.bipush 100, 2) := by decide +kernel
theorem dX7_top_8 : decode cX7_top 8 = .ok (.if_icmp .le 5, 3) := by decide +kernel
theorem dX7_top_11 : decode cX7_top 11 = .ok (.iconst (-1), 1) := by decide +kernel
theorem dX7_top_12 : decode cX7_top 12 = .ok (.ireturn, 1) := by decide +kernel
theorem dX7_top_13 : decode cX7_top 13 = .ok (.aload_n 0, 1) := by decide +kernel
theorem dX7_top_14 : decode cX7_top 14 = .ok (.getfield 58, 3) := by decide +kernel
theorem dX7_top_17 : decode cX7_top 17 = .ok (.invokevirtual 232, 3) := by decide +kernel
theorem dX7_top_20 : decode cX7_top 20 = .ok (.iconst 0, 1) := by decide +kernel
theorem dX7_top_21 : decode cX7_top 21 = .ok (.istore_n 2, 1) := by decide +kernel
theorem dX7_top_22 : decode cX7_top 22 = .ok (.iload_n 2, 1) := by decide +kernel
theorem dX7_top_23 : decode cX7_top 23 = .ok (.aload_n 0, 1) := by decide +kernel
theorem dX7_top_24 : decode cX7_top 24 = .ok (.getfield 69, 3) := by decide +kernel
theorem dX7_top_27 : decode cX7_top 27 = .ok (.if_icmp .ge 52, 3) := by decide +kernel
theorem dX7_top_30 : decode cX7_top 30 = .ok (.iload_n 2, 1) := by decide +kernel
theorem dX7_top_31 : decode cX7_top 31 = .ok (.iconst 1, 1) := by decide +kernel
theorem dX7_top_32 : decode cX7_top 32 = .ok (.iadd, 1) := by decide +kernel
theorem dX7_top_33 : decode cX7_top 33 = .ok (.istore_n 3, 1) := by decide +kernel
theorem dX7_top_34 : decode cX7_top 34 = .ok (.iload_n 3, 1) := by decide +kernel
theorem dX7_top_35 : decode cX7_top 35 = .ok (.aload_n 0, 1) := by decide +kernel
theorem dX7_top_36 : decode cX7_top 36 = .ok (.getfield 69, 3) := by decide +kernel
theorem dX7_top_39 : decode cX7_top 39 = .ok (.if_icmp .ge 34, 3) := by decide +kernel
theorem dX7_top_42 : decode cX7_top 42 = .ok (.aload_n 0, 1) := by decide +kernel
theorem dX7_top_43 : decode cX7_top 43 = .ok (.getfield 11, 3) := by decide +kernel
theorem dX7_top_46 : decode cX7_top 46 = .ok (.iload_n 2, 1) := by decide +kernel
theorem dX7_top_47 : decode cX7_top 47 = .ok (.aaload, 1) := by decide +kernel
theorem dX7_top_48 : decode cX7_top 48 = .ok (.ifnull 19, 3) := by decide +kernel
theorem dX7_top_51 : decode cX7_top 51 = .ok (.aload_n 0, 1) := by decide +kernel
theorem dX7_top_52 : decode cX7_top 52 = .ok (.getfield 11, 3) := by decide +kernel
theorem dX7_top_55 : decode cX7_top 55 = .ok (.iload_n 3, 1) := by decide +kernel
theorem dX7_top_56 : decode cX7_top 56 = .ok (.aaload, 1) := by decide +kernel
theorem dX7_top_57 : decode cX7_top 57 = .ok (.ifnull 10, 3) := by decide +kernel
theorem dX7_top_60 : decode cX7_top 60 = .ok (.aload_n 0, 1) := by decide +kernel
theorem dX7_top_61 : decode cX7_top 61 = .ok (.iload_n 2, 1) := by decide +kernel
theorem dX7_top_62 : decode cX7_top 62 = .ok (.iload_n 3, 1) := by decide +kernel
theorem dX7_top_63 : decode cX7_top 63 = .ok (.iload_n 1, 1) := by decide +kernel
theorem dX7_top_64 : decode cX7_top 64 = .ok (.invokevirtual 233, 3) := by decide +kernel
theorem dX7_top_67 : decode cX7_top 67 = .ok (.iinc 3 1, 3) := by decide +kernel
theorem dX7_top_70 : decode cX7_top 70 = .ok (.goto (-36), 3) := by decide +kernel
theorem dX7_top_73 : decode cX7_top 73 = .ok (.iinc 2 1, 3) := by decide +kernel
theorem dX7_top_76 : decode cX7_top 76 = .ok (.goto (-54), 3) := by decide +kernel
theorem dX7_top_79 : decode cX7_top 79 = .ok (.aload_n 0, 1) := by decide +kernel
theorem dX7_top_80 : decode cX7_top 80 = .ok (.getfield 58, 3) := by decide +kernel
theorem dX7_top_83 : decode cX7_top 83 = .ok (.getfield 216, 3) := by decide +kernel
theorem dX7_top_86 : decode cX7_top 86 = .ok (.ireturn, 1) := by decide +kernel
theorem dX7_core_0 : decode cX7_core 0 = .ok (.aload_n 0, 1) := by decide +kernel
theorem dX7_core_1 : decode cX7_core 1 = .ok (.iload_n 1, 1) := by decide +kernel
theorem dX7_core_2 : decode cX7_core 2 = .ok (.invokevirtual 74, 3) := by decide +kernel
theorem dX7_core_5 : decode cX7_core 5 = .ok (.ifnonnull 5, 3) := by decide +kernel
theorem dX7_core_8 : decode cX7_core 8 = .ok (.iconst (-1), 1) := by decide +kernel
theorem dX7_core_9 : decode cX7_core 9 = .ok (.ireturn, 1) := by decide +kernel
theorem dX7_core_10 : decode cX7_core 10 = .ok (.aload_n 0, 1) := by decide +kernel
theorem dX7_core_11 : decode cX7_core 11 = .ok (.invokevirtual 161, 3) := by decide +kernel
theorem dX7_core_14 : decode cX7_core 14 = .ok (.iload_n 1, 1) := by decide +kernel
theorem dX7_core_15 : decode cX7_core 15 = .ok (.invokevirtual 165, 3) := by decide +kernel
theorem dX7_core_18 : decode cX7_core 18 = .ok (.lstore_n 2, 1) := by decide +kernel
theorem dX7_core_19 : decode cX7_core 19 = .ok (.lload_n 2, 1) := by decide +kernel
theorem dX7_core_20 : decode cX7_core 20 = .ok (.invokestatic 173, 3) := by decide +kernel
theorem dX7_core_23 : decode cX7_core 23 = .ok (.bipush 20, 2) := by decide +kernel
theorem dX7_core_25 : decode cX7_core 25 = .ok (.if_icmp .le 6, 3) := by decide +kernel
theorem dX7_core_28 : decode cX7_core 28 = .ok (.bipush (-2), 2) := by decide +kernel
theorem dX7_core_30 : decode cX7_core 30 = .ok (.ireturn, 1) := by decide +kernel
theorem dX7_core_31 : decode cX7_core 31 = .ok (.aload_n 0, 1) := by decide +kernel
theorem dX7_core_32 : decode cX7_core 32 = .ok (.aload_n 0, 1) := by decide +kernel
theorem dX7_core_33 : decode cX7_core 33 = .ok (.getfield 65, 3) := by decide +kernel
theorem dX7_core_36 : decode cX7_core 36 = .ok (.lload_n 2, 1) := by decide +kernel
theorem dX7_core_37 : decode cX7_core 37 = .ok (.invokevirtual 237, 3) := by decide +kernel
theorem dX7_core_40 : decode cX7_core 40 = .ok (.putfield 240, 3) := by decide +kernel
theorem dX7_core_43 : decode cX7_core 43 = .ok (.aload_n 0, 1) := by decide +kernel
theorem dX7_core_44 : decode cX7_core 44 = .ok (.getfield 240, 3) := by decide +kernel
theorem dX7_core_47 : decode cX7_core 47 = .ok (.invokestatic 173, 3) := by decide +kernel
theorem dX7_core_50 : decode cX7_core 50 = .ok (.ireturn, 1) := by decide +kernel
theorem dX7_member_0 : decode cX7_member 0 = .ok (.iload_n 1, 1) := by decide +kernel
theorem dX7_member_1 : decode cX7_member 1 = .ok (.ifCond .lt 14, 3) := by decide +kernel
theorem dX7_member_4 : decode cX7_member 4 = .ok (.iload_n 1, 1) := by decide +kernel
theorem dX7_member_5 : decode cX7_member 5 = .ok (.aload_n 0, 1) := by decide +kernel
theorem dX7_member_6 : decode cX7_member 6 = .ok (.getfield 240, 3) := by decide +kernel
theorem dX7_member_9 : decode cX7_member 9 = .ok (.invokestatic 173, 3) := by decide +kernel
theorem dX7_member_12 : decode cX7_member 12 = .ok (.if_icmp .lt 5, 3) := by decide +kernel
theorem dX7_member_15 : decode cX7_member 15 = .ok (.iconst (-1), 1) := by decide +kernel
theorem dX7_member_16 : decode cX7_member 16 = .ok (.ireturn, 1) := by decide +kernel
theorem dX7_member_17 : decode cX7_member 17 = .ok (.aload_n 0, 1) := by decide +kernel
theorem dX7_member_18 : decode cX7_member 18 = .ok (.getfield 240, 3) := by decide +kernel
theorem dX7_member_21 : decode cX7_member 21 = .ok (.lstore_n 2, 1) := by decide +kernel
theorem dX7_member_22 : decode cX7_member 22 = .ok (.iconst 0, 1) := by decide +kernel
theorem dX7_member_23 : decode cX7_member 23 = .ok (.istore 4, 2) := by decide +kernel
theorem dX7_member_25 : decode cX7_member 25 = .ok (.iload 4, 2) := by decide +kernel
theorem dX7_member_27 : decode cX7_member 27 = .ok (.iload_n 1, 1) := by decide +kernel
theorem dX7_member_28 : decode cX7_member 28 = .ok (.if_icmp .ge 15, 3) := by decide +kernel
theorem dX7_member_31 : decode cX7_member 31 = .ok (.lload_n 2, 1) := by decide +kernel
theorem dX7_member_32 : decode cX7_member 32 = .ok (.lload_n 2, 1) := by decide +kernel
theorem dX7_member_33 : decode cX7_member 33 = .ok (.lconst 1, 1) := by decide +kernel
theorem dX7_member_34 : decode cX7_member 34 = .ok (.lsub, 1) := by decide +kernel
theorem dX7_member_35 : decode cX7_member 35 = .ok (.land, 1) := by decide +kernel
theorem dX7_member_36 : decode cX7_member 36 = .ok (.lstore_n 2, 1) := by decide +kernel
theorem dX7_member_37 : decode cX7_member 37 = .ok (.iinc 4 1, 3) := by decide +kernel
theorem dX7_member_40 : decode cX7_member 40 = .ok (.goto (-15), 3) := by decide +kernel
theorem dX7_member_43 : decode cX7_member 43 = .ok (.lload_n 2, 1) := by decide +kernel
theorem dX7_member_44 : decode cX7_member 44 = .ok (.invokestatic 169, 3) := by decide +kernel
theorem dX7_member_47 : decode cX7_member 47 = .ok (.ireturn, 1) := by decide +kernel
theorem dX7_chain_0 : decode cX7_chain 0 = .ok (.aload_n 0, 1) := by decide +kernel
theorem dX7_chain_1 : decode cX7_chain 1 = .ok (.iload_n 1, 1) := by decide +kernel
theorem dX7_chain_2 : decode cX7_chain 2 = .ok (.invokevirtual 74, 3) := by decide +kernel
theorem dX7_chain_5 : decode cX7_chain 5 = .ok (.ifnull 11, 3) := by decide +kernel
theorem dX7_chain_8 : decode cX7_chain 8 = .ok (.aload_n 0, 1) := by decide +kernel
theorem dX7_chain_9 : decode cX7_chain 9 = .ok (.iload_n 2, 1) := by decide +kernel
theorem dX7_chain_10 : decode cX7_chain 10 = .ok (.invokevirtual 74, 3) := by decide +kernel
theorem dX7_chain_13 : decode cX7_chain 13 = .ok (.ifnonnull 5, 3) := by decide +kernel
theorem dX7_chain_16 : decode cX7_chain 16 = .ok (.iconst (-1), 1) := by decide +kernel
theorem dX7_chain_17 : decode cX7_chain 17 = .ok (.ireturn, 1) := by decide +kernel
theorem dX7_chain_18 : decode cX7_chain 18 = .ok (.aload_n 0, 1) := by decide +kernel
theorem dX7_chain_19 : decode cX7_chain 19 = .ok (.invokevirtual 161, 3) := by decide +kernel
theorem dX7_chain_22 : decode cX7_chain 22 = .ok (.iload_n 1, 1) := by decide +kernel
theorem dX7_chain_23 : decode cX7_chain 23 = .ok (.iload_n 2, 1) := by decide +kernel
theorem dX7_chain_24 : decode cX7_chain 24 = .ok (.invokevirtual 244, 3) := by decide +kernel
theorem dX7_chain_27 : decode cX7_chain 27 = .ok (.ireturn, 1) := by decide +kernel
theorem dX7_next_0 : decode cX7_next 0 = .ok (.aload_n 0, 1) := by decide +kernel
theorem dX7_next_1 : decode cX7_next 1 = .ok (.iload_n 1, 1) := by decide +kernel
theorem dX7_next_2 : decode cX7_next 2 = .ok (.iload_n 2, 1) := by decide +kernel
theorem dX7_next_3 : decode cX7_next 3 = .ok (.invokevirtual 247, 3) := by decide +kernel
theorem dX7_next_6 : decode cX7_next 6 = .ok (.istore_n 3, 1) := by decide +kernel
theorem dX7_next_7 : decode cX7_next 7 = .ok (.iload_n 3, 1) := by decide +kernel
theorem dX7_next_8 : decode cX7_next 8 = .ok (.iconst 1, 1) := by decide +kernel
theorem dX7_next_9 : decode cX7_next 9 = .ok (.if_icmp .ge 7, 3) := by decide +kernel
theorem dX7_next_12 : decode cX7_next 12 = .ok (.iconst (-1), 1) := by decide +kernel
theorem dX7_next_13 : decode cX7_next 13 = .ok (.goto 13, 3) := by decide +kernel
theorem dX7_next_16 : decode cX7_next 16 = .ok (.aload_n 0, 1) := by decide +kernel
theorem dX7_next_17 : decode cX7_next 17 = .ok (.getfield 65, 3) := by decide +kernel
theorem dX7_next_20 : decode cX7_next 20 = .ok (.iload_n 1, 1) := by decide +kernel
theorem dX7_next_21 : decode cX7_next 21 = .ok (.iload_n 2, 1) := by decide +kernel
theorem dX7_next_22 : decode cX7_next 22 = .ok (.iload_n 3, 1) := by decide +kernel
theorem dX7_next_23 : decode cX7_next 23 = .ok (.invokevirtual 250, 3) := by decide +kernel
theorem dX7_next_26 : decode cX7_next 26 = .ok (.ireturn, 1) := by decide +kernel
theorem dX7_count_0 : decode cX7_count 0 = .ok (.iload_n 1, 1) := by decide +kernel
theorem dX7_count_1 : decode cX7_count 1 = .ok (.tableswitch 166 0 13 #[71, 76, 81, 88, 95, 102, 109, 116, 121, 126, 134, 142, 150, 158], 71) := by decide +kernel
theorem dX7_count_72 : decode cX7_count 72 = .ok (.aload_n 0, 1) := by decide +kernel
theorem dX7_count_73 : decode cX7_count 73 = .ok (.invokevirtual 254, 3) := by decide +kernel
theorem dX7_count_76 : decode cX7_count 76 = .ok (.ireturn, 1) := by decide +kernel
theorem dX7_count_77 : decode cX7_count 77 = .ok (.aload_n 0, 1) := by decide +kernel
theorem dX7_count_78 : decode cX7_count 78 = .ok (.invokevirtual 258, 3) := by decide +kernel
theorem dX7_count_81 : decode cX7_count 81 = .ok (.ireturn, 1) := by decide +kernel
theorem dX7_count_82 : decode cX7_count 82 = .ok (.aload_n 0, 1) := by decide +kernel
theorem dX7_count_83 : decode cX7_count 83 = .ok (.getfield 52, 3) := by decide +kernel
theorem dX7_count_86 : decode cX7_count 86 = .ok (.iconst 0, 1) := by decide +kernel
theorem dX7_count_87 : decode cX7_count 87 = .ok (.iaload, 1) := by decide +kernel
theorem dX7_count_88 : decode cX7_count 88 = .ok (.ireturn, 1) := by decide +kernel
theorem dX7_count_89 : decode cX7_count 89 = .ok (.aload_n 0, 1) := by decide +kernel
theorem dX7_count_90 : decode cX7_count 90 = .ok (.getfield 52, 3) := by decide +kernel
theorem dX7_count_93 : decode cX7_count 93 = .ok (.iconst 4, 1) := by decide +kernel
theorem dX7_count_94 : decode cX7_count 94 = .ok (.iaload, 1) := by decide +kernel
theorem dX7_count_95 : decode cX7_count 95 = .ok (.ireturn, 1) := by decide +kernel
theorem dX7_count_96 : decode cX7_count 96 = .ok (.aload_n 0, 1) := by decide +kernel
theorem dX7_count_97 : decode cX7_count 97 = .ok (.getfield 52, 3) := by decide +kernel
theorem dX7_count_100 : decode cX7_count 100 = .ok (.iconst 2, 1) := by decide +kernel
theorem dX7_count_101 : decode cX7_count 101 = .ok (.iaload, 1) := by decide +kernel
theorem dX7_count_102 : decode cX7_count 102 = .ok (.ireturn, 1) := by decide +kernel
theorem dX7_count_103 : decode cX7_count 103 = .ok (.aload_n 0, 1) := by decide +kernel
theorem dX7_count_104 : decode cX7_count 104 = .ok (.getfield 52, 3) := by decide +kernel
theorem dX7_count_107 : decode cX7_count 107 = .ok (.iconst 3, 1) := by decide +kernel
theorem dX7_count_108 : decode cX7_count 108 = .ok (.iaload, 1) := by decide +kernel
theorem dX7_count_109 : decode cX7_count 109 = .ok (.ireturn, 1) := by decide +kernel
theorem dX7_count_110 : decode cX7_count 110 = .ok (.aload_n 0, 1) := by decide +kernel
theorem dX7_count_111 : decode cX7_count 111 = .ok (.getfield 52, 3) := by decide +kernel
theorem dX7_count_114 : decode cX7_count 114 = .ok (.iconst 1, 1) := by decide +kernel
theorem dX7_count_115 : decode cX7_count 115 = .ok (.iaload, 1) := by decide +kernel
theorem dX7_count_116 : decode cX7_count 116 = .ok (.ireturn, 1) := by decide +kernel
theorem dX7_count_117 : decode cX7_count 117 = .ok (.aload_n 0, 1) := by decide +kernel
theorem dX7_count_118 : decode cX7_count 118 = .ok (.getfield 261, 3) := by decide +kernel
theorem dX7_count_121 : decode cX7_count 121 = .ok (.ireturn, 1) := by decide +kernel
theorem dX7_count_122 : decode cX7_count 122 = .ok (.aload_n 0, 1) := by decide +kernel
theorem dX7_count_123 : decode cX7_count 123 = .ok (.invokevirtual 264, 3) := by decide +kernel
theorem dX7_count_126 : decode cX7_count 126 = .ok (.ireturn, 1) := by decide +kernel
theorem dX7_count_127 : decode cX7_count 127 = .ok (.aload_n 0, 1) := by decide +kernel
theorem dX7_count_128 : decode cX7_count 128 = .ok (.getfield 30, 3) := by decide +kernel
theorem dX7_count_131 : decode cX7_count 131 = .ok (.getfield 267, 3) := by decide +kernel
theorem dX7_count_134 : decode cX7_count 134 = .ok (.ireturn, 1) := by decide +kernel
theorem dX7_count_135 : decode cX7_count 135 = .ok (.aload_n 0, 1) := by decide +kernel
theorem dX7_count_136 : decode cX7_count 136 = .ok (.getfield 30, 3) := by decide +kernel
theorem dX7_count_139 : decode cX7_count 139 = .ok (.getfield 270, 3) := by decide +kernel
theorem dX7_count_142 : decode cX7_count 142 = .ok (.ireturn, 1) := by decide +kernel
theorem dX7_count_143 : decode cX7_count 143 = .ok (.aload_n 0, 1) := by decide +kernel
theorem dX7_count_144 : decode cX7_count 144 = .ok (.getfield 30, 3) := by decide +kernel
theorem dX7_count_147 : decode cX7_count 147 = .ok (.getfield 273, 3) := by decide +kernel
theorem dX7_count_150 : decode cX7_count 150 = .ok (.ireturn, 1) := by decide +kernel
theorem dX7_count_151 : decode cX7_count 151 = .ok (.aload_n 0, 1) := by decide +kernel
theorem dX7_count_152 : decode cX7_count 152 = .ok (.getfield 37, 3) := by decide +kernel
theorem dX7_count_155 : decode cX7_count 155 = .ok (.getfield 112, 3) := by decide +kernel
theorem dX7_count_158 : decode cX7_count 158 = .ok (.ireturn, 1) := by decide +kernel
theorem dX7_count_159 : decode cX7_count 159 = .ok (.aload_n 0, 1) := by decide +kernel
theorem dX7_count_160 : decode cX7_count 160 = .ok (.getfield 58, 3) := by decide +kernel
theorem dX7_count_163 : decode cX7_count 163 = .ok (.getfield 216, 3) := by decide +kernel
theorem dX7_count_166 : decode cX7_count 166 = .ok (.ireturn, 1) := by decide +kernel
theorem dX7_count_167 : decode cX7_count 167 = .ok (.iconst (-1), 1) := by decide +kernel
theorem dX7_count_168 : decode cX7_count 168 = .ok (.ireturn, 1) := by decide +kernel
theorem dX7_isNumber_0 : decode cX7_isNumber 0 = .ok (.iload_n 0, 1) := by decide +kernel
theorem dX7_isNumber_1 : decode cX7_isNumber 1 = .ok (.ifCond .lt 14, 3) := by decide +kernel
theorem dX7_isNumber_4 : decode cX7_isNumber 4 = .ok (.iload_n 0, 1) := by decide +kernel
theorem dX7_isNumber_5 : decode cX7_isNumber 5 = .ok (.ldc_w 276, 3) := by decide +kernel
theorem dX7_isNumber_8 : decode cX7_isNumber 8 = .ok (.if_icmp .ge 7, 3) := by decide +kernel
theorem dX7_isNumber_11 : decode cX7_isNumber 11 = .ok (.iconst 1, 1) := by decide +kernel
theorem dX7_isNumber_12 : decode cX7_isNumber 12 = .ok (.goto 4, 3) := by decide +kernel
theorem dX7_isNumber_15 : decode cX7_isNumber 15 = .ok (.iconst 0, 1) := by decide +kernel
theorem dX7_isNumber_16 : decode cX7_isNumber 16 = .ok (.ireturn, 1) := by decide +kernel
theorem dX7_setOf_0 : decode cX7_setOf 0 = .ok (.iload_n 1, 1) := by decide +kernel
theorem dX7_setOf_1 : decode cX7_setOf 1 = .ok (.ifCond .lt 11, 3) := by decide +kernel
theorem dX7_setOf_4 : decode cX7_setOf 4 = .ok (.iload_n 1, 1) := by decide +kernel
theorem dX7_setOf_5 : decode cX7_setOf 5 = .ok (.aload_n 0, 1) := by decide +kernel
theorem dX7_setOf_6 : decode cX7_setOf 6 = .ok (.getfield 69, 3) := by decide +kernel
theorem dX7_setOf_9 : decode cX7_setOf 9 = .ok (.if_icmp .lt 7, 3) := by decide +kernel
theorem dX7_setOf_12 : decode cX7_setOf 12 = .ok (.aconst_null, 1) := by decide +kernel
theorem dX7_setOf_13 : decode cX7_setOf 13 = .ok (.goto 9, 3) := by decide +kernel
theorem dX7_setOf_16 : decode cX7_setOf 16 = .ok (.aload_n 0, 1) := by decide +kernel
theorem dX7_setOf_17 : decode cX7_setOf 17 = .ok (.getfield 11, 3) := by decide +kernel
theorem dX7_setOf_20 : decode cX7_setOf 20 = .ok (.iload_n 1, 1) := by decide +kernel
theorem dX7_setOf_21 : decode cX7_setOf 21 = .ok (.aaload, 1) := by decide +kernel
theorem dX7_setOf_22 : decode cX7_setOf 22 = .ok (.areturn, 1) := by decide +kernel
theorem dX7_weightOf_0 : decode cX7_weightOf 0 = .ok (.aload_n 0, 1) := by decide +kernel
theorem dX7_weightOf_1 : decode cX7_weightOf 1 = .ok (.getfield 30, 3) := by decide +kernel
theorem dX7_weightOf_4 : decode cX7_weightOf 4 = .ok (.getfield 267, 3) := by decide +kernel
theorem dX7_weightOf_7 : decode cX7_weightOf 7 = .ok (.iconst 5, 1) := by decide +kernel
theorem dX7_weightOf_8 : decode cX7_weightOf 8 = .ok (.if_icmp .ne 15, 3) := by decide +kernel
theorem dX7_weightOf_11 : decode cX7_weightOf 11 = .ok (.aload_n 0, 1) := by decide +kernel
theorem dX7_weightOf_12 : decode cX7_weightOf 12 = .ok (.getfield 24, 3) := by decide +kernel
theorem dX7_weightOf_15 : decode cX7_weightOf 15 = .ok (.iload_n 1, 1) := by decide +kernel
theorem dX7_weightOf_16 : decode cX7_weightOf 16 = .ok (.iconst 1, 1) := by decide +kernel
theorem dX7_weightOf_17 : decode cX7_weightOf 17 = .ok (.invokevirtual 146, 3) := by decide +kernel
theorem dX7_weightOf_20 : decode cX7_weightOf 20 = .ok (.goto 4, 3) := by decide +kernel
theorem dX7_weightOf_23 : decode cX7_weightOf 23 = .ok (.iconst 1, 1) := by decide +kernel
theorem dX7_weightOf_24 : decode cX7_weightOf 24 = .ok (.ireturn, 1) := by decide +kernel
theorem dX7_weighAll_0 : decode cX7_weighAll 0 = .ok (.iconst 0, 1) := by decide +kernel
theorem dX7_weighAll_1 : decode cX7_weighAll 1 = .ok (.istore_n 1, 1) := by decide +kernel
theorem dX7_weighAll_2 : decode cX7_weighAll 2 = .ok (.iload_n 1, 1) := by decide +kernel
theorem dX7_weighAll_3 : decode cX7_weighAll 3 = .ok (.aload_n 0, 1) := by decide +kernel
theorem dX7_weighAll_4 : decode cX7_weighAll 4 = .ok (.getfield 69, 3) := by decide +kernel
theorem dX7_weighAll_7 : decode cX7_weighAll 7 = .ok (.if_icmp .ge 58, 3) := by decide +kernel
theorem dX7_weighAll_10 : decode cX7_weighAll 10 = .ok (.aload_n 0, 1) := by decide +kernel
theorem dX7_weighAll_11 : decode cX7_weighAll 11 = .ok (.getfield 11, 3) := by decide +kernel
theorem dX7_weighAll_14 : decode cX7_weighAll 14 = .ok (.iload_n 1, 1) := by decide +kernel
theorem dX7_weighAll_15 : decode cX7_weighAll 15 = .ok (.aaload, 1) := by decide +kernel
theorem dX7_weighAll_16 : decode cX7_weighAll 16 = .ok (.astore_n 2, 1) := by decide +kernel
theorem dX7_weighAll_17 : decode cX7_weighAll 17 = .ok (.iconst 0, 1) := by decide +kernel
theorem dX7_weighAll_18 : decode cX7_weighAll 18 = .ok (.istore_n 3, 1) := by decide +kernel
theorem dX7_weighAll_19 : decode cX7_weighAll 19 = .ok (.aload_n 2, 1) := by decide +kernel
theorem dX7_weighAll_20 : decode cX7_weighAll 20 = .ok (.ifnull 31, 3) := by decide +kernel
theorem dX7_weighAll_23 : decode cX7_weighAll 23 = .ok (.iload_n 3, 1) := by decide +kernel
theorem dX7_weighAll_24 : decode cX7_weighAll 24 = .ok (.aload_n 2, 1) := by decide +kernel
theorem dX7_weighAll_25 : decode cX7_weighAll 25 = .ok (.getfield 132, 3) := by decide +kernel
theorem dX7_weighAll_28 : decode cX7_weighAll 28 = .ok (.if_icmp .ge 23, 3) := by decide +kernel
theorem dX7_weighAll_31 : decode cX7_weighAll 31 = .ok (.aload_n 2, 1) := by decide +kernel
theorem dX7_weighAll_32 : decode cX7_weighAll 32 = .ok (.iload_n 3, 1) := by decide +kernel
theorem dX7_weighAll_33 : decode cX7_weighAll 33 = .ok (.aload_n 0, 1) := by decide +kernel
theorem dX7_weighAll_34 : decode cX7_weighAll 34 = .ok (.aload_n 2, 1) := by decide +kernel
theorem dX7_weighAll_35 : decode cX7_weighAll 35 = .ok (.iload_n 3, 1) := by decide +kernel
theorem dX7_weighAll_36 : decode cX7_weighAll 36 = .ok (.invokevirtual 135, 3) := by decide +kernel
theorem dX7_weighAll_39 : decode cX7_weighAll 39 = .ok (.invokevirtual 89, 3) := by decide +kernel
theorem dX7_weighAll_42 : decode cX7_weighAll 42 = .ok (.invokevirtual 277, 3) := by decide +kernel
theorem dX7_weighAll_45 : decode cX7_weighAll 45 = .ok (.iinc 3 1, 3) := by decide +kernel
theorem dX7_weighAll_48 : decode cX7_weighAll 48 = .ok (.goto (-29), 3) := by decide +kernel
theorem dX7_weighAll_51 : decode cX7_weighAll 51 = .ok (.aload_n 0, 1) := by decide +kernel
theorem dX7_weighAll_52 : decode cX7_weighAll 52 = .ok (.getfield 65, 3) := by decide +kernel
theorem dX7_weighAll_55 : decode cX7_weighAll 55 = .ok (.iload_n 1, 1) := by decide +kernel
theorem dX7_weighAll_56 : decode cX7_weighAll 56 = .ok (.invokevirtual 78, 3) := by decide +kernel
theorem dX7_weighAll_59 : decode cX7_weighAll 59 = .ok (.iinc 1 1, 3) := by decide +kernel
theorem dX7_weighAll_62 : decode cX7_weighAll 62 = .ok (.goto (-60), 3) := by decide +kernel
theorem dX7_weighAll_65 : decode cX7_weighAll 65 = .ok (.return_, 1) := by decide +kernel
theorem dX7_beginningOf_0 : decode cX7_beginningOf 0 = .ok (.aload_n 1, 1) := by decide +kernel
theorem dX7_beginningOf_1 : decode cX7_beginningOf 1 = .ok (.aload_n 0, 1) := by decide +kernel
theorem dX7_beginningOf_2 : decode cX7_beginningOf 2 = .ok (.getfield 30, 3) := by decide +kernel
theorem dX7_beginningOf_5 : decode cX7_beginningOf 5 = .ok (.aload_n 1, 1) := by decide +kernel
theorem dX7_beginningOf_6 : decode cX7_beginningOf 6 = .ok (.getfield 150, 3) := by decide +kernel
theorem dX7_beginningOf_9 : decode cX7_beginningOf 9 = .ok (.i2l, 1) := by decide +kernel
theorem dX7_beginningOf_10 : decode cX7_beginningOf 10 = .ok (.invokevirtual 153, 3) := by decide +kernel
theorem dX7_beginningOf_13 : decode cX7_beginningOf 13 = .ok (.invokevirtual 280, 3) := by decide +kernel
theorem dX7_beginningOf_16 : decode cX7_beginningOf 16 = .ok (.ireturn, 1) := by decide +kernel
theorem dX7_fateOf_0 : decode cX7_fateOf 0 = .ok (.aload_n 0, 1) := by decide +kernel
theorem dX7_fateOf_1 : decode cX7_fateOf 1 = .ok (.getfield 44, 3) := by decide +kernel
theorem dX7_fateOf_4 : decode cX7_fateOf 4 = .ok (.aload_n 1, 1) := by decide +kernel
theorem dX7_fateOf_5 : decode cX7_fateOf 5 = .ok (.iload_n 2, 1) := by decide +kernel
theorem dX7_fateOf_6 : decode cX7_fateOf 6 = .ok (.aload_n 3, 1) := by decide +kernel
theorem dX7_fateOf_7 : decode cX7_fateOf 7 = .ok (.iload 4, 2) := by decide +kernel
theorem dX7_fateOf_9 : decode cX7_fateOf 9 = .ok (.invokevirtual 180, 3) := by decide +kernel
theorem dX7_fateOf_12 : decode cX7_fateOf 12 = .ok (.aload_n 0, 1) := by decide +kernel
