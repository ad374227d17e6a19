theorem dX7_fateOf_13 : decode cX7_fateOf 13 = .ok (.getfield 44, 3) := by decide +kernel
theorem dX7_fateOf_16 : decode cX7_fateOf 16 = .ok (.getfield 283, 3) := by decide +kernel
theorem dX7_fateOf_19 : decode cX7_fateOf 19 = .ok (.ifCond .ne 5, 3) := by decide +kernel
theorem dX7_fateOf_22 : decode cX7_fateOf 22 = .ok (.iconst 1, 1) := by decide +kernel
theorem dX7_fateOf_23 : decode cX7_fateOf 23 = .ok (.ireturn, 1) := by decide +kernel
theorem dX7_fateOf_24 : decode cX7_fateOf 24 = .ok (.aload_n 0, 1) := by decide +kernel
theorem dX7_fateOf_25 : decode cX7_fateOf 25 = .ok (.getfield 30, 3) := by decide +kernel
theorem dX7_fateOf_28 : decode cX7_fateOf 28 = .ok (.aload_n 1, 1) := by decide +kernel
theorem dX7_fateOf_29 : decode cX7_fateOf 29 = .ok (.getfield 150, 3) := by decide +kernel
theorem dX7_fateOf_32 : decode cX7_fateOf 32 = .ok (.i2l, 1) := by decide +kernel
theorem dX7_fateOf_33 : decode cX7_fateOf 33 = .ok (.aload_n 3, 1) := by decide +kernel
theorem dX7_fateOf_34 : decode cX7_fateOf 34 = .ok (.getfield 150, 3) := by decide +kernel
theorem dX7_fateOf_37 : decode cX7_fateOf 37 = .ok (.i2l, 1) := by decide +kernel
theorem dX7_fateOf_38 : decode cX7_fateOf 38 = .ok (.invokevirtual 194, 3) := by decide +kernel
theorem dX7_fateOf_41 : decode cX7_fateOf 41 = .ok (.lstore 5, 2) := by decide +kernel
theorem dX7_fateOf_43 : decode cX7_fateOf 43 = .ok (.lload 5, 2) := by decide +kernel
theorem dX7_fateOf_45 : decode cX7_fateOf 45 = .ok (.aload_n 1, 1) := by decide +kernel
theorem dX7_fateOf_46 : decode cX7_fateOf 46 = .ok (.getfield 150, 3) := by decide +kernel
theorem dX7_fateOf_49 : decode cX7_fateOf 49 = .ok (.aload_n 3, 1) := by decide +kernel
theorem dX7_fateOf_50 : decode cX7_fateOf 50 = .ok (.getfield 150, 3) := by decide +kernel
theorem dX7_fateOf_53 : decode cX7_fateOf 53 = .ok (.invokestatic 286, 3) := by decide +kernel
theorem dX7_fateOf_56 : decode cX7_fateOf 56 = .ok (.i2l, 1) := by decide +kernel
theorem dX7_fateOf_57 : decode cX7_fateOf 57 = .ok (.lcmp, 1) := by decide +kernel
theorem dX7_fateOf_58 : decode cX7_fateOf 58 = .ok (.ifCond .le 5, 3) := by decide +kernel
theorem dX7_fateOf_61 : decode cX7_fateOf 61 = .ok (.iconst 2, 1) := by decide +kernel
theorem dX7_fateOf_62 : decode cX7_fateOf 62 = .ok (.ireturn, 1) := by decide +kernel
theorem dX7_fateOf_63 : decode cX7_fateOf 63 = .ok (.aload_n 0, 1) := by decide +kernel
theorem dX7_fateOf_64 : decode cX7_fateOf 64 = .ok (.getfield 44, 3) := by decide +kernel
theorem dX7_fateOf_67 : decode cX7_fateOf 67 = .ok (.getfield 291, 3) := by decide +kernel
theorem dX7_fateOf_70 : decode cX7_fateOf 70 = .ok (.i2l, 1) := by decide +kernel
theorem dX7_fateOf_71 : decode cX7_fateOf 71 = .ok (.lload 5, 2) := by decide +kernel
theorem dX7_fateOf_73 : decode cX7_fateOf 73 = .ok (.lcmp, 1) := by decide +kernel
theorem dX7_fateOf_74 : decode cX7_fateOf 74 = .ok (.ifCond .ge 5, 3) := by decide +kernel
theorem dX7_fateOf_77 : decode cX7_fateOf 77 = .ok (.iconst 3, 1) := by decide +kernel
theorem dX7_fateOf_78 : decode cX7_fateOf 78 = .ok (.ireturn, 1) := by decide +kernel
theorem dX7_fateOf_79 : decode cX7_fateOf 79 = .ok (.aload_n 0, 1) := by decide +kernel
theorem dX7_fateOf_80 : decode cX7_fateOf 80 = .ok (.getfield 30, 3) := by decide +kernel
theorem dX7_fateOf_83 : decode cX7_fateOf 83 = .ok (.aload_n 0, 1) := by decide +kernel
theorem dX7_fateOf_84 : decode cX7_fateOf 84 = .ok (.getfield 44, 3) := by decide +kernel
theorem dX7_fateOf_87 : decode cX7_fateOf 87 = .ok (.getfield 184, 3) := by decide +kernel
theorem dX7_fateOf_90 : decode cX7_fateOf 90 = .ok (.i2l, 1) := by decide +kernel
theorem dX7_fateOf_91 : decode cX7_fateOf 91 = .ok (.aload_n 1, 1) := by decide +kernel
theorem dX7_fateOf_92 : decode cX7_fateOf 92 = .ok (.getfield 150, 3) := by decide +kernel
theorem dX7_fateOf_95 : decode cX7_fateOf 95 = .ok (.i2l, 1) := by decide +kernel
theorem dX7_fateOf_96 : decode cX7_fateOf 96 = .ok (.aload_n 3, 1) := by decide +kernel
theorem dX7_fateOf_97 : decode cX7_fateOf 97 = .ok (.getfield 150, 3) := by decide +kernel
theorem dX7_fateOf_100 : decode cX7_fateOf 100 = .ok (.i2l, 1) := by decide +kernel
theorem dX7_fateOf_101 : decode cX7_fateOf 101 = .ok (.invokevirtual 201, 3) := by decide +kernel
theorem dX7_fateOf_104 : decode cX7_fateOf 104 = .ok (.ifCond .eq 7, 3) := by decide +kernel
theorem dX7_fateOf_107 : decode cX7_fateOf 107 = .ok (.iconst 0, 1) := by decide +kernel
theorem dX7_fateOf_108 : decode cX7_fateOf 108 = .ok (.goto 4, 3) := by decide +kernel
theorem dX7_fateOf_111 : decode cX7_fateOf 111 = .ok (.iconst 4, 1) := by decide +kernel
theorem dX7_fateOf_112 : decode cX7_fateOf 112 = .ok (.ireturn, 1) := by decide +kernel
theorem dX7_startSieve_0 : decode cX7_startSieve 0 = .ok (.aload_n 0, 1) := by decide +kernel
theorem dX7_startSieve_1 : decode cX7_startSieve 1 = .ok (.getfield 58, 3) := by decide +kernel
theorem dX7_startSieve_4 : decode cX7_startSieve 4 = .ok (.invokevirtual 232, 3) := by decide +kernel
theorem dX7_startSieve_7 : decode cX7_startSieve 7 = .ok (.aload_n 0, 1) := by decide +kernel
theorem dX7_startSieve_8 : decode cX7_startSieve 8 = .ok (.iconst 0, 1) := by decide +kernel
theorem dX7_startSieve_9 : decode cX7_startSieve 9 = .ok (.putfield 261, 3) := by decide +kernel
theorem dX7_startSieve_12 : decode cX7_startSieve 12 = .ok (.iconst 0, 1) := by decide +kernel
theorem dX7_startSieve_13 : decode cX7_startSieve 13 = .ok (.istore_n 1, 1) := by decide +kernel
theorem dX7_startSieve_14 : decode cX7_startSieve 14 = .ok (.iload_n 1, 1) := by decide +kernel
theorem dX7_startSieve_15 : decode cX7_startSieve 15 = .ok (.iconst 5, 1) := by decide +kernel
theorem dX7_startSieve_16 : decode cX7_startSieve 16 = .ok (.if_icmp .ge 16, 3) := by decide +kernel
theorem dX7_startSieve_19 : decode cX7_startSieve 19 = .ok (.aload_n 0, 1) := by decide +kernel
theorem dX7_startSieve_20 : decode cX7_startSieve 20 = .ok (.getfield 52, 3) := by decide +kernel
theorem dX7_startSieve_23 : decode cX7_startSieve 23 = .ok (.iload_n 1, 1) := by decide +kernel
theorem dX7_startSieve_24 : decode cX7_startSieve 24 = .ok (.iconst 0, 1) := by decide +kernel
theorem dX7_startSieve_25 : decode cX7_startSieve 25 = .ok (.iastore, 1) := by decide +kernel
theorem dX7_startSieve_26 : decode cX7_startSieve 26 = .ok (.iinc 1 1, 3) := by decide +kernel
theorem dX7_startSieve_29 : decode cX7_startSieve 29 = .ok (.goto (-15), 3) := by decide +kernel
theorem dX7_startSieve_32 : decode cX7_startSieve 32 = .ok (.iconst 0, 1) := by decide +kernel
theorem dX7_startSieve_33 : decode cX7_startSieve 33 = .ok (.istore_n 1, 1) := by decide +kernel
theorem dX7_startSieve_34 : decode cX7_startSieve 34 = .ok (.iload_n 1, 1) := by decide +kernel
theorem dX7_startSieve_35 : decode cX7_startSieve 35 = .ok (.aload_n 0, 1) := by decide +kernel
theorem dX7_startSieve_36 : decode cX7_startSieve 36 = .ok (.getfield 69, 3) := by decide +kernel
theorem dX7_startSieve_39 : decode cX7_startSieve 39 = .ok (.if_icmp .ge 38, 3) := by decide +kernel
theorem dX7_startSieve_42 : decode cX7_startSieve 42 = .ok (.aload_n 0, 1) := by decide +kernel
theorem dX7_startSieve_43 : decode cX7_startSieve 43 = .ok (.getfield 48, 3) := by decide +kernel
theorem dX7_startSieve_46 : decode cX7_startSieve 46 = .ok (.iload_n 1, 1) := by decide +kernel
theorem dX7_startSieve_47 : decode cX7_startSieve 47 = .ok (.aload_n 0, 1) := by decide +kernel
theorem dX7_startSieve_48 : decode cX7_startSieve 48 = .ok (.getfield 11, 3) := by decide +kernel
theorem dX7_startSieve_51 : decode cX7_startSieve 51 = .ok (.iload_n 1, 1) := by decide +kernel
theorem dX7_startSieve_52 : decode cX7_startSieve 52 = .ok (.aaload, 1) := by decide +kernel
theorem dX7_startSieve_53 : decode cX7_startSieve 53 = .ok (.ifnonnull 7, 3) := by decide +kernel
theorem dX7_startSieve_56 : decode cX7_startSieve 56 = .ok (.iconst 0, 1) := by decide +kernel
theorem dX7_startSieve_57 : decode cX7_startSieve 57 = .ok (.goto 13, 3) := by decide +kernel
theorem dX7_startSieve_60 : decode cX7_startSieve 60 = .ok (.aload_n 0, 1) := by decide +kernel
theorem dX7_startSieve_61 : decode cX7_startSieve 61 = .ok (.aload_n 0, 1) := by decide +kernel
theorem dX7_startSieve_62 : decode cX7_startSieve 62 = .ok (.getfield 11, 3) := by decide +kernel
theorem dX7_startSieve_65 : decode cX7_startSieve 65 = .ok (.iload_n 1, 1) := by decide +kernel
theorem dX7_startSieve_66 : decode cX7_startSieve 66 = .ok (.aaload, 1) := by decide +kernel
theorem dX7_startSieve_67 : decode cX7_startSieve 67 = .ok (.invokevirtual 157, 3) := by decide +kernel
theorem dX7_startSieve_70 : decode cX7_startSieve 70 = .ok (.iastore, 1) := by decide +kernel
theorem dX7_startSieve_71 : decode cX7_startSieve 71 = .ok (.iinc 1 1, 3) := by decide +kernel
theorem dX7_startSieve_74 : decode cX7_startSieve 74 = .ok (.goto (-40), 3) := by decide +kernel
theorem dX7_startSieve_77 : decode cX7_startSieve 77 = .ok (.return_, 1) := by decide +kernel
theorem dX7_sift_0 : decode cX7_sift 0 = .ok (.aload_n 0, 1) := by decide +kernel
theorem dX7_sift_1 : decode cX7_sift 1 = .ok (.aload_n 0, 1) := by decide +kernel
theorem dX7_sift_2 : decode cX7_sift 2 = .ok (.getfield 11, 3) := by decide +kernel
theorem dX7_sift_5 : decode cX7_sift 5 = .ok (.iload_n 1, 1) := by decide +kernel
theorem dX7_sift_6 : decode cX7_sift 6 = .ok (.aaload, 1) := by decide +kernel
theorem dX7_sift_7 : decode cX7_sift 7 = .ok (.aload_n 0, 1) := by decide +kernel
theorem dX7_sift_8 : decode cX7_sift 8 = .ok (.getfield 48, 3) := by decide +kernel
theorem dX7_sift_11 : decode cX7_sift 11 = .ok (.iload_n 1, 1) := by decide +kernel
theorem dX7_sift_12 : decode cX7_sift 12 = .ok (.iaload, 1) := by decide +kernel
theorem dX7_sift_13 : decode cX7_sift 13 = .ok (.aload_n 0, 1) := by decide +kernel
theorem dX7_sift_14 : decode cX7_sift 14 = .ok (.getfield 11, 3) := by decide +kernel
theorem dX7_sift_17 : decode cX7_sift 17 = .ok (.iload_n 2, 1) := by decide +kernel
theorem dX7_sift_18 : decode cX7_sift 18 = .ok (.aaload, 1) := by decide +kernel
theorem dX7_sift_19 : decode cX7_sift 19 = .ok (.aload_n 0, 1) := by decide +kernel
theorem dX7_sift_20 : decode cX7_sift 20 = .ok (.getfield 48, 3) := by decide +kernel
theorem dX7_sift_23 : decode cX7_sift 23 = .ok (.iload_n 2, 1) := by decide +kernel
theorem dX7_sift_24 : decode cX7_sift 24 = .ok (.iaload, 1) := by decide +kernel
theorem dX7_sift_25 : decode cX7_sift 25 = .ok (.invokevirtual 205, 3) := by decide +kernel
theorem dX7_sift_28 : decode cX7_sift 28 = .ok (.istore_n 3, 1) := by decide +kernel
theorem dX7_sift_29 : decode cX7_sift 29 = .ok (.aload_n 0, 1) := by decide +kernel
theorem dX7_sift_30 : decode cX7_sift 30 = .ok (.getfield 52, 3) := by decide +kernel
theorem dX7_sift_33 : decode cX7_sift 33 = .ok (.iload_n 3, 1) := by decide +kernel
theorem dX7_sift_34 : decode cX7_sift 34 = .ok (.dup2, 1) := by decide +kernel
theorem dX7_sift_35 : decode cX7_sift 35 = .ok (.iaload, 1) := by decide +kernel
theorem dX7_sift_36 : decode cX7_sift 36 = .ok (.iconst 1, 1) := by decide +kernel
theorem dX7_sift_37 : decode cX7_sift 37 = .ok (.iadd, 1) := by decide +kernel
theorem dX7_sift_38 : decode cX7_sift 38 = .ok (.iastore, 1) := by decide +kernel
theorem dX7_sift_39 : decode cX7_sift 39 = .ok (.aload_n 0, 1) := by decide +kernel
theorem dX7_sift_40 : decode cX7_sift 40 = .ok (.dup, 1) := by decide +kernel
theorem dX7_sift_41 : decode cX7_sift 41 = .ok (.getfield 261, 3) := by decide +kernel
theorem dX7_sift_44 : decode cX7_sift 44 = .ok (.aload_n 0, 1) := by decide +kernel
theorem dX7_sift_45 : decode cX7_sift 45 = .ok (.getfield 44, 3) := by decide +kernel
theorem dX7_sift_48 : decode cX7_sift 48 = .ok (.getfield 283, 3) := by decide +kernel
theorem dX7_sift_51 : decode cX7_sift 51 = .ok (.iadd, 1) := by decide +kernel
theorem dX7_sift_52 : decode cX7_sift 52 = .ok (.putfield 261, 3) := by decide +kernel
theorem dX7_sift_55 : decode cX7_sift 55 = .ok (.iload_n 3, 1) := by decide +kernel
theorem dX7_sift_56 : decode cX7_sift 56 = .ok (.ifCond .ne 19, 3) := by decide +kernel
theorem dX7_sift_59 : decode cX7_sift 59 = .ok (.aload_n 0, 1) := by decide +kernel
theorem dX7_sift_60 : decode cX7_sift 60 = .ok (.getfield 58, 3) := by decide +kernel
theorem dX7_sift_63 : decode cX7_sift 63 = .ok (.iload_n 1, 1) := by decide +kernel
theorem dX7_sift_64 : decode cX7_sift 64 = .ok (.iload_n 2, 1) := by decide +kernel
theorem dX7_sift_65 : decode cX7_sift 65 = .ok (.aload_n 0, 1) := by decide +kernel
theorem dX7_sift_66 : decode cX7_sift 66 = .ok (.getfield 44, 3) := by decide +kernel
theorem dX7_sift_69 : decode cX7_sift 69 = .ok (.getfield 184, 3) := by decide +kernel
theorem dX7_sift_72 : decode cX7_sift 72 = .ok (.invokevirtual 294, 3) := by decide +kernel
theorem dX7_sift_75 : decode cX7_sift 75 = .ok (.return_, 1) := by decide +kernel
theorem dX7_rank_0 : decode cX7_rank 0 = .ok (.aload_n 0, 1) := by decide +kernel
theorem dX7_rank_1 : decode cX7_rank 1 = .ok (.getfield 11, 3) := by decide +kernel
theorem dX7_rank_4 : decode cX7_rank 4 = .ok (.iload_n 1, 1) := by decide +kernel
theorem dX7_rank_5 : decode cX7_rank 5 = .ok (.aaload, 1) := by decide +kernel
theorem dX7_rank_6 : decode cX7_rank 6 = .ok (.astore 4, 2) := by decide +kernel
theorem dX7_rank_8 : decode cX7_rank 8 = .ok (.aload_n 0, 1) := by decide +kernel
theorem dX7_rank_9 : decode cX7_rank 9 = .ok (.getfield 11, 3) := by decide +kernel
theorem dX7_rank_12 : decode cX7_rank 12 = .ok (.iload_n 2, 1) := by decide +kernel
theorem dX7_rank_13 : decode cX7_rank 13 = .ok (.aaload, 1) := by decide +kernel
theorem dX7_rank_14 : decode cX7_rank 14 = .ok (.astore 5, 2) := by decide +kernel
theorem dX7_rank_16 : decode cX7_rank 16 = .ok (.aload_n 0, 1) := by decide +kernel
theorem dX7_rank_17 : decode cX7_rank 17 = .ok (.getfield 44, 3) := by decide +kernel
theorem dX7_rank_20 : decode cX7_rank 20 = .ok (.aload 4, 2) := by decide +kernel
theorem dX7_rank_22 : decode cX7_rank 22 = .ok (.iconst 0, 1) := by decide +kernel
theorem dX7_rank_23 : decode cX7_rank 23 = .ok (.aload 5, 2) := by decide +kernel
theorem dX7_rank_25 : decode cX7_rank 25 = .ok (.iconst 0, 1) := by decide +kernel
theorem dX7_rank_26 : decode cX7_rank 26 = .ok (.invokevirtual 180, 3) := by decide +kernel
theorem dX7_rank_29 : decode cX7_rank 29 = .ok (.aload_n 0, 1) := by decide +kernel
theorem dX7_rank_30 : decode cX7_rank 30 = .ok (.getfield 44, 3) := by decide +kernel
theorem dX7_rank_33 : decode cX7_rank 33 = .ok (.getfield 184, 3) := by decide +kernel
theorem dX7_rank_36 : decode cX7_rank 36 = .ok (.istore 6, 2) := by decide +kernel
theorem dX7_rank_38 : decode cX7_rank 38 = .ok (.iload 6, 2) := by decide +kernel
theorem dX7_rank_40 : decode cX7_rank 40 = .ok (.ifCond .le 106, 3) := by decide +kernel
theorem dX7_rank_43 : decode cX7_rank 43 = .ok (.aload_n 0, 1) := by decide +kernel
theorem dX7_rank_44 : decode cX7_rank 44 = .ok (.getfield 30, 3) := by decide +kernel
theorem dX7_rank_47 : decode cX7_rank 47 = .ok (.iload 6, 2) := by decide +kernel
theorem dX7_rank_49 : decode cX7_rank 49 = .ok (.i2l, 1) := by decide +kernel
theorem dX7_rank_50 : decode cX7_rank 50 = .ok (.aload 4, 2) := by decide +kernel
theorem dX7_rank_52 : decode cX7_rank 52 = .ok (.getfield 150, 3) := by decide +kernel
theorem dX7_rank_55 : decode cX7_rank 55 = .ok (.i2l, 1) := by decide +kernel
theorem dX7_rank_56 : decode cX7_rank 56 = .ok (.aload 5, 2) := by decide +kernel
theorem dX7_rank_58 : decode cX7_rank 58 = .ok (.getfield 150, 3) := by decide +kernel
theorem dX7_rank_61 : decode cX7_rank 61 = .ok (.i2l, 1) := by decide +kernel
theorem dX7_rank_62 : decode cX7_rank 62 = .ok (.invokevirtual 187, 3) := by decide +kernel
theorem dX7_rank_65 : decode cX7_rank 65 = .ok (.lstore 7, 2) := by decide +kernel
theorem dX7_rank_67 : decode cX7_rank 67 = .ok (.aload_n 0, 1) := by decide +kernel
theorem dX7_rank_68 : decode cX7_rank 68 = .ok (.getfield 30, 3) := by decide +kernel
theorem dX7_rank_71 : decode cX7_rank 71 = .ok (.iload 6, 2) := by decide +kernel
theorem dX7_rank_73 : decode cX7_rank 73 = .ok (.i2l, 1) := by decide +kernel
theorem dX7_rank_74 : decode cX7_rank 74 = .ok (.aload 4, 2) := by decide +kernel
theorem dX7_rank_76 : decode cX7_rank 76 = .ok (.getfield 150, 3) := by decide +kernel
theorem dX7_rank_79 : decode cX7_rank 79 = .ok (.i2l, 1) := by decide +kernel
theorem dX7_rank_80 : decode cX7_rank 80 = .ok (.aload 5, 2) := by decide +kernel
theorem dX7_rank_82 : decode cX7_rank 82 = .ok (.getfield 150, 3) := by decide +kernel
theorem dX7_rank_85 : decode cX7_rank 85 = .ok (.i2l, 1) := by decide +kernel
theorem dX7_rank_86 : decode cX7_rank 86 = .ok (.invokevirtual 191, 3) := by decide +kernel
theorem dX7_rank_89 : decode cX7_rank 89 = .ok (.lstore 9, 2) := by decide +kernel
theorem dX7_rank_91 : decode cX7_rank 91 = .ok (.aload_n 0, 1) := by decide +kernel
theorem dX7_rank_92 : decode cX7_rank 92 = .ok (.getfield 58, 3) := by decide +kernel
theorem dX7_rank_95 : decode cX7_rank 95 = .ok (.lload 7, 2) := by decide +kernel
theorem dX7_rank_97 : decode cX7_rank 97 = .ok (.lload 9, 2) := by decide +kernel
theorem dX7_rank_99 : decode cX7_rank 99 = .ok (.invokevirtual 296, 3) := by decide +kernel
theorem dX7_rank_102 : decode cX7_rank 102 = .ok (.istore 11, 2) := by decide +kernel
theorem dX7_rank_104 : decode cX7_rank 104 = .ok (.iload 11, 2) := by decide +kernel
theorem dX7_rank_106 : decode cX7_rank 106 = .ok (.iload_n 3, 1) := by decide +kernel
theorem dX7_rank_107 : decode cX7_rank 107 = .ok (.if_icmp .ge 39, 3) := by decide +kernel
theorem dX7_rank_110 : decode cX7_rank 110 = .ok (.aload_n 0, 1) := by decide +kernel
theorem dX7_rank_111 : decode cX7_rank 111 = .ok (.getfield 58, 3) := by decide +kernel
theorem dX7_rank_114 : decode cX7_rank 114 = .ok (.iload 11, 2) := by decide +kernel
theorem dX7_rank_116 : decode cX7_rank 116 = .ok (.iload_n 3, 1) := by decide +kernel
theorem dX7_rank_117 : decode cX7_rank 117 = .ok (.invokevirtual 300, 3) := by decide +kernel
theorem dX7_rank_120 : decode cX7_rank 120 = .ok (.aload_n 0, 1) := by decide +kernel
theorem dX7_rank_121 : decode cX7_rank 121 = .ok (.getfield 58, 3) := by decide +kernel
theorem dX7_rank_124 : decode cX7_rank 124 = .ok (.iload 11, 2) := by decide +kernel
theorem dX7_rank_126 : decode cX7_rank 126 = .ok (.iload_n 1, 1) := by decide +kernel
theorem dX7_rank_127 : decode cX7_rank 127 = .ok (.iload_n 2, 1) := by decide +kernel
theorem dX7_rank_128 : decode cX7_rank 128 = .ok (.iload 6, 2) := by decide +kernel
theorem dX7_rank_130 : decode cX7_rank 130 = .ok (.invokevirtual 303, 3) := by decide +kernel
theorem dX7_rank_133 : decode cX7_rank 133 = .ok (.aload_n 0, 1) := by decide +kernel
theorem dX7_rank_134 : decode cX7_rank 134 = .ok (.getfield 58, 3) := by decide +kernel
theorem dX7_rank_137 : decode cX7_rank 137 = .ok (.iload 11, 2) := by decide +kernel
theorem dX7_rank_139 : decode cX7_rank 139 = .ok (.lload 7, 2) := by decide +kernel
theorem dX7_rank_141 : decode cX7_rank 141 = .ok (.lload 9, 2) := by decide +kernel
theorem dX7_rank_143 : decode cX7_rank 143 = .ok (.invokevirtual 307, 3) := by decide +kernel
theorem dX7_rank_146 : decode cX7_rank 146 = .ok (.return_, 1) := by decide +kernel
theorem dX7_freshNet_0 : decode cX7_freshNet 0 = .ok (.iconst 0, 1) := by decide +kernel
theorem dX7_freshNet_1 : decode cX7_freshNet 1 = .ok (.istore_n 1, 1) := by decide +kernel
theorem dX7_freshNet_2 : decode cX7_freshNet 2 = .ok (.iload_n 1, 1) := by decide +kernel
theorem dX7_freshNet_3 : decode cX7_freshNet 3 = .ok (.aload_n 0, 1) := by decide +kernel
theorem dX7_freshNet_4 : decode cX7_freshNet 4 = .ok (.getfield 69, 3) := by decide +kernel
theorem dX7_freshNet_7 : decode cX7_freshNet 7 = .ok (.if_icmp .ge 75, 3) := by decide +kernel
theorem dX7_freshNet_10 : decode cX7_freshNet 10 = .ok (.aload_n 0, 1) := by decide +kernel
theorem dX7_freshNet_11 : decode cX7_freshNet 11 = .ok (.getfield 65, 3) := by decide +kernel
theorem dX7_freshNet_14 : decode cX7_freshNet 14 = .ok (.iload_n 1, 1) := by decide +kernel
theorem dX7_freshNet_15 : decode cX7_freshNet 15 = .ok (.invokevirtual 311, 3) := by decide +kernel
theorem dX7_freshNet_18 : decode cX7_freshNet 18 = .ok (.ifCond .eq 58, 3) := by decide +kernel
theorem dX7_freshNet_21 : decode cX7_freshNet 21 = .ok (.iconst 0, 1) := by decide +kernel
theorem dX7_freshNet_22 : decode cX7_freshNet 22 = .ok (.istore_n 2, 1) := by decide +kernel
theorem dX7_freshNet_23 : decode cX7_freshNet 23 = .ok (.iload_n 2, 1) := by decide +kernel
theorem dX7_freshNet_24 : decode cX7_freshNet 24 = .ok (.aload_n 0, 1) := by decide +kernel
theorem dX7_freshNet_25 : decode cX7_freshNet 25 = .ok (.getfield 69, 3) := by decide +kernel
theorem dX7_freshNet_28 : decode cX7_freshNet 28 = .ok (.if_icmp .ge 40, 3) := by decide +kernel
theorem dX7_freshNet_31 : decode cX7_freshNet 31 = .ok (.iload_n 2, 1) := by decide +kernel
theorem dX7_freshNet_32 : decode cX7_freshNet 32 = .ok (.iload_n 1, 1) := by decide +kernel
theorem dX7_freshNet_33 : decode cX7_freshNet 33 = .ok (.if_icmp .lt 14, 3) := by decide +kernel
theorem dX7_freshNet_36 : decode cX7_freshNet 36 = .ok (.aload_n 0, 1) := by decide +kernel
theorem dX7_freshNet_37 : decode cX7_freshNet 37 = .ok (.getfield 65, 3) := by decide +kernel
theorem dX7_freshNet_40 : decode cX7_freshNet 40 = .ok (.iload_n 2, 1) := by decide +kernel
theorem dX7_freshNet_41 : decode cX7_freshNet 41 = .ok (.invokevirtual 311, 3) := by decide +kernel
theorem dX7_freshNet_44 : decode cX7_freshNet 44 = .ok (.ifCond .ne 18, 3) := by decide +kernel
theorem dX7_freshNet_47 : decode cX7_freshNet 47 = .ok (.aload_n 0, 1) := by decide +kernel
theorem dX7_freshNet_48 : decode cX7_freshNet 48 = .ok (.getfield 65, 3) := by decide +kernel
theorem dX7_freshNet_51 : decode cX7_freshNet 51 = .ok (.iload_n 1, 1) := by decide +kernel
theorem dX7_freshNet_52 : decode cX7_freshNet 52 = .ok (.iload_n 2, 1) := by decide +kernel
theorem dX7_freshNet_53 : decode cX7_freshNet 53 = .ok (.aload_n 0, 1) := by decide +kernel
theorem dX7_freshNet_54 : decode cX7_freshNet 54 = .ok (.iload_n 1, 1) := by decide +kernel
theorem dX7_freshNet_55 : decode cX7_freshNet 55 = .ok (.iload_n 2, 1) := by decide +kernel
theorem dX7_freshNet_56 : decode cX7_freshNet 56 = .ok (.invokevirtual 314, 3) := by decide +kernel
theorem dX7_freshNet_59 : decode cX7_freshNet 59 = .ok (.invokevirtual 317, 3) := by decide +kernel
theorem dX7_freshNet_62 : decode cX7_freshNet 62 = .ok (.iinc 2 1, 3) := by decide +kernel
theorem dX7_freshNet_65 : decode cX7_freshNet 65 = .ok (.goto (-42), 3) := by decide +kernel
theorem dX7_freshNet_68 : decode cX7_freshNet 68 = .ok (.aload_n 0, 1) := by decide +kernel
theorem dX7_freshNet_69 : decode cX7_freshNet 69 = .ok (.getfield 65, 3) := by decide +kernel
theorem dX7_freshNet_72 : decode cX7_freshNet 72 = .ok (.iload_n 1, 1) := by decide +kernel
theorem dX7_freshNet_73 : decode cX7_freshNet 73 = .ok (.invokevirtual 321, 3) := by decide +kernel
theorem dX7_freshNet_76 : decode cX7_freshNet 76 = .ok (.iinc 1 1, 3) := by decide +kernel
theorem dX7_freshNet_79 : decode cX7_freshNet 79 = .ok (.goto (-77), 3) := by decide +kernel
theorem dX7_freshNet_82 : decode cX7_freshNet 82 = .ok (.aload_n 0, 1) := by decide +kernel
theorem dX7_freshNet_83 : decode cX7_freshNet 83 = .ok (.getfield 65, 3) := by decide +kernel
theorem dX7_freshNet_86 : decode cX7_freshNet 86 = .ok (.areturn, 1) := by decide +kernel
theorem dX7_arePair_0 : decode cX7_arePair 0 = .ok (.aload_n 0, 1) := by decide +kernel
theorem dX7_arePair_1 : decode cX7_arePair 1 = .ok (.getfield 11, 3) := by decide +kernel
theorem dX7_arePair_4 : decode cX7_arePair 4 = .ok (.iload_n 1, 1) := by decide +kernel
theorem dX7_arePair_5 : decode cX7_arePair 5 = .ok (.aaload, 1) := by decide +kernel
theorem dX7_arePair_6 : decode cX7_arePair 6 = .ok (.astore_n 3, 1) := by decide +kernel
theorem dX7_arePair_7 : decode cX7_arePair 7 = .ok (.aload_n 0, 1) := by decide +kernel
theorem dX7_arePair_8 : decode cX7_arePair 8 = .ok (.getfield 11, 3) := by decide +kernel
theorem dX7_arePair_11 : decode cX7_arePair 11 = .ok (.iload_n 2, 1) := by decide +kernel
theorem dX7_arePair_12 : decode cX7_arePair 12 = .ok (.aaload, 1) := by decide +kernel
theorem dX7_arePair_13 : decode cX7_arePair 13 = .ok (.astore 4, 2) := by decide +kernel
theorem dX7_arePair_15 : decode cX7_arePair 15 = .ok (.aload_n 3, 1) := by decide +kernel
theorem dX7_arePair_16 : decode cX7_arePair 16 = .ok (.ifnull 8, 3) := by decide +kernel
theorem dX7_arePair_19 : decode cX7_arePair 19 = .ok (.aload 4, 2) := by decide +kernel
theorem dX7_arePair_21 : decode cX7_arePair 21 = .ok (.ifnonnull 5, 3) := by decide +kernel
theorem dX7_arePair_24 : decode cX7_arePair 24 = .ok (.iconst 0, 1) := by decide +kernel
theorem dX7_arePair_25 : decode cX7_arePair 25 = .ok (.ireturn, 1) := by decide +kernel
theorem dX7_arePair_26 : decode cX7_arePair 26 = .ok (.aload_n 0, 1) := by decide +kernel
theorem dX7_arePair_27 : decode cX7_arePair 27 = .ok (.getfield 44, 3) := by decide +kernel
theorem dX7_arePair_30 : decode cX7_arePair 30 = .ok (.aload_n 3, 1) := by decide +kernel
theorem dX7_arePair_31 : decode cX7_arePair 31 = .ok (.iconst 0, 1) := by decide +kernel
theorem dX7_arePair_32 : decode cX7_arePair 32 = .ok (.aload 4, 2) := by decide +kernel
theorem dX7_arePair_34 : decode cX7_arePair 34 = .ok (.iconst 0, 1) := by decide +kernel
theorem dX7_arePair_35 : decode cX7_arePair 35 = .ok (.invokevirtual 180, 3) := by decide +kernel
theorem dX7_arePair_38 : decode cX7_arePair 38 = .ok (.aload_n 0, 1) := by decide +kernel
theorem dX7_arePair_39 : decode cX7_arePair 39 = .ok (.getfield 30, 3) := by decide +kernel
theorem dX7_arePair_42 : decode cX7_arePair 42 = .ok (.aload_n 0, 1) := by decide +kernel
theorem dX7_arePair_43 : decode cX7_arePair 43 = .ok (.getfield 44, 3) := by decide +kernel
theorem dX7_arePair_46 : decode cX7_arePair 46 = .ok (.getfield 184, 3) := by decide +kernel
theorem dX7_arePair_49 : decode cX7_arePair 49 = .ok (.i2l, 1) := by decide +kernel
theorem dX7_arePair_50 : decode cX7_arePair 50 = .ok (.aload_n 3, 1) := by decide +kernel
theorem dX7_arePair_51 : decode cX7_arePair 51 = .ok (.getfield 150, 3) := by decide +kernel
theorem dX7_arePair_54 : decode cX7_arePair 54 = .ok (.i2l, 1) := by decide +kernel
theorem dX7_arePair_55 : decode cX7_arePair 55 = .ok (.aload 4, 2) := by decide +kernel
theorem dX7_arePair_57 : decode cX7_arePair 57 = .ok (.getfield 150, 3) := by decide +kernel
theorem dX7_arePair_60 : decode cX7_arePair 60 = .ok (.i2l, 1) := by decide +kernel
theorem dX7_arePair_61 : decode cX7_arePair 61 = .ok (.invokevirtual 201, 3) := by decide +kernel
theorem dX7_arePair_64 : decode cX7_arePair 64 = .ok (.ireturn, 1) := by decide +kernel
theorem dX7_countRecords_0 : decode cX7_countRecords 0 = .ok (.iconst 0, 1) := by decide +kernel
theorem dX7_countRecords_1 : decode cX7_countRecords 1 = .ok (.istore_n 1, 1) := by decide +kernel
theorem dX7_countRecords_2 : decode cX7_countRecords 2 = .ok (.iconst 0, 1) := by decide +kernel
theorem dX7_countRecords_3 : decode cX7_countRecords 3 = .ok (.istore_n 2, 1) := by decide +kernel
theorem dX7_countRecords_4 : decode cX7_countRecords 4 = .ok (.iload_n 2, 1) := by decide +kernel
theorem dX7_countRecords_5 : decode cX7_countRecords 5 = .ok (.aload_n 0, 1) := by decide +kernel
theorem dX7_countRecords_6 : decode cX7_countRecords 6 = .ok (.getfield 69, 3) := by decide +kernel
theorem dX7_countRecords_9 : decode cX7_countRecords 9 = .ok (.if_icmp .ge 21, 3) := by decide +kernel
theorem dX7_countRecords_12 : decode cX7_countRecords 12 = .ok (.aload_n 0, 1) := by decide +kernel
theorem dX7_countRecords_13 : decode cX7_countRecords 13 = .ok (.getfield 11, 3) := by decide +kernel
theorem dX7_countRecords_16 : decode cX7_countRecords 16 = .ok (.iload_n 2, 1) := by decide +kernel
theorem dX7_countRecords_17 : decode cX7_countRecords 17 = .ok (.aaload, 1) := by decide +kernel
theorem dX7_countRecords_18 : decode cX7_countRecords 18 = .ok (.ifnull 6, 3) := by decide +kernel
theorem dX7_countRecords_21 : decode cX7_countRecords 21 = .ok (.iinc 1 1, 3) := by decide +kernel
theorem dX7_countRecords_24 : decode cX7_countRecords 24 = .ok (.iinc 2 1, 3) := by decide +kernel
theorem dX7_countRecords_27 : decode cX7_countRecords 27 = .ok (.goto (-23), 3) := by decide +kernel
theorem dX7_countRecords_30 : decode cX7_countRecords 30 = .ok (.iload_n 1, 1) := by decide +kernel
theorem dX7_countRecords_31 : decode cX7_countRecords 31 = .ok (.ireturn, 1) := by decide +kernel
theorem dX7_countNumbers_0 : decode cX7_countNumbers 0 = .ok (.iconst 0, 1) := by decide +kernel
theorem dX7_countNumbers_1 : decode cX7_countNumbers 1 = .ok (.istore_n 1, 1) := by decide +kernel
theorem dX7_countNumbers_2 : decode cX7_countNumbers 2 = .ok (.iconst 0, 1) := by decide +kernel
theorem dX7_countNumbers_3 : decode cX7_countNumbers 3 = .ok (.istore_n 2, 1) := by decide +kernel
theorem dX7_countNumbers_4 : decode cX7_countNumbers 4 = .ok (.iload_n 2, 1) := by decide +kernel
theorem dX7_countNumbers_5 : decode cX7_countNumbers 5 = .ok (.aload_n 0, 1) := by decide +kernel
theorem dX7_countNumbers_6 : decode cX7_countNumbers 6 = .ok (.getfield 69, 3) := by decide +kernel
theorem dX7_countNumbers_9 : decode cX7_countNumbers 9 = .ok (.if_icmp .ge 30, 3) := by decide +kernel
theorem dX7_countNumbers_12 : decode cX7_countNumbers 12 = .ok (.aload_n 0, 1) := by decide +kernel
theorem dX7_countNumbers_13 : decode cX7_countNumbers 13 = .ok (.getfield 11, 3) := by decide +kernel
theorem dX7_countNumbers_16 : decode cX7_countNumbers 16 = .ok (.iload_n 2, 1) := by decide +kernel
theorem dX7_countNumbers_17 : decode cX7_countNumbers 17 = .ok (.aaload, 1) := by decide +kernel
theorem dX7_countNumbers_18 : decode cX7_countNumbers 18 = .ok (.ifnull 15, 3) := by decide +kernel
theorem dX7_countNumbers_21 : decode cX7_countNumbers 21 = .ok (.iload_n 1, 1) := by decide +kernel
theorem dX7_countNumbers_22 : decode cX7_countNumbers 22 = .ok (.aload_n 0, 1) := by decide +kernel
theorem dX7_countNumbers_23 : decode cX7_countNumbers 23 = .ok (.getfield 11, 3) := by decide +kernel
theorem dX7_countNumbers_26 : decode cX7_countNumbers 26 = .ok (.iload_n 2, 1) := by decide +kernel
theorem dX7_countNumbers_27 : decode cX7_countNumbers 27 = .ok (.aaload, 1) := by decide +kernel
theorem dX7_countNumbers_28 : decode cX7_countNumbers 28 = .ok (.getfield 132, 3) := by decide +kernel
theorem dX7_countNumbers_31 : decode cX7_countNumbers 31 = .ok (.iadd, 1) := by decide +kernel
theorem dX7_countNumbers_32 : decode cX7_countNumbers 32 = .ok (.istore_n 1, 1) := by decide +kernel
theorem dX7_countNumbers_33 : decode cX7_countNumbers 33 = .ok (.iinc 2 1, 3) := by decide +kernel
theorem dX7_countNumbers_36 : decode cX7_countNumbers 36 = .ok (.goto (-32), 3) := by decide +kernel
theorem dX7_countNumbers_39 : decode cX7_countNumbers 39 = .ok (.iload_n 1, 1) := by decide +kernel
theorem dX7_countNumbers_40 : decode cX7_countNumbers 40 = .ok (.ireturn, 1) := by decide +kernel
theorem dX7_countFamilies_0 : decode cX7_countFamilies 0 = .ok (.aload_n 0, 1) := by decide +kernel
theorem dX7_countFamilies_1 : decode cX7_countFamilies 1 = .ok (.invokevirtual 161, 3) := by decide +kernel
theorem dX7_countFamilies_4 : decode cX7_countFamilies 4 = .ok (.pop, 1) := by decide +kernel
theorem dX7_countFamilies_5 : decode cX7_countFamilies 5 = .ok (.iconst 0, 1) := by decide +kernel
theorem dX7_countFamilies_6 : decode cX7_countFamilies 6 = .ok (.istore_n 1, 1) := by decide +kernel
theorem dX7_countFamilies_7 : decode cX7_countFamilies 7 = .ok (.lconst 0, 1) := by decide +kernel
theorem dX7_countFamilies_8 : decode cX7_countFamilies 8 = .ok (.lstore_n 2, 1) := by decide +kernel
theorem dX7_countFamilies_9 : decode cX7_countFamilies 9 = .ok (.iconst 0, 1) := by decide +kernel
theorem dX7_countFamilies_10 : decode cX7_countFamilies 10 = .ok (.istore 4, 2) := by decide +kernel
theorem dX7_countFamilies_12 : decode cX7_countFamilies 12 = .ok (.iload 4, 2) := by decide +kernel
theorem dX7_countFamilies_14 : decode cX7_countFamilies 14 = .ok (.aload_n 0, 1) := by decide +kernel
theorem dX7_countFamilies_15 : decode cX7_countFamilies 15 = .ok (.getfield 69, 3) := by decide +kernel
theorem dX7_countFamilies_18 : decode cX7_countFamilies 18 = .ok (.if_icmp .ge 45, 3) := by decide +kernel
theorem dX7_countFamilies_21 : decode cX7_countFamilies 21 = .ok (.aload_n 0, 1) := by decide +kernel
theorem dX7_countFamilies_22 : decode cX7_countFamilies 22 = .ok (.getfield 11, 3) := by decide +kernel
theorem dX7_countFamilies_25 : decode cX7_countFamilies 25 = .ok (.iload 4, 2) := by decide +kernel
theorem dX7_countFamilies_27 : decode cX7_countFamilies 27 = .ok (.aaload, 1) := by decide +kernel
theorem dX7_countFamilies_28 : decode cX7_countFamilies 28 = .ok (.ifnull 29, 3) := by decide +kernel
theorem dX7_countFamilies_31 : decode cX7_countFamilies 31 = .ok (.lload_n 2, 1) := by decide +kernel
theorem dX7_countFamilies_32 : decode cX7_countFamilies 32 = .ok (.lconst 1, 1) := by decide +kernel
theorem dX7_countFamilies_33 : decode cX7_countFamilies 33 = .ok (.iload 4, 2) := by decide +kernel
theorem dX7_countFamilies_35 : decode cX7_countFamilies 35 = .ok (.lshl, 1) := by decide +kernel
theorem dX7_countFamilies_36 : decode cX7_countFamilies 36 = .ok (.land, 1) := by decide +kernel
theorem dX7_countFamilies_37 : decode cX7_countFamilies 37 = .ok (.lconst 0, 1) := by decide +kernel
theorem dX7_countFamilies_38 : decode cX7_countFamilies 38 = .ok (.lcmp, 1) := by decide +kernel
theorem dX7_countFamilies_39 : decode cX7_countFamilies 39 = .ok (.ifCond .ne 18, 3) := by decide +kernel
theorem dX7_countFamilies_42 : decode cX7_countFamilies 42 = .ok (.iinc 1 1, 3) := by decide +kernel
theorem dX7_countFamilies_45 : decode cX7_countFamilies 45 = .ok (.lload_n 2, 1) := by decide +kernel
theorem dX7_countFamilies_46 : decode cX7_countFamilies 46 = .ok (.aload_n 0, 1) := by decide +kernel
theorem dX7_countFamilies_47 : decode cX7_countFamilies 47 = .ok (.getfield 65, 3) := by decide +kernel
theorem dX7_countFamilies_50 : decode cX7_countFamilies 50 = .ok (.iload 4, 2) := by decide +kernel
theorem dX7_countFamilies_52 : decode cX7_countFamilies 52 = .ok (.invokevirtual 165, 3) := by decide +kernel
theorem dX7_countFamilies_55 : decode cX7_countFamilies 55 = .ok (.lor, 1) := by decide +kernel
theorem dX7_countFamilies_56 : decode cX7_countFamilies 56 = .ok (.lstore_n 2, 1) := by decide +kernel
theorem dX7_countFamilies_57 : decode cX7_countFamilies 57 = .ok (.iinc 4 1, 3) := by decide +kernel
theorem dX7_countFamilies_60 : decode cX7_countFamilies 60 = .ok (.goto (-48), 3) := by decide +kernel
theorem dX7_countFamilies_63 : decode cX7_countFamilies 63 = .ok (.iload_n 1, 1) := by decide +kernel
theorem dX7_countFamilies_64 : decode cX7_countFamilies 64 = .ok (.ireturn, 1) := by decide +kernel
theorem dX8_init_0 : decode cX8_init 0 = .ok (.aload_n 0, 1) := by decide +kernel
theorem dX8_init_1 : decode cX8_init 1 = .ok (.invokespecial 1, 3) := by decide +kernel
theorem dX8_init_4 : decode cX8_init 4 = .ok (.aload_n 0, 1) := by decide +kernel
theorem dX8_init_5 : decode cX8_init 5 = .ok (.bipush 60, 2) := by decide +kernel
theorem dX8_init_7 : decode cX8_init 7 = .ok (.newarray .boolean, 2) := by decide +kernel
theorem dX8_init_9 : decode cX8_init 9 = .ok (.putfield 9, 3) := by decide +kernel
theorem dX8_init_12 : decode cX8_init 12 = .ok (.aload_n 0, 1) := by decide +kernel
theorem dX8_init_13 : decode cX8_init 13 = .ok (.bipush 60, 2) := by decide +kernel
theorem dX8_init_15 : decode cX8_init 15 = .ok (.newarray .int, 2) := by decide +kernel
theorem dX8_init_17 : decode cX8_init 17 = .ok (.putfield 13, 3) := by decide +kernel
theorem dX8_init_20 : decode cX8_init 20 = .ok (.aload_n 0, 1) := by decide +kernel
theorem dX8_init_21 : decode cX8_init 21 = .ok (.sipush 1800, 3) := by decide +kernel
theorem dX8_init_24 : decode cX8_init 24 = .ok (.newarray .int, 2) := by decide +kernel
theorem dX8_init_26 : decode cX8_init 26 = .ok (.putfield 17, 3) := by decide +kernel
theorem dX8_init_29 : decode cX8_init 29 = .ok (.aload_n 0, 1) := by decide +kernel
theorem dX8_init_30 : decode cX8_init 30 = .ok (.sipush 200, 3) := by decide +kernel
theorem dX8_init_33 : decode cX8_init 33 = .ok (.newarray .int, 2) := by decide +kernel
theorem dX8_init_35 : decode cX8_init 35 = .ok (.putfield 20, 3) := by decide +kernel
theorem dX8_init_38 : decode cX8_init 38 = .ok (.aload_n 0, 1) := by decide +kernel
theorem dX8_init_39 : decode cX8_init 39 = .ok (.sipush 200, 3) := by decide +kernel
theorem dX8_init_42 : decode cX8_init 42 = .ok (.newarray .int, 2) := by decide +kernel
theorem dX8_init_44 : decode cX8_init 44 = .ok (.putfield 23, 3) := by decide +kernel
theorem dX8_init_47 : decode cX8_init 47 = .ok (.aload_n 0, 1) := by decide +kernel
theorem dX8_init_48 : decode cX8_init 48 = .ok (.sipush 1800, 3) := by decide +kernel
theorem dX8_init_51 : decode cX8_init 51 = .ok (.newarray .int, 2) := by decide +kernel
theorem dX8_init_53 : decode cX8_init 53 = .ok (.putfield 26, 3) := by decide +kernel
theorem dX8_init_56 : decode cX8_init 56 = .ok (.aload_n 0, 1) := by decide +kernel
theorem dX8_init_57 : decode cX8_init 57 = .ok (.sipush 1800, 3) := by decide +kernel
theorem dX8_init_60 : decode cX8_init 60 = .ok (.newarray .int, 2) := by decide +kernel
theorem dX8_init_62 : decode cX8_init 62 = .ok (.putfield 29, 3) := by decide +kernel
theorem dX8_init_65 : decode cX8_init 65 = .ok (.aload_n 0, 1) := by decide +kernel
theorem dX8_init_66 : decode cX8_init 66 = .ok (.iconst 1, 1) := by decide +kernel
theorem dX8_init_67 : decode cX8_init 67 = .ok (.putfield 32, 3) := by decide +kernel
theorem dX8_init_70 : decode cX8_init 70 = .ok (.aload_n 0, 1) := by decide +kernel
theorem dX8_init_71 : decode cX8_init 71 = .ok (.iconst 1, 1) := by decide +kernel
theorem dX8_init_72 : decode cX8_init 72 = .ok (.putfield 36, 3) := by decide +kernel
theorem dX8_init_75 : decode cX8_init 75 = .ok (.aload_n 0, 1) := by decide +kernel
theorem dX8_init_76 : decode cX8_init 76 = .ok (.iconst 2, 1) := by decide +kernel
theorem dX8_init_77 : decode cX8_init 77 = .ok (.putfield 39, 3) := by decide +kernel
theorem dX8_init_80 : decode cX8_init 80 = .ok (.aload_n 0, 1) := by decide +kernel
theorem dX8_init_81 : decode cX8_init 81 = .ok (.bipush 30, 2) := by decide +kernel
theorem dX8_init_83 : decode cX8_init 83 = .ok (.newarray .int, 2) := by decide +kernel
theorem dX8_init_85 : decode cX8_init 85 = .ok (.putfield 42, 3) := by decide +kernel
theorem dX8_init_88 : decode cX8_init 88 = .ok (.aload_n 0, 1) := by decide +kernel
theorem dX8_init_89 : decode cX8_init 89 = .ok (.bipush 30, 2) := by decide +kernel
theorem dX8_init_91 : decode cX8_init 91 = .ok (.newarray .int, 2) := by decide +kernel
theorem dX8_init_93 : decode cX8_init 93 = .ok (.putfield 45, 3) := by decide +kernel
theorem dX8_init_96 : decode cX8_init 96 = .ok (.aload_n 0, 1) := by decide +kernel
theorem dX8_init_97 : decode cX8_init 97 = .ok (.bipush 80, 2) := by decide +kernel
theorem dX8_init_99 : decode cX8_init 99 = .ok (.newarray .int, 2) := by decide +kernel
theorem dX8_init_101 : decode cX8_init 101 = .ok (.putfield 48, 3) := by decide +kernel
theorem dX8_init_104 : decode cX8_init 104 = .ok (.aload_n 0, 1) := by decide +kernel
theorem dX8_init_105 : decode cX8_init 105 = .ok (.sipush 1800, 3) := by decide +kernel
theorem dX8_init_108 : decode cX8_init 108 = .ok (.newarray .int, 2) := by decide +kernel
theorem dX8_init_110 : decode cX8_init 110 = .ok (.putfield 51, 3) := by decide +kernel
theorem dX8_init_113 : decode cX8_init 113 = .ok (.aload_n 0, 1) := by decide +kernel
theorem dX8_init_114 : decode cX8_init 114 = .ok (.sipush 1800, 3) := by decide +kernel
theorem dX8_init_117 : decode cX8_init 117 = .ok (.newarray .int, 2) := by decide +kernel
theorem dX8_init_119 : decode cX8_init 119 = .ok (.putfield 54, 3) := by decide +kernel
theorem dX8_init_122 : decode cX8_init 122 = .ok (.aload_n 0, 1) := by decide +kernel
theorem dX8_init_123 : decode cX8_init 123 = .ok (.sipush 1800, 3) := by decide +kernel
theorem dX8_init_126 : decode cX8_init 126 = .ok (.newarray .int, 2) := by decide +kernel
theorem dX8_init_128 : decode cX8_init 128 = .ok (.putfield 57, 3) := by decide +kernel
theorem dX8_init_131 : decode cX8_init 131 = .ok (.aload_n 0, 1) := by decide +kernel
theorem dX8_init_132 : decode cX8_init 132 = .ok (.bipush 6, 2) := by decide +kernel
theorem dX8_init_134 : decode cX8_init 134 = .ok (.newarray .int, 2) := by decide +kernel
theorem dX8_init_136 : decode cX8_init 136 = .ok (.putfield 60, 3) := by decide +kernel
theorem dX8_init_139 : decode cX8_init 139 = .ok (.aload_n 0, 1) := by decide +kernel
theorem dX8_init_140 : decode cX8_init 140 = .ok (.bipush 60, 2) := by decide +kernel
theorem dX8_init_142 : decode cX8_init 142 = .ok (.newarray .int, 2) := by decide +kernel
theorem dX8_init_144 : decode cX8_init 144 = .ok (.putfield 63, 3) := by decide +kernel
theorem dX8_init_147 : decode cX8_init 147 = .ok (.aload_n 0, 1) := by decide +kernel
theorem dX8_init_148 : decode cX8_init 148 = .ok (.bipush 20, 2) := by decide +kernel
theorem dX8_init_150 : decode cX8_init 150 = .ok (.newarray .int, 2) := by decide +kernel
theorem dX8_init_152 : decode cX8_init 152 = .ok (.putfield 66, 3) := by decide +kernel
theorem dX8_init_155 : decode cX8_init 155 = .ok (.aload_n 0, 1) := by decide +kernel
theorem dX8_init_156 : decode cX8_init 156 = .ok (.bipush 20, 2) := by decide +kernel
theorem dX8_init_158 : decode cX8_init 158 = .ok (.newarray .int, 2) := by decide +kernel
theorem dX8_init_160 : decode cX8_init 160 = .ok (.putfield 69, 3) := by decide +kernel
theorem dX8_init_163 : decode cX8_init 163 = .ok (.aload_n 0, 1) := by decide +kernel
theorem dX8_init_164 : decode cX8_init 164 = .ok (.bipush 20, 2) := by decide +kernel
theorem dX8_init_166 : decode cX8_init 166 = .ok (.newarray .int, 2) := by decide +kernel
theorem dX8_init_168 : decode cX8_init 168 = .ok (.putfield 72, 3) := by decide +kernel
theorem dX8_init_171 : decode cX8_init 171 = .ok (.return_, 1) := by decide +kernel
theorem dX8_thrown_0 : decode cX8_thrown 0 = .ok (.aload_n 0, 1) := by decide +kernel
theorem dX8_thrown_1 : decode cX8_thrown 1 = .ok (.getfield 75, 3) := by decide +kernel
theorem dX8_thrown_4 : decode cX8_thrown 4 = .ok (.ireturn, 1) := by decide +kernel
theorem dX8_in_0 : decode cX8_in 0 = .ok (.iload_n 0, 1) := by decide +kernel
theorem dX8_in_1 : decode cX8_in 1 = .ok (.iload_n 1, 1) := by decide +kernel
theorem dX8_in_2 : decode cX8_in 2 = .ok (.if_icmp .lt 12, 3) := by decide +kernel
theorem dX8_in_5 : decode cX8_in 5 = .ok (.iload_n 0, 1) := by decide +kernel
theorem dX8_in_6 : decode cX8_in 6 = .ok (.iload_n 2, 1) := by decide +kernel
theorem dX8_in_7 : decode cX8_in 7 = .ok (.if_icmp .gt 7, 3) := by decide +kernel
theorem dX8_in_10 : decode cX8_in 10 = .ok (.iconst 1, 1) := by decide +kernel
theorem dX8_in_11 : decode cX8_in 11 = .ok (.goto 4, 3) := by decide +kernel
theorem dX8_in_14 : decode cX8_in 14 = .ok (.iconst 0, 1) := by decide +kernel
theorem dX8_in_15 : decode cX8_in 15 = .ok (.ireturn, 1) := by decide +kernel
theorem dX8_is_0 : decode cX8_is 0 = .ok (.iload_n 1, 1) := by decide +kernel
theorem dX8_is_1 : decode cX8_is 1 = .ok (.iconst 0, 1) := by decide +kernel
theorem dX8_is_2 : decode cX8_is 2 = .ok (.aload_n 0, 1) := by decide +kernel
theorem dX8_is_3 : decode cX8_is 3 = .ok (.getfield 78, 3) := by decide +kernel
theorem dX8_is_6 : decode cX8_is 6 = .ok (.iconst 1, 1) := by decide +kernel
theorem dX8_is_7 : decode cX8_is 7 = .ok (.isub, 1) := by decide +kernel
theorem dX8_is_8 : decode cX8_is 8 = .ok (.invokestatic 81, 3) := by decide +kernel
theorem dX8_is_11 : decode cX8_is 11 = .ok (.ifCond .eq 16, 3) := by decide +kernel
theorem dX8_is_14 : decode cX8_is 14 = .ok (.aload_n 0, 1) := by decide +kernel
theorem dX8_is_15 : decode cX8_is 15 = .ok (.getfield 9, 3) := by decide +kernel
theorem dX8_is_18 : decode cX8_is 18 = .ok (.iload_n 1, 1) := by decide +kernel
theorem dX8_is_19 : decode cX8_is 19 = .ok (.baload, 1) := by decide +kernel
theorem dX8_is_20 : decode cX8_is 20 = .ok (.ifCond .ne 7, 3) := by decide +kernel
theorem dX8_is_23 : decode cX8_is 23 = .ok (.iconst 1, 1) := by decide +kernel
theorem dX8_is_24 : decode cX8_is 24 = .ok (.goto 4, 3) := by decide +kernel
theorem dX8_is_27 : decode cX8_is 27 = .ok (.iconst 0, 1) := by decide +kernel
theorem dX8_is_28 : decode cX8_is 28 = .ok (.ireturn, 1) := by decide +kernel
theorem dX8_isTwo_0 : decode cX8_isTwo 0 = .ok (.aload_n 0, 1) := by decide +kernel
theorem dX8_isTwo_1 : decode cX8_isTwo 1 = .ok (.iload_n 1, 1) := by decide +kernel
theorem dX8_isTwo_2 : decode cX8_isTwo 2 = .ok (.invokevirtual 85, 3) := by decide +kernel
theorem dX8_isTwo_5 : decode cX8_isTwo 5 = .ok (.ifCond .eq 20, 3) := by decide +kernel
theorem dX8_isTwo_8 : decode cX8_isTwo 8 = .ok (.aload_n 0, 1) := by decide +kernel
theorem dX8_isTwo_9 : decode cX8_isTwo 9 = .ok (.iload_n 2, 1) := by decide +kernel
theorem dX8_isTwo_10 : decode cX8_isTwo 10 = .ok (.invokevirtual 85, 3) := by decide +kernel
theorem dX8_isTwo_13 : decode cX8_isTwo 13 = .ok (.ifCond .eq 12, 3) := by decide +kernel
theorem dX8_isTwo_16 : decode cX8_isTwo 16 = .ok (.iload_n 1, 1) := by decide +kernel
theorem dX8_isTwo_17 : decode cX8_isTwo 17 = .ok (.iload_n 2, 1) := by decide +kernel
theorem dX8_isTwo_18 : decode cX8_isTwo 18 = .ok (.if_icmp .eq 7, 3) := by decide +kernel
theorem dX8_isTwo_21 : decode cX8_isTwo 21 = .ok (.iconst 1, 1) := by decide +kernel
theorem dX8_isTwo_22 : decode cX8_isTwo 22 = .ok (.goto 4, 3) := by decide +kernel
theorem dX8_isTwo_25 : decode cX8_isTwo 25 = .ok (.iconst 0, 1) := by decide +kernel
theorem dX8_isTwo_26 : decode cX8_isTwo 26 = .ok (.ireturn, 1) := by decide +kernel
theorem dX8_isNumber_0 : decode cX8_isNumber 0 = .ok (.iload_n 0, 1) := by decide +kernel
theorem dX8_isNumber_1 : decode cX8_isNumber 1 = .ok (.iconst 0, 1) := by decide +kernel
theorem dX8_isNumber_2 : decode cX8_isNumber 2 = .ok (.ldc 89, 2) := by decide +kernel
theorem dX8_isNumber_4 : decode cX8_isNumber 4 = .ok (.invokestatic 81, 3) := by decide +kernel
theorem dX8_isNumber_7 : decode cX8_isNumber 7 = .ok (.ireturn, 1) := by decide +kernel
theorem dX8_place_0 : decode cX8_place 0 = .ok (.iconst 0, 1) := by decide +kernel
theorem dX8_place_1 : decode cX8_place 1 = .ok (.istore_n 3, 1) := by decide +kernel
theorem dX8_place_2 : decode cX8_place 2 = .ok (.iload_n 3, 1) := by decide +kernel
theorem dX8_place_3 : decode cX8_place 3 = .ok (.aload_n 0, 1) := by decide +kernel
theorem dX8_place_4 : decode cX8_place 4 = .ok (.getfield 13, 3) := by decide +kernel
theorem dX8_place_7 : decode cX8_place 7 = .ok (.iload_n 1, 1) := by decide +kernel
theorem dX8_place_8 : decode cX8_place 8 = .ok (.iaload, 1) := by decide +kernel
theorem dX8_place_9 : decode cX8_place 9 = .ok (.if_icmp .ge 26, 3) := by decide +kernel
theorem dX8_place_12 : decode cX8_place 12 = .ok (.aload_n 0, 1) := by decide +kernel
theorem dX8_place_13 : decode cX8_place 13 = .ok (.getfield 17, 3) := by decide +kernel
theorem dX8_place_16 : decode cX8_place 16 = .ok (.bipush 30, 2) := by decide +kernel
theorem dX8_place_18 : decode cX8_place 18 = .ok (.iload_n 1, 1) := by decide +kernel
theorem dX8_place_19 : decode cX8_place 19 = .ok (.imul, 1) := by decide +kernel
theorem dX8_place_20 : decode cX8_place 20 = .ok (.iload_n 3, 1) := by decide +kernel
theorem dX8_place_21 : decode cX8_place 21 = .ok (.iadd, 1) := by decide +kernel
theorem dX8_place_22 : decode cX8_place 22 = .ok (.iaload, 1) := by decide +kernel
theorem dX8_place_23 : decode cX8_place 23 = .ok (.iload_n 2, 1) := by decide +kernel
theorem dX8_place_24 : decode cX8_place 24 = .ok (.if_icmp .ne 5, 3) := by decide +kernel
theorem dX8_place_27 : decode cX8_place 27 = .ok (.iload_n 3, 1) := by decide +kernel
theorem dX8_place_28 : decode cX8_place 28 = .ok (.ireturn, 1) := by decide +kernel
theorem dX8_place_29 : decode cX8_place 29 = .ok (.iinc 3 1, 3) := by decide +kernel
theorem dX8_place_32 : decode cX8_place 32 = .ok (.goto (-30), 3) := by decide +kernel
theorem dX8_place_35 : decode cX8_place 35 = .ok (.iconst (-1), 1) := by decide +kernel
theorem dX8_place_36 : decode cX8_place 36 = .ok (.ireturn, 1) := by decide +kernel
theorem dX8_record_0 : decode cX8_record 0 = .ok (.aload_n 0, 1) := by decide +kernel
theorem dX8_record_1 : decode cX8_record 1 = .ok (.iconst 0, 1) := by decide +kernel
theorem dX8_record_2 : decode cX8_record 2 = .ok (.putfield 75, 3) := by decide +kernel
theorem dX8_record_5 : decode cX8_record 5 = .ok (.aload_n 0, 1) := by decide +kernel
theorem dX8_record_6 : decode cX8_record 6 = .ok (.getfield 78, 3) := by decide +kernel
theorem dX8_record_9 : decode cX8_record 9 = .ok (.bipush 60, 2) := by decide +kernel
theorem dX8_record_11 : decode cX8_record 11 = .ok (.if_icmp .ne 5, 3) := by decide +kernel
theorem dX8_record_14 : decode cX8_record 14 = .ok (.iconst (-1), 1) := by decide +kernel
theorem dX8_record_15 : decode cX8_record 15 = .ok (.ireturn, 1) := by decide +kernel
theorem dX8_record_16 : decode cX8_record 16 = .ok (.aload_n 0, 1) := by decide +kernel
theorem dX8_record_17 : decode cX8_record 17 = .ok (.dup, 1) := by decide +kernel
theorem dX8_record_18 : decode cX8_record 18 = .ok (.getfield 78, 3) := by decide +kernel
theorem dX8_record_21 : decode cX8_record 21 = .ok (.iconst 1, 1) := by decide +kernel
theorem dX8_record_22 : decode cX8_record 22 = .ok (.iadd, 1) := by decide +kernel
theorem dX8_record_23 : decode cX8_record 23 = .ok (.putfield 78, 3) := by decide +kernel
theorem dX8_record_26 : decode cX8_record 26 = .ok (.aload_n 0, 1) := by decide +kernel
theorem dX8_record_27 : decode cX8_record 27 = .ok (.getfield 78, 3) := by decide +kernel
theorem dX8_record_30 : decode cX8_record 30 = .ok (.iconst 1, 1) := by decide +kernel
theorem dX8_record_31 : decode cX8_record 31 = .ok (.isub, 1) := by decide +kernel
theorem dX8_record_32 : decode cX8_record 32 = .ok (.ireturn, 1) := by decide +kernel
theorem dX8_drop_0 : decode cX8_drop 0 = .ok (.aload_n 0, 1) := by decide +kernel
theorem dX8_drop_1 : decode cX8_drop 1 = .ok (.iconst 0, 1) := by decide +kernel
theorem dX8_drop_2 : decode cX8_drop 2 = .ok (.putfield 75, 3) := by decide +kernel
theorem dX8_drop_5 : decode cX8_drop 5 = .ok (.aload_n 0, 1) := by decide +kernel
theorem dX8_drop_6 : decode cX8_drop 6 = .ok (.iload_n 1, 1) := by decide +kernel
theorem dX8_drop_7 : decode cX8_drop 7 = .ok (.invokevirtual 85, 3) := by decide +kernel
theorem dX8_drop_10 : decode cX8_drop 10 = .ok (.ifCond .ne 5, 3) := by decide +kernel
theorem dX8_drop_13 : decode cX8_drop 13 = .ok (.iconst 0, 1) := by decide +kernel
theorem dX8_drop_14 : decode cX8_drop 14 = .ok (.ireturn, 1) := by decide +kernel
theorem dX8_drop_15 : decode cX8_drop 15 = .ok (.aload_n 0, 1) := by decide +kernel
theorem dX8_drop_16 : decode cX8_drop 16 = .ok (.getfield 9, 3) := by decide +kernel
theorem dX8_drop_19 : decode cX8_drop 19 = .ok (.iload_n 1, 1) := by decide +kernel
theorem dX8_drop_20 : decode cX8_drop 20 = .ok (.iconst 1, 1) := by decide +kernel
theorem dX8_drop_21 : decode cX8_drop 21 = .ok (.bastore, 1) := by decide +kernel
theorem dX8_drop_22 : decode cX8_drop 22 = .ok (.iconst 1, 1) := by decide +kernel
theorem dX8_drop_23 : decode cX8_drop 23 = .ok (.ireturn, 1) := by decide +kernel
theorem dX8_put_0 : decode cX8_put 0 = .ok (.aload_n 0, 1) := by decide +kernel
theorem dX8_put_1 : decode cX8_put 1 = .ok (.iconst 0, 1) := by decide +kernel
theorem dX8_put_2 : decode cX8_put 2 = .ok (.putfield 75, 3) := by decide +kernel
theorem dX8_put_5 : decode cX8_put 5 = .ok (.aload_n 0, 1) := by decide +kernel
theorem dX8_put_6 : decode cX8_put 6 = .ok (.iload_n 1, 1) := by decide +kernel
theorem dX8_put_7 : decode cX8_put 7 = .ok (.invokevirtual 85, 3) := by decide +kernel
theorem dX8_put_10 : decode cX8_put 10 = .ok (.ifCond .eq 31, 3) := by decide +kernel
theorem dX8_put_13 : decode cX8_put 13 = .ok (.iload_n 2, 1) := by decide +kernel
theorem dX8_put_14 : decode cX8_put 14 = .ok (.invokestatic 90, 3) := by decide +kernel
theorem dX8_put_17 : decode cX8_put 17 = .ok (.ifCond .eq 24, 3) := by decide +kernel
theorem dX8_put_20 : decode cX8_put 20 = .ok (.aload_n 0, 1) := by decide +kernel
theorem dX8_put_21 : decode cX8_put 21 = .ok (.iload_n 1, 1) := by decide +kernel
theorem dX8_put_22 : decode cX8_put 22 = .ok (.iload_n 2, 1) := by decide +kernel
theorem dX8_put_23 : decode cX8_put 23 = .ok (.invokevirtual 93, 3) := by decide +kernel
theorem dX8_put_26 : decode cX8_put 26 = .ok (.iconst (-1), 1) := by decide +kernel
theorem dX8_put_27 : decode cX8_put 27 = .ok (.if_icmp .ne 14, 3) := by decide +kernel
theorem dX8_put_30 : decode cX8_put 30 = .ok (.aload_n 0, 1) := by decide +kernel
theorem dX8_put_31 : decode cX8_put 31 = .ok (.getfield 13, 3) := by decide +kernel
theorem dX8_put_34 : decode cX8_put 34 = .ok (.iload_n 1, 1) := by decide +kernel
theorem dX8_put_35 : decode cX8_put 35 = .ok (.iaload, 1) := by decide +kernel
theorem dX8_put_36 : decode cX8_put 36 = .ok (.bipush 30, 2) := by decide +kernel
theorem dX8_put_38 : decode cX8_put 38 = .ok (.if_icmp .ne 5, 3) := by decide +kernel
theorem dX8_put_41 : decode cX8_put 41 = .ok (.iconst 0, 1) := by decide +kernel
theorem dX8_put_42 : decode cX8_put 42 = .ok (.ireturn, 1) := by decide +kernel
theorem dX8_put_43 : decode cX8_put 43 = .ok (.aload_n 0, 1) := by decide +kernel
theorem dX8_put_44 : decode cX8_put 44 = .ok (.getfield 17, 3) := by decide +kernel
theorem dX8_put_47 : decode cX8_put 47 = .ok (.bipush 30, 2) := by decide +kernel
theorem dX8_put_49 : decode cX8_put 49 = .ok (.iload_n 1, 1) := by decide +kernel
theorem dX8_put_50 : decode cX8_put 50 = .ok (.imul, 1) := by decide +kernel
theorem dX8_put_51 : decode cX8_put 51 = .ok (.aload_n 0, 1) := by decide +kernel
theorem dX8_put_52 : decode cX8_put 52 = .ok (.getfield 13, 3) := by decide +kernel
theorem dX8_put_55 : decode cX8_put 55 = .ok (.iload_n 1, 1) := by decide +kernel
theorem dX8_put_56 : decode cX8_put 56 = .ok (.iaload, 1) := by decide +kernel
theorem dX8_put_57 : decode cX8_put 57 = .ok (.iadd, 1) := by decide +kernel
theorem dX8_put_58 : decode cX8_put 58 = .ok (.iload_n 2, 1) := by decide +kernel
theorem dX8_put_59 : decode cX8_put 59 = .ok (.iastore, 1) := by decide +kernel
theorem dX8_put_60 : decode cX8_put 60 = .ok (.aload_n 0, 1) := by decide +kernel
theorem dX8_put_61 : decode cX8_put 61 = .ok (.getfield 13, 3) := by decide +kernel
theorem dX8_put_64 : decode cX8_put 64 = .ok (.iload_n 1, 1) := by decide +kernel
theorem dX8_put_65 : decode cX8_put 65 = .ok (.dup2, 1) := by decide +kernel
theorem dX8_put_66 : decode cX8_put 66 = .ok (.iaload, 1) := by decide +kernel
theorem dX8_put_67 : decode cX8_put 67 = .ok (.iconst 1, 1) := by decide +kernel
theorem dX8_put_68 : decode cX8_put 68 = .ok (.iadd, 1) := by decide +kernel
theorem dX8_put_69 : decode cX8_put 69 = .ok (.iastore, 1) := by decide +kernel
theorem dX8_put_70 : decode cX8_put 70 = .ok (.iconst 1, 1) := by decide +kernel
theorem dX8_put_71 : decode cX8_put 71 = .ok (.ireturn, 1) := by decide +kernel
theorem dX8_take_0 : decode cX8_take 0 = .ok (.aload_n 0, 1) := by decide +kernel
theorem dX8_take_1 : decode cX8_take 1 = .ok (.iconst 0, 1) := by decide +kernel
theorem dX8_take_2 : decode cX8_take 2 = .ok (.putfield 75, 3) := by decide +kernel
theorem dX8_take_5 : decode cX8_take 5 = .ok (.aload_n 0, 1) := by decide +kernel
theorem dX8_take_6 : decode cX8_take 6 = .ok (.iload_n 1, 1) := by decide +kernel
theorem dX8_take_7 : decode cX8_take 7 = .ok (.invokevirtual 85, 3) := by decide +kernel
theorem dX8_take_10 : decode cX8_take 10 = .ok (.ifCond .eq 13, 3) := by decide +kernel
theorem dX8_take_13 : decode cX8_take 13 = .ok (.aload_n 0, 1) := by decide +kernel
theorem dX8_take_14 : decode cX8_take 14 = .ok (.iload_n 1, 1) := by decide +kernel
theorem dX8_take_15 : decode cX8_take 15 = .ok (.iload_n 2, 1) := by decide +kernel
theorem dX8_take_16 : decode cX8_take 16 = .ok (.invokevirtual 93, 3) := by decide +kernel
theorem dX8_take_19 : decode cX8_take 19 = .ok (.iconst (-1), 1) := by decide +kernel
theorem dX8_take_20 : decode cX8_take 20 = .ok (.if_icmp .ne 5, 3) := by decide +kernel
theorem dX8_take_23 : decode cX8_take 23 = .ok (.iconst 0, 1) := by decide +kernel
theorem dX8_take_24 : decode cX8_take 24 = .ok (.ireturn, 1) := by decide +kernel
theorem dX8_take_25 : decode cX8_take 25 = .ok (.aload_n 0, 1) := by decide +kernel
theorem dX8_take_26 : decode cX8_take 26 = .ok (.getfield 13, 3) := by decide +kernel
theorem dX8_take_29 : decode cX8_take 29 = .ok (.iload_n 1, 1) := by decide +kernel
theorem dX8_take_30 : decode cX8_take 30 = .ok (.dup2, 1) := by decide +kernel
theorem dX8_take_31 : decode cX8_take 31 = .ok (.iaload, 1) := by decide +kernel
theorem dX8_take_32 : decode cX8_take 32 = .ok (.iconst 1, 1) := by decide +kernel
theorem dX8_take_33 : decode cX8_take 33 = .ok (.isub, 1) := by decide +kernel
theorem dX8_take_34 : decode cX8_take 34 = .ok (.iastore, 1) := by decide +kernel
theorem dX8_take_35 : decode cX8_take 35 = .ok (.aload_n 0, 1) := by decide +kernel
theorem dX8_take_36 : decode cX8_take 36 = .ok (.getfield 17, 3) := by decide +kernel
theorem dX8_take_39 : decode cX8_take 39 = .ok (.bipush 30, 2) := by decide +kernel
theorem dX8_take_41 : decode cX8_take 41 = .ok (.iload_n 1, 1) := by decide +kernel
theorem dX8_take_42 : decode cX8_take 42 = .ok (.imul, 1) := by decide +kernel
theorem dX8_take_43 : decode cX8_take 43 = .ok (.aload_n 0, 1) := by decide +kernel
theorem dX8_take_44 : decode cX8_take 44 = .ok (.iload_n 1, 1) := by decide +kernel
theorem dX8_take_45 : decode cX8_take 45 = .ok (.iload_n 2, 1) := by decide +kernel
theorem dX8_take_46 : decode cX8_take 46 = .ok (.invokevirtual 97, 3) := by decide +kernel
theorem dX8_take_49 : decode cX8_take 49 = .ok (.iadd, 1) := by decide +kernel
theorem dX8_take_50 : decode cX8_take 50 = .ok (.aload_n 0, 1) := by decide +kernel
theorem dX8_take_51 : decode cX8_take 51 = .ok (.getfield 17, 3) := by decide +kernel
theorem dX8_take_54 : decode cX8_take 54 = .ok (.bipush 30, 2) := by decide +kernel
theorem dX8_take_56 : decode cX8_take 56 = .ok (.iload_n 1, 1) := by decide +kernel
theorem dX8_take_57 : decode cX8_take 57 = .ok (.imul, 1) := by decide +kernel
theorem dX8_take_58 : decode cX8_take 58 = .ok (.aload_n 0, 1) := by decide +kernel
theorem dX8_take_59 : decode cX8_take 59 = .ok (.getfield 13, 3) := by decide +kernel
theorem dX8_take_62 : decode cX8_take 62 = .ok (.iload_n 1, 1) := by decide +kernel
theorem dX8_take_63 : decode cX8_take 63 = .ok (.iaload, 1) := by decide +kernel
theorem dX8_take_64 : decode cX8_take 64 = .ok (.iadd, 1) := by decide +kernel
theorem dX8_take_65 : decode cX8_take 65 = .ok (.iaload, 1) := by decide +kernel
theorem dX8_take_66 : decode cX8_take 66 = .ok (.iastore, 1) := by decide +kernel
theorem dX8_take_67 : decode cX8_take 67 = .ok (.iconst 1, 1) := by decide +kernel
theorem dX8_take_68 : decode cX8_take 68 = .ok (.ireturn, 1) := by decide +kernel
theorem dX8_place0_0 : decode cX8_place0 0 = .ok (.iconst 0, 1) := by decide +kernel
theorem dX8_place0_1 : decode cX8_place0 1 = .ok (.istore_n 3, 1) := by decide +kernel
theorem dX8_place0_2 : decode cX8_place0 2 = .ok (.aload_n 0, 1) := by decide +kernel
theorem dX8_place0_3 : decode cX8_place0 3 = .ok (.getfield 17, 3) := by decide +kernel
theorem dX8_place0_6 : decode cX8_place0 6 = .ok (.bipush 30, 2) := by decide +kernel
theorem dX8_place0_8 : decode cX8_place0 8 = .ok (.iload_n 1, 1) := by decide +kernel
theorem dX8_place0_9 : decode cX8_place0 9 = .ok (.imul, 1) := by decide +kernel
theorem dX8_place0_10 : decode cX8_place0 10 = .ok (.iload_n 3, 1) := by decide +kernel
theorem dX8_place0_11 : decode cX8_place0 11 = .ok (.iadd, 1) := by decide +kernel
theorem dX8_place0_12 : decode cX8_place0 12 = .ok (.iaload, 1) := by decide +kernel
theorem dX8_place0_13 : decode cX8_place0 13 = .ok (.iload_n 2, 1) := by decide +kernel
theorem dX8_place0_14 : decode cX8_place0 14 = .ok (.if_icmp .eq 9, 3) := by decide +kernel
theorem dX8_place0_17 : decode cX8_place0 17 = .ok (.iinc 3 1, 3) := by decide +kernel
theorem dX8_place0_20 : decode cX8_place0 20 = .ok (.goto (-18), 3) := by decide +kernel
theorem dX8_place0_23 : decode cX8_place0 23 = .ok (.iload_n 3, 1) := by decide +kernel
theorem dX8_place0_24 : decode cX8_place0 24 = .ok (.ireturn, 1) := by decide +kernel
theorem dX8_weight_0 : decode cX8_weight 0 = .ok (.aload_n 0, 1) := by decide +kernel
theorem dX8_weight_1 : decode cX8_weight 1 = .ok (.iconst 0, 1) := by decide +kernel
theorem dX8_weight_2 : decode cX8_weight 2 = .ok (.putfield 75, 3) := by decide +kernel
theorem dX8_weight_5 : decode cX8_weight 5 = .ok (.iload_n 1, 1) := by decide +kernel
theorem dX8_weight_6 : decode cX8_weight 6 = .ok (.invokestatic 90, 3) := by decide +kernel
theorem dX8_weight_9 : decode cX8_weight 9 = .ok (.ifCond .eq 13, 3) := by decide +kernel
theorem dX8_weight_12 : decode cX8_weight 12 = .ok (.iload_n 2, 1) := by decide +kernel
theorem dX8_weight_13 : decode cX8_weight 13 = .ok (.iconst 1, 1) := by decide +kernel
theorem dX8_weight_14 : decode cX8_weight 14 = .ok (.bipush 100, 2) := by decide +kernel
theorem dX8_weight_16 : decode cX8_weight 16 = .ok (.invokestatic 81, 3) := by decide +kernel
theorem dX8_weight_19 : decode cX8_weight 19 = .ok (.ifCond .ne 5, 3) := by decide +kernel
theorem dX8_weight_22 : decode cX8_weight 22 = .ok (.iconst 0, 1) := by decide +kernel
theorem dX8_weight_23 : decode cX8_weight 23 = .ok (.ireturn, 1) := by decide +kernel
theorem dX8_weight_24 : decode cX8_weight 24 = .ok (.iconst 0, 1) := by decide +kernel
theorem dX8_weight_25 : decode cX8_weight 25 = .ok (.istore_n 3, 1) := by decide +kernel
theorem dX8_weight_26 : decode cX8_weight 26 = .ok (.iload_n 3, 1) := by decide +kernel
theorem dX8_weight_27 : decode cX8_weight 27 = .ok (.aload_n 0, 1) := by decide +kernel
theorem dX8_weight_28 : decode cX8_weight 28 = .ok (.getfield 100, 3) := by decide +kernel
theorem dX8_weight_31 : decode cX8_weight 31 = .ok (.if_icmp .ge 19, 3) := by decide +kernel
theorem dX8_weight_34 : decode cX8_weight 34 = .ok (.aload_n 0, 1) := by decide +kernel
theorem dX8_weight_35 : decode cX8_weight 35 = .ok (.getfield 20, 3) := by decide +kernel
theorem dX8_weight_38 : decode cX8_weight 38 = .ok (.iload_n 3, 1) := by decide +kernel
theorem dX8_weight_39 : decode cX8_weight 39 = .ok (.iaload, 1) := by decide +kernel
theorem dX8_weight_40 : decode cX8_weight 40 = .ok (.iload_n 1, 1) := by decide +kernel
theorem dX8_weight_41 : decode cX8_weight 41 = .ok (.if_icmp .eq 9, 3) := by decide +kernel
theorem dX8_weight_44 : decode cX8_weight 44 = .ok (.iinc 3 1, 3) := by decide +kernel
theorem dX8_weight_47 : decode cX8_weight 47 = .ok (.goto (-21), 3) := by decide +kernel
theorem dX8_weight_50 : decode cX8_weight 50 = .ok (.iload_n 3, 1) := by decide +kernel
theorem dX8_weight_51 : decode cX8_weight 51 = .ok (.sipush 200, 3) := by decide +kernel
theorem dX8_weight_54 : decode cX8_weight 54 = .ok (.if_icmp .ne 5, 3) := by decide +kernel
theorem dX8_weight_57 : decode cX8_weight 57 = .ok (.iconst 0, 1) := by decide +kernel
theorem dX8_weight_58 : decode cX8_weight 58 = .ok (.ireturn, 1) := by decide +kernel
theorem dX8_weight_59 : decode cX8_weight 59 = .ok (.aload_n 0, 1) := by decide +kernel
theorem dX8_weight_60 : decode cX8_weight 60 = .ok (.getfield 20, 3) := by decide +kernel
theorem dX8_weight_63 : decode cX8_weight 63 = .ok (.iload_n 3, 1) := by decide +kernel
theorem dX8_weight_64 : decode cX8_weight 64 = .ok (.iload_n 1, 1) := by decide +kernel
theorem dX8_weight_65 : decode cX8_weight 65 = .ok (.iastore, 1) := by decide +kernel
theorem dX8_weight_66 : decode cX8_weight 66 = .ok (.aload_n 0, 1) := by decide +kernel
theorem dX8_weight_67 : decode cX8_weight 67 = .ok (.getfield 23, 3) := by decide +kernel
theorem dX8_weight_70 : decode cX8_weight 70 = .ok (.iload_n 3, 1) := by decide +kernel
theorem dX8_weight_71 : decode cX8_weight 71 = .ok (.iload_n 2, 1) := by decide +kernel
theorem dX8_weight_72 : decode cX8_weight 72 = .ok (.iastore, 1) := by decide +kernel
theorem dX8_weight_73 : decode cX8_weight 73 = .ok (.iload_n 3, 1) := by decide +kernel
theorem dX8_weight_74 : decode cX8_weight 74 = .ok (.aload_n 0, 1) := by decide +kernel
theorem dX8_weight_75 : decode cX8_weight 75 = .ok (.getfield 100, 3) := by decide +kernel
theorem dX8_weight_78 : decode cX8_weight 78 = .ok (.if_icmp .ne 13, 3) := by decide +kernel
theorem dX8_weight_81 : decode cX8_weight 81 = .ok (.aload_n 0, 1) := by decide +kernel
theorem dX8_weight_82 : decode cX8_weight 82 = .ok (.dup, 1) := by decide +kernel
theorem dX8_weight_83 : decode cX8_weight 83 = .ok (.getfield 100, 3) := by decide +kernel
theorem dX8_weight_86 : decode cX8_weight 86 = .ok (.iconst 1, 1) := by decide +kernel
theorem dX8_weight_87 : decode cX8_weight 87 = .ok (.iadd, 1) := by decide +kernel
theorem dX8_weight_88 : decode cX8_weight 88 = .ok (.putfield 100, 3) := by decide +kernel
theorem dX8_weight_91 : decode cX8_weight 91 = .ok (.iconst 1, 1) := by decide +kernel
theorem dX8_weight_92 : decode cX8_weight 92 = .ok (.ireturn, 1) := by decide +kernel
theorem dX8_weightOf_0 : decode cX8_weightOf 0 = .ok (.aload_n 0, 1) := by decide +kernel
theorem dX8_weightOf_1 : decode cX8_weightOf 1 = .ok (.getfield 32, 3) := by decide +kernel
theorem dX8_weightOf_4 : decode cX8_weightOf 4 = .ok (.iconst 5, 1) := by decide +kernel
theorem dX8_weightOf_5 : decode cX8_weightOf 5 = .ok (.if_icmp .eq 5, 3) := by decide +kernel
theorem dX8_weightOf_8 : decode cX8_weightOf 8 = .ok (.iconst 1, 1) := by decide +kernel
theorem dX8_weightOf_9 : decode cX8_weightOf 9 = .ok (.ireturn, 1) := by decide +kernel
theorem dX8_weightOf_10 : decode cX8_weightOf 10 = .ok (.iconst 0, 1) := by decide +kernel
theorem dX8_weightOf_11 : decode cX8_weightOf 11 = .ok (.istore_n 2, 1) := by decide +kernel
theorem dX8_weightOf_12 : decode cX8_weightOf 12 = .ok (.iload_n 2, 1) := by decide +kernel
theorem dX8_weightOf_13 : decode cX8_weightOf 13 = .ok (.aload_n 0, 1) := by decide +kernel
theorem dX8_weightOf_14 : decode cX8_weightOf 14 = .ok (.getfield 100, 3) := by decide +kernel
theorem dX8_weightOf_17 : decode cX8_weightOf 17 = .ok (.if_icmp .ge 26, 3) := by decide +kernel
theorem dX8_weightOf_20 : decode cX8_weightOf 20 = .ok (.aload_n 0, 1) := by decide +kernel
theorem dX8_weightOf_21 : decode cX8_weightOf 21 = .ok (.getfield 20, 3) := by decide +kernel
theorem dX8_weightOf_24 : decode cX8_weightOf 24 = .ok (.iload_n 2, 1) := by decide +kernel
theorem dX8_weightOf_25 : decode cX8_weightOf 25 = .ok (.iaload, 1) := by decide +kernel
theorem dX8_weightOf_26 : decode cX8_weightOf 26 = .ok (.iload_n 1, 1) := by decide +kernel
theorem dX8_weightOf_27 : decode cX8_weightOf 27 = .ok (.if_icmp .ne 10, 3) := by decide +kernel
theorem dX8_weightOf_30 : decode cX8_weightOf 30 = .ok (.aload_n 0, 1) := by decide +kernel
theorem dX8_weightOf_31 : decode cX8_weightOf 31 = .ok (.getfield 23, 3) := by decide +kernel
theorem dX8_weightOf_34 : decode cX8_weightOf 34 = .ok (.iload_n 2, 1) := by decide +kernel
theorem dX8_weightOf_35 : decode cX8_weightOf 35 = .ok (.iaload, 1) := by decide +kernel
theorem dX8_weightOf_36 : decode cX8_weightOf 36 = .ok (.ireturn, 1) := by decide +kernel
theorem dX8_weightOf_37 : decode cX8_weightOf 37 = .ok (.iinc 2 1, 3) := by decide +kernel
theorem dX8_weightOf_40 : decode cX8_weightOf 40 = .ok (.goto (-28), 3) := by decide +kernel
theorem dX8_weightOf_43 : decode cX8_weightOf 43 = .ok (.iconst 1, 1) := by decide +kernel
theorem dX8_weightOf_44 : decode cX8_weightOf 44 = .ok (.ireturn, 1) := by decide +kernel
theorem dX8_frequencyOf_0 : decode cX8_frequencyOf 0 = .ok (.iconst 0, 1) := by decide +kernel
theorem dX8_frequencyOf_1 : decode cX8_frequencyOf 1 = .ok (.istore_n 2, 1) := by decide +kernel
theorem dX8_frequencyOf_2 : decode cX8_frequencyOf 2 = .ok (.iload_n 2, 1) := by decide +kernel
theorem dX8_frequencyOf_3 : decode cX8_frequencyOf 3 = .ok (.aload_n 0, 1) := by decide +kernel
theorem dX8_frequencyOf_4 : decode cX8_frequencyOf 4 = .ok (.getfield 103, 3) := by decide +kernel
theorem dX8_frequencyOf_7 : decode cX8_frequencyOf 7 = .ok (.if_icmp .ge 26, 3) := by decide +kernel
theorem dX8_frequencyOf_10 : decode cX8_frequencyOf 10 = .ok (.aload_n 0, 1) := by decide +kernel
theorem dX8_frequencyOf_11 : decode cX8_frequencyOf 11 = .ok (.getfield 26, 3) := by decide +kernel
theorem dX8_frequencyOf_14 : decode cX8_frequencyOf 14 = .ok (.iload_n 2, 1) := by decide +kernel
theorem dX8_frequencyOf_15 : decode cX8_frequencyOf 15 = .ok (.iaload, 1) := by decide +kernel
theorem dX8_frequencyOf_16 : decode cX8_frequencyOf 16 = .ok (.iload_n 1, 1) := by decide +kernel
theorem dX8_frequencyOf_17 : decode cX8_frequencyOf 17 = .ok (.if_icmp .ne 10, 3) := by decide +kernel
theorem dX8_frequencyOf_20 : decode cX8_frequencyOf 20 = .ok (.aload_n 0, 1) := by decide +kernel
theorem dX8_frequencyOf_21 : decode cX8_frequencyOf 21 = .ok (.getfield 29, 3) := by decide +kernel
theorem dX8_frequencyOf_24 : decode cX8_frequencyOf 24 = .ok (.iload_n 2, 1) := by decide +kernel
theorem dX8_frequencyOf_25 : decode cX8_frequencyOf 25 = .ok (.iaload, 1) := by decide +kernel
theorem dX8_frequencyOf_26 : decode cX8_frequencyOf 26 = .ok (.ireturn, 1) := by decide +kernel
theorem dX8_frequencyOf_27 : decode cX8_frequencyOf 27 = .ok (.iinc 2 1, 3) := by decide +kernel
theorem dX8_frequencyOf_30 : decode cX8_frequencyOf 30 = .ok (.goto (-28), 3) := by decide +kernel
theorem dX8_frequencyOf_33 : decode cX8_frequencyOf 33 = .ok (.iconst 0, 1) := by decide +kernel
theorem dX8_frequencyOf_34 : decode cX8_frequencyOf 34 = .ok (.ireturn, 1) := by decide +kernel
theorem dX8_isAhead_0 : decode cX8_isAhead 0 = .ok (.aload_n 0, 1) := by decide +kernel
theorem dX8_isAhead_1 : decode cX8_isAhead 1 = .ok (.iload_n 1, 1) := by decide +kernel
theorem dX8_isAhead_2 : decode cX8_isAhead 2 = .ok (.invokevirtual 106, 3) := by decide +kernel
theorem dX8_isAhead_5 : decode cX8_isAhead 5 = .ok (.istore_n 3, 1) := by decide +kernel
theorem dX8_isAhead_6 : decode cX8_isAhead 6 = .ok (.aload_n 0, 1) := by decide +kernel
theorem dX8_isAhead_7 : decode cX8_isAhead 7 = .ok (.iload_n 2, 1) := by decide +kernel
theorem dX8_isAhead_8 : decode cX8_isAhead 8 = .ok (.invokevirtual 106, 3) := by decide +kernel
theorem dX8_isAhead_11 : decode cX8_isAhead 11 = .ok (.istore 4, 2) := by decide +kernel
theorem dX8_isAhead_13 : decode cX8_isAhead 13 = .ok (.iload_n 3, 1) := by decide +kernel
theorem dX8_isAhead_14 : decode cX8_isAhead 14 = .ok (.iload 4, 2) := by decide +kernel
theorem dX8_isAhead_16 : decode cX8_isAhead 16 = .ok (.if_icmp .eq 17, 3) := by decide +kernel
theorem dX8_isAhead_19 : decode cX8_isAhead 19 = .ok (.iload_n 3, 1) := by decide +kernel
theorem dX8_isAhead_20 : decode cX8_isAhead 20 = .ok (.iload 4, 2) := by decide +kernel
theorem dX8_isAhead_22 : decode cX8_isAhead 22 = .ok (.if_icmp .ge 7, 3) := by decide +kernel
