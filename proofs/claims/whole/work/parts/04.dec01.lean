theorem dX0_init_0 : decode cX0_init 0 = .ok (.aload_n 0, 1) := by decide +kernel
theorem dX0_init_1 : decode cX0_init 1 = .ok (.invokespecial 3, 3) := by decide +kernel
theorem dX0_init_4 : decode cX0_init 4 = .ok (.aload_n 0, 1) := by decide +kernel
theorem dX0_init_5 : decode cX0_init 5 = .ok (.sipush 1770, 3) := by decide +kernel
theorem dX0_init_8 : decode cX0_init 8 = .ok (.newarray .int, 2) := by decide +kernel
theorem dX0_init_10 : decode cX0_init 10 = .ok (.putfield 9, 3) := by decide +kernel
theorem dX0_init_13 : decode cX0_init 13 = .ok (.aload_n 0, 1) := by decide +kernel
theorem dX0_init_14 : decode cX0_init 14 = .ok (.sipush 1770, 3) := by decide +kernel
theorem dX0_init_17 : decode cX0_init 17 = .ok (.newarray .int, 2) := by decide +kernel
theorem dX0_init_19 : decode cX0_init 19 = .ok (.putfield 15, 3) := by decide +kernel
theorem dX0_init_22 : decode cX0_init 22 = .ok (.aload_n 0, 1) := by decide +kernel
theorem dX0_init_23 : decode cX0_init 23 = .ok (.sipush 1770, 3) := by decide +kernel
theorem dX0_init_26 : decode cX0_init 26 = .ok (.newarray .int, 2) := by decide +kernel
theorem dX0_init_28 : decode cX0_init 28 = .ok (.putfield 18, 3) := by decide +kernel
theorem dX0_init_31 : decode cX0_init 31 = .ok (.aload_n 0, 1) := by decide +kernel
theorem dX0_init_32 : decode cX0_init 32 = .ok (.bipush 100, 2) := by decide +kernel
theorem dX0_init_34 : decode cX0_init 34 = .ok (.newarray .long, 2) := by decide +kernel
theorem dX0_init_36 : decode cX0_init 36 = .ok (.putfield 21, 3) := by decide +kernel
theorem dX0_init_39 : decode cX0_init 39 = .ok (.aload_n 0, 1) := by decide +kernel
theorem dX0_init_40 : decode cX0_init 40 = .ok (.bipush 100, 2) := by decide +kernel
theorem dX0_init_42 : decode cX0_init 42 = .ok (.newarray .long, 2) := by decide +kernel
theorem dX0_init_44 : decode cX0_init 44 = .ok (.putfield 25, 3) := by decide +kernel
theorem dX0_init_47 : decode cX0_init 47 = .ok (.return_, 1) := by decide +kernel
theorem dX0_clear_0 : decode cX0_clear 0 = .ok (.aload_n 0, 1) := by decide +kernel
theorem dX0_clear_1 : decode cX0_clear 1 = .ok (.iconst 0, 1) := by decide +kernel
theorem dX0_clear_2 : decode cX0_clear 2 = .ok (.putfield 28, 3) := by decide +kernel
theorem dX0_clear_5 : decode cX0_clear 5 = .ok (.return_, 1) := by decide +kernel
theorem dX0_append_0 : decode cX0_append 0 = .ok (.aload_n 0, 1) := by decide +kernel
theorem dX0_append_1 : decode cX0_append 1 = .ok (.getfield 28, 3) := by decide +kernel
theorem dX0_append_4 : decode cX0_append 4 = .ok (.sipush 1770, 3) := by decide +kernel
theorem dX0_append_7 : decode cX0_append 7 = .ok (.if_icmp .ge 26, 3) := by decide +kernel
theorem dX0_append_10 : decode cX0_append 10 = .ok (.aload_n 0, 1) := by decide +kernel
theorem dX0_append_11 : decode cX0_append 11 = .ok (.dup, 1) := by decide +kernel
theorem dX0_append_12 : decode cX0_append 12 = .ok (.getfield 28, 3) := by decide +kernel
theorem dX0_append_15 : decode cX0_append 15 = .ok (.iconst 1, 1) := by decide +kernel
theorem dX0_append_16 : decode cX0_append 16 = .ok (.iadd, 1) := by decide +kernel
theorem dX0_append_17 : decode cX0_append 17 = .ok (.putfield 28, 3) := by decide +kernel
theorem dX0_append_20 : decode cX0_append 20 = .ok (.aload_n 0, 1) := by decide +kernel
theorem dX0_append_21 : decode cX0_append 21 = .ok (.aload_n 0, 1) := by decide +kernel
theorem dX0_append_22 : decode cX0_append 22 = .ok (.getfield 28, 3) := by decide +kernel
theorem dX0_append_25 : decode cX0_append 25 = .ok (.iconst 1, 1) := by decide +kernel
theorem dX0_append_26 : decode cX0_append 26 = .ok (.isub, 1) := by decide +kernel
theorem dX0_append_27 : decode cX0_append 27 = .ok (.iload_n 1, 1) := by decide +kernel
theorem dX0_append_28 : decode cX0_append 28 = .ok (.iload_n 2, 1) := by decide +kernel
theorem dX0_append_29 : decode cX0_append 29 = .ok (.iload_n 3, 1) := by decide +kernel
theorem dX0_append_30 : decode cX0_append 30 = .ok (.invokevirtual 32, 3) := by decide +kernel
theorem dX0_append_33 : decode cX0_append 33 = .ok (.return_, 1) := by decide +kernel
theorem dX0_set_0 : decode cX0_set 0 = .ok (.iload_n 1, 1) := by decide +kernel
theorem dX0_set_1 : decode cX0_set 1 = .ok (.ifCond .lt 33, 3) := by decide +kernel
theorem dX0_set_4 : decode cX0_set 4 = .ok (.iload_n 1, 1) := by decide +kernel
theorem dX0_set_5 : decode cX0_set 5 = .ok (.aload_n 0, 1) := by decide +kernel
theorem dX0_set_6 : decode cX0_set 6 = .ok (.getfield 28, 3) := by decide +kernel
theorem dX0_set_9 : decode cX0_set 9 = .ok (.if_icmp .ge 25, 3) := by decide +kernel
theorem dX0_set_12 : decode cX0_set 12 = .ok (.aload_n 0, 1) := by decide +kernel
theorem dX0_set_13 : decode cX0_set 13 = .ok (.getfield 9, 3) := by decide +kernel
theorem dX0_set_16 : decode cX0_set 16 = .ok (.iload_n 1, 1) := by decide +kernel
theorem dX0_set_17 : decode cX0_set 17 = .ok (.iload_n 2, 1) := by decide +kernel
theorem dX0_set_18 : decode cX0_set 18 = .ok (.iastore, 1) := by decide +kernel
theorem dX0_set_19 : decode cX0_set 19 = .ok (.aload_n 0, 1) := by decide +kernel
theorem dX0_set_20 : decode cX0_set 20 = .ok (.getfield 15, 3) := by decide +kernel
theorem dX0_set_23 : decode cX0_set 23 = .ok (.iload_n 1, 1) := by decide +kernel
theorem dX0_set_24 : decode cX0_set 24 = .ok (.iload_n 3, 1) := by decide +kernel
theorem dX0_set_25 : decode cX0_set 25 = .ok (.iastore, 1) := by decide +kernel
theorem dX0_set_26 : decode cX0_set 26 = .ok (.aload_n 0, 1) := by decide +kernel
theorem dX0_set_27 : decode cX0_set 27 = .ok (.getfield 18, 3) := by decide +kernel
theorem dX0_set_30 : decode cX0_set 30 = .ok (.iload_n 1, 1) := by decide +kernel
theorem dX0_set_31 : decode cX0_set 31 = .ok (.iload 4, 2) := by decide +kernel
theorem dX0_set_33 : decode cX0_set 33 = .ok (.iastore, 1) := by decide +kernel
theorem dX0_set_34 : decode cX0_set 34 = .ok (.return_, 1) := by decide +kernel
theorem dX0_setLikeness_0 : decode cX0_setLikeness 0 = .ok (.iload_n 1, 1) := by decide +kernel
theorem dX0_setLikeness_1 : decode cX0_setLikeness 1 = .ok (.ifCond .lt 24, 3) := by decide +kernel
theorem dX0_setLikeness_4 : decode cX0_setLikeness 4 = .ok (.iload_n 1, 1) := by decide +kernel
theorem dX0_setLikeness_5 : decode cX0_setLikeness 5 = .ok (.bipush 100, 2) := by decide +kernel
theorem dX0_setLikeness_7 : decode cX0_setLikeness 7 = .ok (.if_icmp .ge 18, 3) := by decide +kernel
theorem dX0_setLikeness_10 : decode cX0_setLikeness 10 = .ok (.aload_n 0, 1) := by decide +kernel
theorem dX0_setLikeness_11 : decode cX0_setLikeness 11 = .ok (.getfield 21, 3) := by decide +kernel
theorem dX0_setLikeness_14 : decode cX0_setLikeness 14 = .ok (.iload_n 1, 1) := by decide +kernel
theorem dX0_setLikeness_15 : decode cX0_setLikeness 15 = .ok (.lload_n 2, 1) := by decide +kernel
theorem dX0_setLikeness_16 : decode cX0_setLikeness 16 = .ok (.lastore, 1) := by decide +kernel
theorem dX0_setLikeness_17 : decode cX0_setLikeness 17 = .ok (.aload_n 0, 1) := by decide +kernel
theorem dX0_setLikeness_18 : decode cX0_setLikeness 18 = .ok (.getfield 25, 3) := by decide +kernel
theorem dX0_setLikeness_21 : decode cX0_setLikeness 21 = .ok (.iload_n 1, 1) := by decide +kernel
theorem dX0_setLikeness_22 : decode cX0_setLikeness 22 = .ok (.lload 4, 2) := by decide +kernel
theorem dX0_setLikeness_24 : decode cX0_setLikeness 24 = .ok (.lastore, 1) := by decide +kernel
theorem dX0_setLikeness_25 : decode cX0_setLikeness 25 = .ok (.return_, 1) := by decide +kernel
theorem dX0_placeFor_0 : decode cX0_placeFor 0 = .ok (.iconst 0, 1) := by decide +kernel
theorem dX0_placeFor_1 : decode cX0_placeFor 1 = .ok (.istore 5, 2) := by decide +kernel
theorem dX0_placeFor_3 : decode cX0_placeFor 3 = .ok (.aload_n 0, 1) := by decide +kernel
theorem dX0_placeFor_4 : decode cX0_placeFor 4 = .ok (.getfield 28, 3) := by decide +kernel
theorem dX0_placeFor_7 : decode cX0_placeFor 7 = .ok (.bipush 100, 2) := by decide +kernel
theorem dX0_placeFor_9 : decode cX0_placeFor 9 = .ok (.invokestatic 36, 3) := by decide +kernel
theorem dX0_placeFor_12 : decode cX0_placeFor 12 = .ok (.istore 6, 2) := by decide +kernel
theorem dX0_placeFor_14 : decode cX0_placeFor 14 = .ok (.iload 5, 2) := by decide +kernel
theorem dX0_placeFor_16 : decode cX0_placeFor 16 = .ok (.iload 6, 2) := by decide +kernel
theorem dX0_placeFor_18 : decode cX0_placeFor 18 = .ok (.if_icmp .ge 50, 3) := by decide +kernel
theorem dX0_placeFor_21 : decode cX0_placeFor 21 = .ok (.iload 5, 2) := by decide +kernel
theorem dX0_placeFor_23 : decode cX0_placeFor 23 = .ok (.iload 6, 2) := by decide +kernel
theorem dX0_placeFor_25 : decode cX0_placeFor 25 = .ok (.iadd, 1) := by decide +kernel
theorem dX0_placeFor_26 : decode cX0_placeFor 26 = .ok (.iconst 1, 1) := by decide +kernel
theorem dX0_placeFor_27 : decode cX0_placeFor 27 = .ok (.iushr, 1) := by decide +kernel
theorem dX0_placeFor_28 : decode cX0_placeFor 28 = .ok (.istore 7, 2) := by decide +kernel
theorem dX0_placeFor_30 : decode cX0_placeFor 30 = .ok (.aload_n 0, 1) := by decide +kernel
theorem dX0_placeFor_31 : decode cX0_placeFor 31 = .ok (.getfield 21, 3) := by decide +kernel
theorem dX0_placeFor_34 : decode cX0_placeFor 34 = .ok (.iload 7, 2) := by decide +kernel
theorem dX0_placeFor_36 : decode cX0_placeFor 36 = .ok (.laload, 1) := by decide +kernel
theorem dX0_placeFor_37 : decode cX0_placeFor 37 = .ok (.lload_n 3, 1) := by decide +kernel
theorem dX0_placeFor_38 : decode cX0_placeFor 38 = .ok (.lmul, 1) := by decide +kernel
theorem dX0_placeFor_39 : decode cX0_placeFor 39 = .ok (.lload_n 1, 1) := by decide +kernel
theorem dX0_placeFor_40 : decode cX0_placeFor 40 = .ok (.aload_n 0, 1) := by decide +kernel
theorem dX0_placeFor_41 : decode cX0_placeFor 41 = .ok (.getfield 25, 3) := by decide +kernel
theorem dX0_placeFor_44 : decode cX0_placeFor 44 = .ok (.iload 7, 2) := by decide +kernel
theorem dX0_placeFor_46 : decode cX0_placeFor 46 = .ok (.laload, 1) := by decide +kernel
theorem dX0_placeFor_47 : decode cX0_placeFor 47 = .ok (.lmul, 1) := by decide +kernel
theorem dX0_placeFor_48 : decode cX0_placeFor 48 = .ok (.lcmp, 1) := by decide +kernel
theorem dX0_placeFor_49 : decode cX0_placeFor 49 = .ok (.ifCond .lt 12, 3) := by decide +kernel
theorem dX0_placeFor_52 : decode cX0_placeFor 52 = .ok (.iload 7, 2) := by decide +kernel
theorem dX0_placeFor_54 : decode cX0_placeFor 54 = .ok (.iconst 1, 1) := by decide +kernel
theorem dX0_placeFor_55 : decode cX0_placeFor 55 = .ok (.iadd, 1) := by decide +kernel
theorem dX0_placeFor_56 : decode cX0_placeFor 56 = .ok (.istore 5, 2) := by decide +kernel
theorem dX0_placeFor_58 : decode cX0_placeFor 58 = .ok (.goto 7, 3) := by decide +kernel
theorem dX0_placeFor_61 : decode cX0_placeFor 61 = .ok (.iload 7, 2) := by decide +kernel
theorem dX0_placeFor_63 : decode cX0_placeFor 63 = .ok (.istore 6, 2) := by decide +kernel
theorem dX0_placeFor_65 : decode cX0_placeFor 65 = .ok (.goto (-51), 3) := by decide +kernel
theorem dX0_placeFor_68 : decode cX0_placeFor 68 = .ok (.iload 5, 2) := by decide +kernel
theorem dX0_placeFor_70 : decode cX0_placeFor 70 = .ok (.ireturn, 1) := by decide +kernel
theorem dX0_makeRoom_0 : decode cX0_makeRoom 0 = .ok (.iload_n 1, 1) := by decide +kernel
theorem dX0_makeRoom_1 : decode cX0_makeRoom 1 = .ok (.ifCond .lt 22, 3) := by decide +kernel
theorem dX0_makeRoom_4 : decode cX0_makeRoom 4 = .ok (.iload_n 1, 1) := by decide +kernel
theorem dX0_makeRoom_5 : decode cX0_makeRoom 5 = .ok (.aload_n 0, 1) := by decide +kernel
theorem dX0_makeRoom_6 : decode cX0_makeRoom 6 = .ok (.getfield 28, 3) := by decide +kernel
theorem dX0_makeRoom_9 : decode cX0_makeRoom 9 = .ok (.if_icmp .gt 14, 3) := by decide +kernel
theorem dX0_makeRoom_12 : decode cX0_makeRoom 12 = .ok (.iload_n 1, 1) := by decide +kernel
theorem dX0_makeRoom_13 : decode cX0_makeRoom 13 = .ok (.iload_n 2, 1) := by decide +kernel
theorem dX0_makeRoom_14 : decode cX0_makeRoom 14 = .ok (.if_icmp .ge 9, 3) := by decide +kernel
theorem dX0_makeRoom_17 : decode cX0_makeRoom 17 = .ok (.iload_n 2, 1) := by decide +kernel
theorem dX0_makeRoom_18 : decode cX0_makeRoom 18 = .ok (.bipush 100, 2) := by decide +kernel
theorem dX0_makeRoom_20 : decode cX0_makeRoom 20 = .ok (.if_icmp .le 4, 3) := by decide +kernel
theorem dX0_makeRoom_23 : decode cX0_makeRoom 23 = .ok (.return_, 1) := by decide +kernel
theorem dX0_makeRoom_24 : decode cX0_makeRoom 24 = .ok (.aload_n 0, 1) := by decide +kernel
theorem dX0_makeRoom_25 : decode cX0_makeRoom 25 = .ok (.getfield 28, 3) := by decide +kernel
theorem dX0_makeRoom_28 : decode cX0_makeRoom 28 = .ok (.iload_n 2, 1) := by decide +kernel
theorem dX0_makeRoom_29 : decode cX0_makeRoom 29 = .ok (.iconst 1, 1) := by decide +kernel
theorem dX0_makeRoom_30 : decode cX0_makeRoom 30 = .ok (.isub, 1) := by decide +kernel
theorem dX0_makeRoom_31 : decode cX0_makeRoom 31 = .ok (.invokestatic 36, 3) := by decide +kernel
theorem dX0_makeRoom_34 : decode cX0_makeRoom 34 = .ok (.iload_n 1, 1) := by decide +kernel
theorem dX0_makeRoom_35 : decode cX0_makeRoom 35 = .ok (.isub, 1) := by decide +kernel
theorem dX0_makeRoom_36 : decode cX0_makeRoom 36 = .ok (.istore_n 3, 1) := by decide +kernel
theorem dX0_makeRoom_37 : decode cX0_makeRoom 37 = .ok (.aload_n 0, 1) := by decide +kernel
theorem dX0_makeRoom_38 : decode cX0_makeRoom 38 = .ok (.getfield 9, 3) := by decide +kernel
theorem dX0_makeRoom_41 : decode cX0_makeRoom 41 = .ok (.iload_n 1, 1) := by decide +kernel
theorem dX0_makeRoom_42 : decode cX0_makeRoom 42 = .ok (.aload_n 0, 1) := by decide +kernel
theorem dX0_makeRoom_43 : decode cX0_makeRoom 43 = .ok (.getfield 9, 3) := by decide +kernel
theorem dX0_makeRoom_46 : decode cX0_makeRoom 46 = .ok (.iload_n 1, 1) := by decide +kernel
theorem dX0_makeRoom_47 : decode cX0_makeRoom 47 = .ok (.iconst 1, 1) := by decide +kernel
theorem dX0_makeRoom_48 : decode cX0_makeRoom 48 = .ok (.iadd, 1) := by decide +kernel
theorem dX0_makeRoom_49 : decode cX0_makeRoom 49 = .ok (.iload_n 3, 1) := by decide +kernel
theorem dX0_makeRoom_50 : decode cX0_makeRoom 50 = .ok (.invokestatic 42, 3) := by decide +kernel
theorem dX0_makeRoom_53 : decode cX0_makeRoom 53 = .ok (.aload_n 0, 1) := by decide +kernel
theorem dX0_makeRoom_54 : decode cX0_makeRoom 54 = .ok (.getfield 15, 3) := by decide +kernel
theorem dX0_makeRoom_57 : decode cX0_makeRoom 57 = .ok (.iload_n 1, 1) := by decide +kernel
theorem dX0_makeRoom_58 : decode cX0_makeRoom 58 = .ok (.aload_n 0, 1) := by decide +kernel
theorem dX0_makeRoom_59 : decode cX0_makeRoom 59 = .ok (.getfield 15, 3) := by decide +kernel
theorem dX0_makeRoom_62 : decode cX0_makeRoom 62 = .ok (.iload_n 1, 1) := by decide +kernel
theorem dX0_makeRoom_63 : decode cX0_makeRoom 63 = .ok (.iconst 1, 1) := by decide +kernel
theorem dX0_makeRoom_64 : decode cX0_makeRoom 64 = .ok (.iadd, 1) := by decide +kernel
theorem dX0_makeRoom_65 : decode cX0_makeRoom 65 = .ok (.iload_n 3, 1) := by decide +kernel
theorem dX0_makeRoom_66 : decode cX0_makeRoom 66 = .ok (.invokestatic 42, 3) := by decide +kernel
theorem dX0_makeRoom_69 : decode cX0_makeRoom 69 = .ok (.aload_n 0, 1) := by decide +kernel
theorem dX0_makeRoom_70 : decode cX0_makeRoom 70 = .ok (.getfield 18, 3) := by decide +kernel
theorem dX0_makeRoom_73 : decode cX0_makeRoom 73 = .ok (.iload_n 1, 1) := by decide +kernel
theorem dX0_makeRoom_74 : decode cX0_makeRoom 74 = .ok (.aload_n 0, 1) := by decide +kernel
theorem dX0_makeRoom_75 : decode cX0_makeRoom 75 = .ok (.getfield 18, 3) := by decide +kernel
theorem dX0_makeRoom_78 : decode cX0_makeRoom 78 = .ok (.iload_n 1, 1) := by decide +kernel
theorem dX0_makeRoom_79 : decode cX0_makeRoom 79 = .ok (.iconst 1, 1) := by decide +kernel
theorem dX0_makeRoom_80 : decode cX0_makeRoom 80 = .ok (.iadd, 1) := by decide +kernel
theorem dX0_makeRoom_81 : decode cX0_makeRoom 81 = .ok (.iload_n 3, 1) := by decide +kernel
theorem dX0_makeRoom_82 : decode cX0_makeRoom 82 = .ok (.invokestatic 42, 3) := by decide +kernel
theorem dX0_makeRoom_85 : decode cX0_makeRoom 85 = .ok (.aload_n 0, 1) := by decide +kernel
theorem dX0_makeRoom_86 : decode cX0_makeRoom 86 = .ok (.getfield 21, 3) := by decide +kernel
theorem dX0_makeRoom_89 : decode cX0_makeRoom 89 = .ok (.iload_n 1, 1) := by decide +kernel
theorem dX0_makeRoom_90 : decode cX0_makeRoom 90 = .ok (.aload_n 0, 1) := by decide +kernel
theorem dX0_makeRoom_91 : decode cX0_makeRoom 91 = .ok (.getfield 21, 3) := by decide +kernel
theorem dX0_makeRoom_94 : decode cX0_makeRoom 94 = .ok (.iload_n 1, 1) := by decide +kernel
theorem dX0_makeRoom_95 : decode cX0_makeRoom 95 = .ok (.iconst 1, 1) := by decide +kernel
theorem dX0_makeRoom_96 : decode cX0_makeRoom 96 = .ok (.iadd, 1) := by decide +kernel
theorem dX0_makeRoom_97 : decode cX0_makeRoom 97 = .ok (.iload_n 3, 1) := by decide +kernel
theorem dX0_makeRoom_98 : decode cX0_makeRoom 98 = .ok (.invokestatic 42, 3) := by decide +kernel
theorem dX0_makeRoom_101 : decode cX0_makeRoom 101 = .ok (.aload_n 0, 1) := by decide +kernel
theorem dX0_makeRoom_102 : decode cX0_makeRoom 102 = .ok (.getfield 25, 3) := by decide +kernel
theorem dX0_makeRoom_105 : decode cX0_makeRoom 105 = .ok (.iload_n 1, 1) := by decide +kernel
theorem dX0_makeRoom_106 : decode cX0_makeRoom 106 = .ok (.aload_n 0, 1) := by decide +kernel
theorem dX0_makeRoom_107 : decode cX0_makeRoom 107 = .ok (.getfield 25, 3) := by decide +kernel
theorem dX0_makeRoom_110 : decode cX0_makeRoom 110 = .ok (.iload_n 1, 1) := by decide +kernel
theorem dX0_makeRoom_111 : decode cX0_makeRoom 111 = .ok (.iconst 1, 1) := by decide +kernel
theorem dX0_makeRoom_112 : decode cX0_makeRoom 112 = .ok (.iadd, 1) := by decide +kernel
theorem dX0_makeRoom_113 : decode cX0_makeRoom 113 = .ok (.iload_n 3, 1) := by decide +kernel
theorem dX0_makeRoom_114 : decode cX0_makeRoom 114 = .ok (.invokestatic 42, 3) := by decide +kernel
theorem dX0_makeRoom_117 : decode cX0_makeRoom 117 = .ok (.aload_n 0, 1) := by decide +kernel
theorem dX0_makeRoom_118 : decode cX0_makeRoom 118 = .ok (.iload_n 1, 1) := by decide +kernel
theorem dX0_makeRoom_119 : decode cX0_makeRoom 119 = .ok (.iload_n 3, 1) := by decide +kernel
theorem dX0_makeRoom_120 : decode cX0_makeRoom 120 = .ok (.iadd, 1) := by decide +kernel
theorem dX0_makeRoom_121 : decode cX0_makeRoom 121 = .ok (.iconst 1, 1) := by decide +kernel
theorem dX0_makeRoom_122 : decode cX0_makeRoom 122 = .ok (.iadd, 1) := by decide +kernel
theorem dX0_makeRoom_123 : decode cX0_makeRoom 123 = .ok (.putfield 28, 3) := by decide +kernel
theorem dX0_makeRoom_126 : decode cX0_makeRoom 126 = .ok (.return_, 1) := by decide +kernel
theorem dX1_init_0 : decode cX1_init 0 = .ok (.aload_n 0, 1) := by decide +kernel
theorem dX1_init_1 : decode cX1_init 1 = .ok (.invokespecial 3, 3) := by decide +kernel
theorem dX1_init_4 : decode cX1_init 4 = .ok (.aload_n 0, 1) := by decide +kernel
theorem dX1_init_5 : decode cX1_init 5 = .ok (.iconst 1, 1) := by decide +kernel
theorem dX1_init_6 : decode cX1_init 6 = .ok (.putfield 9, 3) := by decide +kernel
theorem dX1_init_9 : decode cX1_init 9 = .ok (.aload_n 0, 1) := by decide +kernel
theorem dX1_init_10 : decode cX1_init 10 = .ok (.iconst 1, 1) := by decide +kernel
theorem dX1_init_11 : decode cX1_init 11 = .ok (.putfield 15, 3) := by decide +kernel
theorem dX1_init_14 : decode cX1_init 14 = .ok (.aload_n 0, 1) := by decide +kernel
theorem dX1_init_15 : decode cX1_init 15 = .ok (.iconst 2, 1) := by decide +kernel
theorem dX1_init_16 : decode cX1_init 16 = .ok (.putfield 18, 3) := by decide +kernel
theorem dX1_init_19 : decode cX1_init 19 = .ok (.return_, 1) := by decide +kernel
theorem dX1_tell_0 : decode cX1_tell 0 = .ok (.iload_n 1, 1) := by decide +kernel
theorem dX1_tell_1 : decode cX1_tell 1 = .ok (.iload_n 2, 1) := by decide +kernel
theorem dX1_tell_2 : decode cX1_tell 2 = .ok (.iload_n 3, 1) := by decide +kernel
theorem dX1_tell_3 : decode cX1_tell 3 = .ok (.invokestatic 21, 3) := by decide +kernel
theorem dX1_tell_6 : decode cX1_tell 6 = .ok (.ifCond .ne 5, 3) := by decide +kernel
theorem dX1_tell_9 : decode cX1_tell 9 = .ok (.iconst 0, 1) := by decide +kernel
theorem dX1_tell_10 : decode cX1_tell 10 = .ok (.ireturn, 1) := by decide +kernel
theorem dX1_tell_11 : decode cX1_tell 11 = .ok (.aload_n 0, 1) := by decide +kernel
theorem dX1_tell_12 : decode cX1_tell 12 = .ok (.iload_n 1, 1) := by decide +kernel
theorem dX1_tell_13 : decode cX1_tell 13 = .ok (.putfield 9, 3) := by decide +kernel
theorem dX1_tell_16 : decode cX1_tell 16 = .ok (.aload_n 0, 1) := by decide +kernel
theorem dX1_tell_17 : decode cX1_tell 17 = .ok (.iload_n 2, 1) := by decide +kernel
theorem dX1_tell_18 : decode cX1_tell 18 = .ok (.putfield 15, 3) := by decide +kernel
theorem dX1_tell_21 : decode cX1_tell 21 = .ok (.aload_n 0, 1) := by decide +kernel
theorem dX1_tell_22 : decode cX1_tell 22 = .ok (.iload_n 3, 1) := by decide +kernel
theorem dX1_tell_23 : decode cX1_tell 23 = .ok (.putfield 18, 3) := by decide +kernel
theorem dX1_tell_26 : decode cX1_tell 26 = .ok (.iconst 1, 1) := by decide +kernel
theorem dX1_tell_27 : decode cX1_tell 27 = .ok (.ireturn, 1) := by decide +kernel
theorem dX1_isAllowed_0 : decode cX1_isAllowed 0 = .ok (.iload_n 0, 1) := by decide +kernel
theorem dX1_isAllowed_1 : decode cX1_isAllowed 1 = .ok (.ifCond .ne 26, 3) := by decide +kernel
theorem dX1_isAllowed_4 : decode cX1_isAllowed 4 = .ok (.iload_n 1, 1) := by decide +kernel
theorem dX1_isAllowed_5 : decode cX1_isAllowed 5 = .ok (.iconst 1, 1) := by decide +kernel
theorem dX1_isAllowed_6 : decode cX1_isAllowed 6 = .ok (.if_icmp .lt 19, 3) := by decide +kernel
theorem dX1_isAllowed_9 : decode cX1_isAllowed 9 = .ok (.iload_n 1, 1) := by decide +kernel
theorem dX1_isAllowed_10 : decode cX1_isAllowed 10 = .ok (.sipush 3000, 3) := by decide +kernel
theorem dX1_isAllowed_13 : decode cX1_isAllowed 13 = .ok (.if_icmp .gt 12, 3) := by decide +kernel
theorem dX1_isAllowed_16 : decode cX1_isAllowed 16 = .ok (.iload_n 2, 1) := by decide +kernel
theorem dX1_isAllowed_17 : decode cX1_isAllowed 17 = .ok (.iconst 1, 1) := by decide +kernel
theorem dX1_isAllowed_18 : decode cX1_isAllowed 18 = .ok (.if_icmp .ne 7, 3) := by decide +kernel
theorem dX1_isAllowed_21 : decode cX1_isAllowed 21 = .ok (.iconst 1, 1) := by decide +kernel
theorem dX1_isAllowed_22 : decode cX1_isAllowed 22 = .ok (.goto 4, 3) := by decide +kernel
theorem dX1_isAllowed_25 : decode cX1_isAllowed 25 = .ok (.iconst 0, 1) := by decide +kernel
theorem dX1_isAllowed_26 : decode cX1_isAllowed 26 = .ok (.ireturn, 1) := by decide +kernel
theorem dX1_isAllowed_27 : decode cX1_isAllowed 27 = .ok (.iload_n 0, 1) := by decide +kernel
theorem dX1_isAllowed_28 : decode cX1_isAllowed 28 = .ok (.iconst 1, 1) := by decide +kernel
theorem dX1_isAllowed_29 : decode cX1_isAllowed 29 = .ok (.if_icmp .lt 29, 3) := by decide +kernel
theorem dX1_isAllowed_32 : decode cX1_isAllowed 32 = .ok (.iload_n 0, 1) := by decide +kernel
theorem dX1_isAllowed_33 : decode cX1_isAllowed 33 = .ok (.iconst 5, 1) := by decide +kernel
theorem dX1_isAllowed_34 : decode cX1_isAllowed 34 = .ok (.if_icmp .gt 24, 3) := by decide +kernel
theorem dX1_isAllowed_37 : decode cX1_isAllowed 37 = .ok (.iload_n 1, 1) := by decide +kernel
theorem dX1_isAllowed_38 : decode cX1_isAllowed 38 = .ok (.iconst 1, 1) := by decide +kernel
theorem dX1_isAllowed_39 : decode cX1_isAllowed 39 = .ok (.if_icmp .lt 19, 3) := by decide +kernel
theorem dX1_isAllowed_42 : decode cX1_isAllowed 42 = .ok (.iload_n 1, 1) := by decide +kernel
theorem dX1_isAllowed_43 : decode cX1_isAllowed 43 = .ok (.iload_n 2, 1) := by decide +kernel
theorem dX1_isAllowed_44 : decode cX1_isAllowed 44 = .ok (.if_icmp .gt 14, 3) := by decide +kernel
theorem dX1_isAllowed_47 : decode cX1_isAllowed 47 = .ok (.iload_n 2, 1) := by decide +kernel
theorem dX1_isAllowed_48 : decode cX1_isAllowed 48 = .ok (.sipush 1000, 3) := by decide +kernel
theorem dX1_isAllowed_51 : decode cX1_isAllowed 51 = .ok (.if_icmp .gt 7, 3) := by decide +kernel
theorem dX1_isAllowed_54 : decode cX1_isAllowed 54 = .ok (.iconst 1, 1) := by decide +kernel
theorem dX1_isAllowed_55 : decode cX1_isAllowed 55 = .ok (.goto 4, 3) := by decide +kernel
theorem dX1_isAllowed_58 : decode cX1_isAllowed 58 = .ok (.iconst 0, 1) := by decide +kernel
theorem dX1_isAllowed_59 : decode cX1_isAllowed 59 = .ok (.ireturn, 1) := by decide +kernel
theorem dX1_needed_0 : decode cX1_needed 0 = .ok (.aload_n 0, 1) := by decide +kernel
theorem dX1_needed_1 : decode cX1_needed 1 = .ok (.getfield 9, 3) := by decide +kernel
theorem dX1_needed_4 : decode cX1_needed 4 = .ok (.tableswitch 114 0 4 #[36, 114, 42, 64, 94], 36) := by decide +kernel
theorem dX1_needed_40 : decode cX1_needed 40 = .ok (.aload_n 0, 1) := by decide +kernel
theorem dX1_needed_41 : decode cX1_needed 41 = .ok (.getfield 15, 3) := by decide +kernel
theorem dX1_needed_44 : decode cX1_needed 44 = .ok (.i2l, 1) := by decide +kernel
theorem dX1_needed_45 : decode cX1_needed 45 = .ok (.lreturn, 1) := by decide +kernel
theorem dX1_needed_46 : decode cX1_needed 46 = .ok (.aload_n 0, 1) := by decide +kernel
theorem dX1_needed_47 : decode cX1_needed 47 = .ok (.getfield 15, 3) := by decide +kernel
theorem dX1_needed_50 : decode cX1_needed 50 = .ok (.i2l, 1) := by decide +kernel
theorem dX1_needed_51 : decode cX1_needed 51 = .ok (.lload_n 1, 1) := by decide +kernel
theorem dX1_needed_52 : decode cX1_needed 52 = .ok (.lload_n 3, 1) := by decide +kernel
theorem dX1_needed_53 : decode cX1_needed 53 = .ok (.ladd, 1) := by decide +kernel
theorem dX1_needed_54 : decode cX1_needed 54 = .ok (.lmul, 1) := by decide +kernel
theorem dX1_needed_55 : decode cX1_needed 55 = .ok (.ldc2_w 25, 3) := by decide +kernel
theorem dX1_needed_58 : decode cX1_needed 58 = .ok (.aload_n 0, 1) := by decide +kernel
theorem dX1_needed_59 : decode cX1_needed 59 = .ok (.getfield 18, 3) := by decide +kernel
theorem dX1_needed_62 : decode cX1_needed 62 = .ok (.i2l, 1) := by decide +kernel
theorem dX1_needed_63 : decode cX1_needed 63 = .ok (.lmul, 1) := by decide +kernel
theorem dX1_needed_64 : decode cX1_needed 64 = .ok (.invokestatic 27, 3) := by decide +kernel
theorem dX1_needed_67 : decode cX1_needed 67 = .ok (.lreturn, 1) := by decide +kernel
theorem dX1_needed_68 : decode cX1_needed 68 = .ok (.aload_n 0, 1) := by decide +kernel
theorem dX1_needed_69 : decode cX1_needed 69 = .ok (.getfield 15, 3) := by decide +kernel
theorem dX1_needed_72 : decode cX1_needed 72 = .ok (.i2l, 1) := by decide +kernel
theorem dX1_needed_73 : decode cX1_needed 73 = .ok (.aload_n 0, 1) := by decide +kernel
theorem dX1_needed_74 : decode cX1_needed 74 = .ok (.getfield 15, 3) := by decide +kernel
theorem dX1_needed_77 : decode cX1_needed 77 = .ok (.i2l, 1) := by decide +kernel
theorem dX1_needed_78 : decode cX1_needed 78 = .ok (.lmul, 1) := by decide +kernel
theorem dX1_needed_79 : decode cX1_needed 79 = .ok (.lload_n 1, 1) := by decide +kernel
theorem dX1_needed_80 : decode cX1_needed 80 = .ok (.lmul, 1) := by decide +kernel
theorem dX1_needed_81 : decode cX1_needed 81 = .ok (.lload_n 3, 1) := by decide +kernel
theorem dX1_needed_82 : decode cX1_needed 82 = .ok (.lmul, 1) := by decide +kernel
theorem dX1_needed_83 : decode cX1_needed 83 = .ok (.aload_n 0, 1) := by decide +kernel
theorem dX1_needed_84 : decode cX1_needed 84 = .ok (.getfield 18, 3) := by decide +kernel
theorem dX1_needed_87 : decode cX1_needed 87 = .ok (.i2l, 1) := by decide +kernel
theorem dX1_needed_88 : decode cX1_needed 88 = .ok (.aload_n 0, 1) := by decide +kernel
theorem dX1_needed_89 : decode cX1_needed 89 = .ok (.getfield 18, 3) := by decide +kernel
theorem dX1_needed_92 : decode cX1_needed 92 = .ok (.i2l, 1) := by decide +kernel
theorem dX1_needed_93 : decode cX1_needed 93 = .ok (.lmul, 1) := by decide +kernel
theorem dX1_needed_94 : decode cX1_needed 94 = .ok (.invokestatic 31, 3) := by decide +kernel
theorem dX1_needed_97 : decode cX1_needed 97 = .ok (.lreturn, 1) := by decide +kernel
theorem dX1_needed_98 : decode cX1_needed 98 = .ok (.aload_n 0, 1) := by decide +kernel
theorem dX1_needed_99 : decode cX1_needed 99 = .ok (.getfield 15, 3) := by decide +kernel
theorem dX1_needed_102 : decode cX1_needed 102 = .ok (.i2l, 1) := by decide +kernel
theorem dX1_needed_103 : decode cX1_needed 103 = .ok (.lload_n 1, 1) := by decide +kernel
theorem dX1_needed_104 : decode cX1_needed 104 = .ok (.lload_n 3, 1) := by decide +kernel
theorem dX1_needed_105 : decode cX1_needed 105 = .ok (.invokestatic 34, 3) := by decide +kernel
theorem dX1_needed_108 : decode cX1_needed 108 = .ok (.lmul, 1) := by decide +kernel
theorem dX1_needed_109 : decode cX1_needed 109 = .ok (.aload_n 0, 1) := by decide +kernel
theorem dX1_needed_110 : decode cX1_needed 110 = .ok (.getfield 18, 3) := by decide +kernel
theorem dX1_needed_113 : decode cX1_needed 113 = .ok (.i2l, 1) := by decide +kernel
theorem dX1_needed_114 : decode cX1_needed 114 = .ok (.invokestatic 27, 3) := by decide +kernel
theorem dX1_needed_117 : decode cX1_needed 117 = .ok (.lreturn, 1) := by decide +kernel
theorem dX1_needed_118 : decode cX1_needed 118 = .ok (.aload_n 0, 1) := by decide +kernel
theorem dX1_needed_119 : decode cX1_needed 119 = .ok (.getfield 15, 3) := by decide +kernel
theorem dX1_needed_122 : decode cX1_needed 122 = .ok (.i2l, 1) := by decide +kernel
theorem dX1_needed_123 : decode cX1_needed 123 = .ok (.lload_n 1, 1) := by decide +kernel
theorem dX1_needed_124 : decode cX1_needed 124 = .ok (.lload_n 3, 1) := by decide +kernel
theorem dX1_needed_125 : decode cX1_needed 125 = .ok (.ladd, 1) := by decide +kernel
theorem dX1_needed_126 : decode cX1_needed 126 = .ok (.lmul, 1) := by decide +kernel
theorem dX1_needed_127 : decode cX1_needed 127 = .ok (.aload_n 0, 1) := by decide +kernel
theorem dX1_needed_128 : decode cX1_needed 128 = .ok (.getfield 15, 3) := by decide +kernel
theorem dX1_needed_131 : decode cX1_needed 131 = .ok (.aload_n 0, 1) := by decide +kernel
theorem dX1_needed_132 : decode cX1_needed 132 = .ok (.getfield 18, 3) := by decide +kernel
theorem dX1_needed_135 : decode cX1_needed 135 = .ok (.iadd, 1) := by decide +kernel
theorem dX1_needed_136 : decode cX1_needed 136 = .ok (.i2l, 1) := by decide +kernel
theorem dX1_needed_137 : decode cX1_needed 137 = .ok (.invokestatic 27, 3) := by decide +kernel
theorem dX1_needed_140 : decode cX1_needed 140 = .ok (.lreturn, 1) := by decide +kernel
theorem dX1_least_0 : decode cX1_least 0 = .ok (.aload_n 0, 1) := by decide +kernel
theorem dX1_least_1 : decode cX1_least 1 = .ok (.getfield 9, 3) := by decide +kernel
theorem dX1_least_4 : decode cX1_least 4 = .ok (.tableswitch 98 0 4 #[36, 98, 42, 68, 96], 36) := by decide +kernel
theorem dX1_least_40 : decode cX1_least 40 = .ok (.aload_n 0, 1) := by decide +kernel
theorem dX1_least_41 : decode cX1_least 41 = .ok (.getfield 15, 3) := by decide +kernel
theorem dX1_least_44 : decode cX1_least 44 = .ok (.i2l, 1) := by decide +kernel
theorem dX1_least_45 : decode cX1_least 45 = .ok (.lreturn, 1) := by decide +kernel
theorem dX1_least_46 : decode cX1_least 46 = .ok (.aload_n 0, 1) := by decide +kernel
theorem dX1_least_47 : decode cX1_least 47 = .ok (.getfield 15, 3) := by decide +kernel
theorem dX1_least_50 : decode cX1_least 50 = .ok (.i2l, 1) := by decide +kernel
theorem dX1_least_51 : decode cX1_least 51 = .ok (.lload_n 1, 1) := by decide +kernel
theorem dX1_least_52 : decode cX1_least 52 = .ok (.lmul, 1) := by decide +kernel
theorem dX1_least_53 : decode cX1_least 53 = .ok (.ldc2_w 25, 3) := by decide +kernel
theorem dX1_least_56 : decode cX1_least 56 = .ok (.aload_n 0, 1) := by decide +kernel
theorem dX1_least_57 : decode cX1_least 57 = .ok (.getfield 18, 3) := by decide +kernel
theorem dX1_least_60 : decode cX1_least 60 = .ok (.i2l, 1) := by decide +kernel
theorem dX1_least_61 : decode cX1_least 61 = .ok (.lmul, 1) := by decide +kernel
theorem dX1_least_62 : decode cX1_least 62 = .ok (.aload_n 0, 1) := by decide +kernel
theorem dX1_least_63 : decode cX1_least 63 = .ok (.getfield 15, 3) := by decide +kernel
theorem dX1_least_66 : decode cX1_least 66 = .ok (.i2l, 1) := by decide +kernel
theorem dX1_least_67 : decode cX1_least 67 = .ok (.lsub, 1) := by decide +kernel
theorem dX1_least_68 : decode cX1_least 68 = .ok (.invokestatic 27, 3) := by decide +kernel
theorem dX1_least_71 : decode cX1_least 71 = .ok (.lreturn, 1) := by decide +kernel
theorem dX1_least_72 : decode cX1_least 72 = .ok (.aload_n 0, 1) := by decide +kernel
theorem dX1_least_73 : decode cX1_least 73 = .ok (.getfield 15, 3) := by decide +kernel
theorem dX1_least_76 : decode cX1_least 76 = .ok (.i2l, 1) := by decide +kernel
theorem dX1_least_77 : decode cX1_least 77 = .ok (.aload_n 0, 1) := by decide +kernel
theorem dX1_least_78 : decode cX1_least 78 = .ok (.getfield 15, 3) := by decide +kernel
theorem dX1_least_81 : decode cX1_least 81 = .ok (.i2l, 1) := by decide +kernel
theorem dX1_least_82 : decode cX1_least 82 = .ok (.lmul, 1) := by decide +kernel
theorem dX1_least_83 : decode cX1_least 83 = .ok (.lload_n 1, 1) := by decide +kernel
theorem dX1_least_84 : decode cX1_least 84 = .ok (.lmul, 1) := by decide +kernel
theorem dX1_least_85 : decode cX1_least 85 = .ok (.aload_n 0, 1) := by decide +kernel
theorem dX1_least_86 : decode cX1_least 86 = .ok (.getfield 18, 3) := by decide +kernel
theorem dX1_least_89 : decode cX1_least 89 = .ok (.i2l, 1) := by decide +kernel
theorem dX1_least_90 : decode cX1_least 90 = .ok (.aload_n 0, 1) := by decide +kernel
theorem dX1_least_91 : decode cX1_least 91 = .ok (.getfield 18, 3) := by decide +kernel
theorem dX1_least_94 : decode cX1_least 94 = .ok (.i2l, 1) := by decide +kernel
theorem dX1_least_95 : decode cX1_least 95 = .ok (.lmul, 1) := by decide +kernel
theorem dX1_least_96 : decode cX1_least 96 = .ok (.invokestatic 27, 3) := by decide +kernel
theorem dX1_least_99 : decode cX1_least 99 = .ok (.lreturn, 1) := by decide +kernel
theorem dX1_least_100 : decode cX1_least 100 = .ok (.lconst 1, 1) := by decide +kernel
theorem dX1_least_101 : decode cX1_least 101 = .ok (.lreturn, 1) := by decide +kernel
theorem dX1_least_102 : decode cX1_least 102 = .ok (.aload_n 0, 1) := by decide +kernel
theorem dX1_least_103 : decode cX1_least 103 = .ok (.getfield 15, 3) := by decide +kernel
theorem dX1_least_106 : decode cX1_least 106 = .ok (.i2l, 1) := by decide +kernel
theorem dX1_least_107 : decode cX1_least 107 = .ok (.lload_n 1, 1) := by decide +kernel
theorem dX1_least_108 : decode cX1_least 108 = .ok (.lmul, 1) := by decide +kernel
theorem dX1_least_109 : decode cX1_least 109 = .ok (.aload_n 0, 1) := by decide +kernel
theorem dX1_least_110 : decode cX1_least 110 = .ok (.getfield 18, 3) := by decide +kernel
theorem dX1_least_113 : decode cX1_least 113 = .ok (.i2l, 1) := by decide +kernel
theorem dX1_least_114 : decode cX1_least 114 = .ok (.invokestatic 27, 3) := by decide +kernel
theorem dX1_least_117 : decode cX1_least 117 = .ok (.lreturn, 1) := by decide +kernel
theorem dX1_isReached_0 : decode cX1_isReached 0 = .ok (.aload_n 0, 1) := by decide +kernel
theorem dX1_isReached_1 : decode cX1_isReached 1 = .ok (.getfield 9, 3) := by decide +kernel
theorem dX1_isReached_4 : decode cX1_isReached 4 = .ok (.iconst 3, 1) := by decide +kernel
theorem dX1_isReached_5 : decode cX1_isReached 5 = .ok (.if_icmp .ne 17, 3) := by decide +kernel
theorem dX1_isReached_8 : decode cX1_isReached 8 = .ok (.aload_n 0, 1) := by decide +kernel
theorem dX1_isReached_9 : decode cX1_isReached 9 = .ok (.getfield 15, 3) := by decide +kernel
theorem dX1_isReached_12 : decode cX1_isReached 12 = .ok (.i2l, 1) := by decide +kernel
theorem dX1_isReached_13 : decode cX1_isReached 13 = .ok (.aload_n 0, 1) := by decide +kernel
theorem dX1_isReached_14 : decode cX1_isReached 14 = .ok (.getfield 15, 3) := by decide +kernel
theorem dX1_isReached_17 : decode cX1_isReached 17 = .ok (.i2l, 1) := by decide +kernel
theorem dX1_isReached_18 : decode cX1_isReached 18 = .ok (.lmul, 1) := by decide +kernel
theorem dX1_isReached_19 : decode cX1_isReached 19 = .ok (.goto 8, 3) := by decide +kernel
theorem dX1_isReached_22 : decode cX1_isReached 22 = .ok (.aload_n 0, 1) := by decide +kernel
theorem dX1_isReached_23 : decode cX1_isReached 23 = .ok (.getfield 15, 3) := by decide +kernel
theorem dX1_isReached_26 : decode cX1_isReached 26 = .ok (.i2l, 1) := by decide +kernel
theorem dX1_isReached_27 : decode cX1_isReached 27 = .ok (.lstore 7, 2) := by decide +kernel
theorem dX1_isReached_29 : decode cX1_isReached 29 = .ok (.aload_n 0, 1) := by decide +kernel
theorem dX1_isReached_30 : decode cX1_isReached 30 = .ok (.getfield 9, 3) := by decide +kernel
theorem dX1_isReached_33 : decode cX1_isReached 33 = .ok (.iconst 3, 1) := by decide +kernel
theorem dX1_isReached_34 : decode cX1_isReached 34 = .ok (.if_icmp .ne 17, 3) := by decide +kernel
theorem dX1_isReached_37 : decode cX1_isReached 37 = .ok (.aload_n 0, 1) := by decide +kernel
theorem dX1_isReached_38 : decode cX1_isReached 38 = .ok (.getfield 18, 3) := by decide +kernel
theorem dX1_isReached_41 : decode cX1_isReached 41 = .ok (.i2l, 1) := by decide +kernel
theorem dX1_isReached_42 : decode cX1_isReached 42 = .ok (.aload_n 0, 1) := by decide +kernel
theorem dX1_isReached_43 : decode cX1_isReached 43 = .ok (.getfield 18, 3) := by decide +kernel
theorem dX1_isReached_46 : decode cX1_isReached 46 = .ok (.i2l, 1) := by decide +kernel
theorem dX1_isReached_47 : decode cX1_isReached 47 = .ok (.lmul, 1) := by decide +kernel
theorem dX1_isReached_48 : decode cX1_isReached 48 = .ok (.goto 8, 3) := by decide +kernel
theorem dX1_isReached_51 : decode cX1_isReached 51 = .ok (.aload_n 0, 1) := by decide +kernel
theorem dX1_isReached_52 : decode cX1_isReached 52 = .ok (.getfield 18, 3) := by decide +kernel
theorem dX1_isReached_55 : decode cX1_isReached 55 = .ok (.i2l, 1) := by decide +kernel
theorem dX1_isReached_56 : decode cX1_isReached 56 = .ok (.lstore 9, 2) := by decide +kernel
theorem dX1_isReached_58 : decode cX1_isReached 58 = .ok (.lload_n 1, 1) := by decide +kernel
theorem dX1_isReached_59 : decode cX1_isReached 59 = .ok (.lconst 0, 1) := by decide +kernel
theorem dX1_isReached_60 : decode cX1_isReached 60 = .ok (.lcmp, 1) := by decide +kernel
theorem dX1_isReached_61 : decode cX1_isReached 61 = .ok (.ifCond .le 33, 3) := by decide +kernel
theorem dX1_isReached_64 : decode cX1_isReached 64 = .ok (.aload_n 0, 1) := by decide +kernel
theorem dX1_isReached_65 : decode cX1_isReached 65 = .ok (.lload_n 1, 1) := by decide +kernel
theorem dX1_isReached_66 : decode cX1_isReached 66 = .ok (.lload_n 3, 1) := by decide +kernel
theorem dX1_isReached_67 : decode cX1_isReached 67 = .ok (.lload 5, 2) := by decide +kernel
theorem dX1_isReached_69 : decode cX1_isReached 69 = .ok (.invokevirtual 39, 3) := by decide +kernel
theorem dX1_isReached_72 : decode cX1_isReached 72 = .ok (.lload 9, 2) := by decide +kernel
theorem dX1_isReached_74 : decode cX1_isReached 74 = .ok (.lmul, 1) := by decide +kernel
theorem dX1_isReached_75 : decode cX1_isReached 75 = .ok (.lload 7, 2) := by decide +kernel
theorem dX1_isReached_77 : decode cX1_isReached 77 = .ok (.aload_n 0, 1) := by decide +kernel
theorem dX1_isReached_78 : decode cX1_isReached 78 = .ok (.lload_n 1, 1) := by decide +kernel
theorem dX1_isReached_79 : decode cX1_isReached 79 = .ok (.lload_n 3, 1) := by decide +kernel
theorem dX1_isReached_80 : decode cX1_isReached 80 = .ok (.lload 5, 2) := by decide +kernel
theorem dX1_isReached_82 : decode cX1_isReached 82 = .ok (.invokevirtual 43, 3) := by decide +kernel
theorem dX1_isReached_85 : decode cX1_isReached 85 = .ok (.lmul, 1) := by decide +kernel
theorem dX1_isReached_86 : decode cX1_isReached 86 = .ok (.lcmp, 1) := by decide +kernel
theorem dX1_isReached_87 : decode cX1_isReached 87 = .ok (.ifCond .lt 7, 3) := by decide +kernel
theorem dX1_isReached_90 : decode cX1_isReached 90 = .ok (.iconst 1, 1) := by decide +kernel
theorem dX1_isReached_91 : decode cX1_isReached 91 = .ok (.goto 4, 3) := by decide +kernel
theorem dX1_isReached_94 : decode cX1_isReached 94 = .ok (.iconst 0, 1) := by decide +kernel
theorem dX1_isReached_95 : decode cX1_isReached 95 = .ok (.ireturn, 1) := by decide +kernel
theorem dX1_likenessAbove_0 : decode cX1_likenessAbove 0 = .ok (.aload_n 0, 1) := by decide +kernel
theorem dX1_likenessAbove_1 : decode cX1_likenessAbove 1 = .ok (.getfield 9, 3) := by decide +kernel
theorem dX1_likenessAbove_4 : decode cX1_likenessAbove 4 = .ok (.lookupswitch 38 #[(2, 28), (3, 34)], 28) := by decide +kernel
theorem dX1_likenessAbove_32 : decode cX1_likenessAbove 32 = .ok (.ldc2_w 25, 3) := by decide +kernel
theorem dX1_likenessAbove_35 : decode cX1_likenessAbove 35 = .ok (.lload_n 1, 1) := by decide +kernel
theorem dX1_likenessAbove_36 : decode cX1_likenessAbove 36 = .ok (.lmul, 1) := by decide +kernel
theorem dX1_likenessAbove_37 : decode cX1_likenessAbove 37 = .ok (.lreturn, 1) := by decide +kernel
theorem dX1_likenessAbove_38 : decode cX1_likenessAbove 38 = .ok (.lload_n 1, 1) := by decide +kernel
theorem dX1_likenessAbove_39 : decode cX1_likenessAbove 39 = .ok (.lload_n 1, 1) := by decide +kernel
theorem dX1_likenessAbove_40 : decode cX1_likenessAbove 40 = .ok (.lmul, 1) := by decide +kernel
theorem dX1_likenessAbove_41 : decode cX1_likenessAbove 41 = .ok (.lreturn, 1) := by decide +kernel
theorem dX1_likenessAbove_42 : decode cX1_likenessAbove 42 = .ok (.lload_n 1, 1) := by decide +kernel
theorem dX1_likenessAbove_43 : decode cX1_likenessAbove 43 = .ok (.lreturn, 1) := by decide +kernel
theorem dX1_likenessBelow_0 : decode cX1_likenessBelow 0 = .ok (.lload_n 1, 1) := by decide +kernel
theorem dX1_likenessBelow_1 : decode cX1_likenessBelow 1 = .ok (.lconst 0, 1) := by decide +kernel
theorem dX1_likenessBelow_2 : decode cX1_likenessBelow 2 = .ok (.lcmp, 1) := by decide +kernel
theorem dX1_likenessBelow_3 : decode cX1_likenessBelow 3 = .ok (.ifCond .ne 5, 3) := by decide +kernel
theorem dX1_likenessBelow_6 : decode cX1_likenessBelow 6 = .ok (.lconst 1, 1) := by decide +kernel
theorem dX1_likenessBelow_7 : decode cX1_likenessBelow 7 = .ok (.lreturn, 1) := by decide +kernel
theorem dX1_likenessBelow_8 : decode cX1_likenessBelow 8 = .ok (.aload_n 0, 1) := by decide +kernel
theorem dX1_likenessBelow_9 : decode cX1_likenessBelow 9 = .ok (.getfield 9, 3) := by decide +kernel
theorem dX1_likenessBelow_12 : decode cX1_likenessBelow 12 = .ok (.tableswitch 55 0 4 #[36, 55, 38, 43, 48], 36) := by decide +kernel
theorem dX1_likenessBelow_48 : decode cX1_likenessBelow 48 = .ok (.lconst 1, 1) := by decide +kernel
theorem dX1_likenessBelow_49 : decode cX1_likenessBelow 49 = .ok (.lreturn, 1) := by decide +kernel
theorem dX1_likenessBelow_50 : decode cX1_likenessBelow 50 = .ok (.lload_n 3, 1) := by decide +kernel
theorem dX1_likenessBelow_51 : decode cX1_likenessBelow 51 = .ok (.lload 5, 2) := by decide +kernel
theorem dX1_likenessBelow_53 : decode cX1_likenessBelow 53 = .ok (.ladd, 1) := by decide +kernel
theorem dX1_likenessBelow_54 : decode cX1_likenessBelow 54 = .ok (.lreturn, 1) := by decide +kernel
theorem dX1_likenessBelow_55 : decode cX1_likenessBelow 55 = .ok (.lload_n 3, 1) := by decide +kernel
theorem dX1_likenessBelow_56 : decode cX1_likenessBelow 56 = .ok (.lload 5, 2) := by decide +kernel
theorem dX1_likenessBelow_58 : decode cX1_likenessBelow 58 = .ok (.lmul, 1) := by decide +kernel
theorem dX1_likenessBelow_59 : decode cX1_likenessBelow 59 = .ok (.lreturn, 1) := by decide +kernel
theorem dX1_likenessBelow_60 : decode cX1_likenessBelow 60 = .ok (.lload_n 3, 1) := by decide +kernel
theorem dX1_likenessBelow_61 : decode cX1_likenessBelow 61 = .ok (.lload 5, 2) := by decide +kernel
theorem dX1_likenessBelow_63 : decode cX1_likenessBelow 63 = .ok (.invokestatic 34, 3) := by decide +kernel
theorem dX1_likenessBelow_66 : decode cX1_likenessBelow 66 = .ok (.lreturn, 1) := by decide +kernel
theorem dX1_likenessBelow_67 : decode cX1_likenessBelow 67 = .ok (.lload_n 3, 1) := by decide +kernel
theorem dX1_likenessBelow_68 : decode cX1_likenessBelow 68 = .ok (.lload 5, 2) := by decide +kernel
theorem dX1_likenessBelow_70 : decode cX1_likenessBelow 70 = .ok (.ladd, 1) := by decide +kernel
theorem dX1_likenessBelow_71 : decode cX1_likenessBelow 71 = .ok (.lload_n 1, 1) := by decide +kernel
theorem dX1_likenessBelow_72 : decode cX1_likenessBelow 72 = .ok (.lsub, 1) := by decide +kernel
theorem dX1_likenessBelow_73 : decode cX1_likenessBelow 73 = .ok (.lreturn, 1) := by decide +kernel
theorem dX1_withoutDivisor_0 : decode cX1_withoutDivisor 0 = .ok (.lload 4, 2) := by decide +kernel
theorem dX1_withoutDivisor_2 : decode cX1_withoutDivisor 2 = .ok (.lstore 6, 2) := by decide +kernel
theorem dX1_withoutDivisor_4 : decode cX1_withoutDivisor 4 = .ok (.lload_n 2, 1) := by decide +kernel
theorem dX1_withoutDivisor_5 : decode cX1_withoutDivisor 5 = .ok (.lstore 8, 2) := by decide +kernel
theorem dX1_withoutDivisor_7 : decode cX1_withoutDivisor 7 = .ok (.iconst 0, 1) := by decide +kernel
theorem dX1_withoutDivisor_8 : decode cX1_withoutDivisor 8 = .ok (.istore 10, 2) := by decide +kernel
theorem dX1_withoutDivisor_10 : decode cX1_withoutDivisor 10 = .ok (.iload 10, 2) := by decide +kernel
theorem dX1_withoutDivisor_12 : decode cX1_withoutDivisor 12 = .ok (.bipush 100, 2) := by decide +kernel
theorem dX1_withoutDivisor_14 : decode cX1_withoutDivisor 14 = .ok (.if_icmp .ge 31, 3) := by decide +kernel
theorem dX1_withoutDivisor_17 : decode cX1_withoutDivisor 17 = .ok (.lload 8, 2) := by decide +kernel
theorem dX1_withoutDivisor_19 : decode cX1_withoutDivisor 19 = .ok (.lconst 0, 1) := by decide +kernel
theorem dX1_withoutDivisor_20 : decode cX1_withoutDivisor 20 = .ok (.lcmp, 1) := by decide +kernel
theorem dX1_withoutDivisor_21 : decode cX1_withoutDivisor 21 = .ok (.ifCond .eq 24, 3) := by decide +kernel
theorem dX1_withoutDivisor_24 : decode cX1_withoutDivisor 24 = .ok (.lload 6, 2) := by decide +kernel
theorem dX1_withoutDivisor_26 : decode cX1_withoutDivisor 26 = .ok (.lload 8, 2) := by decide +kernel
theorem dX1_withoutDivisor_28 : decode cX1_withoutDivisor 28 = .ok (.lrem, 1) := by decide +kernel
theorem dX1_withoutDivisor_29 : decode cX1_withoutDivisor 29 = .ok (.lstore 11, 2) := by decide +kernel
theorem dX1_withoutDivisor_31 : decode cX1_withoutDivisor 31 = .ok (.lload 8, 2) := by decide +kernel
theorem dX1_withoutDivisor_33 : decode cX1_withoutDivisor 33 = .ok (.lstore 6, 2) := by decide +kernel
theorem dX1_withoutDivisor_35 : decode cX1_withoutDivisor 35 = .ok (.lload 11, 2) := by decide +kernel
theorem dX1_withoutDivisor_37 : decode cX1_withoutDivisor 37 = .ok (.lstore 8, 2) := by decide +kernel
theorem dX1_withoutDivisor_39 : decode cX1_withoutDivisor 39 = .ok (.iinc 10 1, 3) := by decide +kernel
theorem dX1_withoutDivisor_42 : decode cX1_withoutDivisor 42 = .ok (.goto (-32), 3) := by decide +kernel
theorem dX1_withoutDivisor_45 : decode cX1_withoutDivisor 45 = .ok (.lload 6, 2) := by decide +kernel
theorem dX1_withoutDivisor_47 : decode cX1_withoutDivisor 47 = .ok (.lconst 0, 1) := by decide +kernel
theorem dX1_withoutDivisor_48 : decode cX1_withoutDivisor 48 = .ok (.lcmp, 1) := by decide +kernel
theorem dX1_withoutDivisor_49 : decode cX1_withoutDivisor 49 = .ok (.ifCond .ne 7, 3) := by decide +kernel
theorem dX1_withoutDivisor_52 : decode cX1_withoutDivisor 52 = .ok (.lload_n 0, 1) := by decide +kernel
theorem dX1_withoutDivisor_53 : decode cX1_withoutDivisor 53 = .ok (.goto 7, 3) := by decide +kernel
theorem dX1_withoutDivisor_56 : decode cX1_withoutDivisor 56 = .ok (.lload_n 0, 1) := by decide +kernel
theorem dX1_withoutDivisor_57 : decode cX1_withoutDivisor 57 = .ok (.lload 6, 2) := by decide +kernel
theorem dX1_withoutDivisor_59 : decode cX1_withoutDivisor 59 = .ok (.ldiv, 1) := by decide +kernel
theorem dX1_withoutDivisor_60 : decode cX1_withoutDivisor 60 = .ok (.lreturn, 1) := by decide +kernel
theorem dX1_quotientUp_0 : decode cX1_quotientUp 0 = .ok (.lload_n 2, 1) := by decide +kernel
theorem dX1_quotientUp_1 : decode cX1_quotientUp 1 = .ok (.lconst 0, 1) := by decide +kernel
theorem dX1_quotientUp_2 : decode cX1_quotientUp 2 = .ok (.lcmp, 1) := by decide +kernel
theorem dX1_quotientUp_3 : decode cX1_quotientUp 3 = .ok (.ifCond .gt 7, 3) := by decide +kernel
theorem dX1_quotientUp_6 : decode cX1_quotientUp 6 = .ok (.lconst 0, 1) := by decide +kernel
theorem dX1_quotientUp_7 : decode cX1_quotientUp 7 = .ok (.goto 10, 3) := by decide +kernel
theorem dX1_quotientUp_10 : decode cX1_quotientUp 10 = .ok (.lload_n 0, 1) := by decide +kernel
theorem dX1_quotientUp_11 : decode cX1_quotientUp 11 = .ok (.lload_n 2, 1) := by decide +kernel
theorem dX1_quotientUp_12 : decode cX1_quotientUp 12 = .ok (.ladd, 1) := by decide +kernel
theorem dX1_quotientUp_13 : decode cX1_quotientUp 13 = .ok (.lconst 1, 1) := by decide +kernel
theorem dX1_quotientUp_14 : decode cX1_quotientUp 14 = .ok (.lsub, 1) := by decide +kernel
theorem dX1_quotientUp_15 : decode cX1_quotientUp 15 = .ok (.lload_n 2, 1) := by decide +kernel
theorem dX1_quotientUp_16 : decode cX1_quotientUp 16 = .ok (.ldiv, 1) := by decide +kernel
theorem dX1_quotientUp_17 : decode cX1_quotientUp 17 = .ok (.lreturn, 1) := by decide +kernel
theorem dX1_rootUp_0 : decode cX1_rootUp 0 = .ok (.lconst 0, 1) := by decide +kernel
theorem dX1_rootUp_1 : decode cX1_rootUp 1 = .ok (.lstore 4, 2) := by decide +kernel
theorem dX1_rootUp_3 : decode cX1_rootUp 3 = .ok (.lload 4, 2) := by decide +kernel
theorem dX1_rootUp_5 : decode cX1_rootUp 5 = .ok (.ldc2_w 46, 3) := by decide +kernel
theorem dX1_rootUp_8 : decode cX1_rootUp 8 = .ok (.lcmp, 1) := by decide +kernel
theorem dX1_rootUp_9 : decode cX1_rootUp 9 = .ok (.ifCond .ge 24, 3) := by decide +kernel
theorem dX1_rootUp_12 : decode cX1_rootUp 12 = .ok (.lload 4, 2) := by decide +kernel
theorem dX1_rootUp_14 : decode cX1_rootUp 14 = .ok (.lload 4, 2) := by decide +kernel
theorem dX1_rootUp_16 : decode cX1_rootUp 16 = .ok (.lmul, 1) := by decide +kernel
theorem dX1_rootUp_17 : decode cX1_rootUp 17 = .ok (.lload_n 2, 1) := by decide +kernel
theorem dX1_rootUp_18 : decode cX1_rootUp 18 = .ok (.lmul, 1) := by decide +kernel
theorem dX1_rootUp_19 : decode cX1_rootUp 19 = .ok (.lload_n 0, 1) := by decide +kernel
theorem dX1_rootUp_20 : decode cX1_rootUp 20 = .ok (.lcmp, 1) := by decide +kernel
theorem dX1_rootUp_21 : decode cX1_rootUp 21 = .ok (.ifCond .ge 12, 3) := by decide +kernel
theorem dX1_rootUp_24 : decode cX1_rootUp 24 = .ok (.lload 4, 2) := by decide +kernel
theorem dX1_rootUp_26 : decode cX1_rootUp 26 = .ok (.lconst 1, 1) := by decide +kernel
theorem dX1_rootUp_27 : decode cX1_rootUp 27 = .ok (.ladd, 1) := by decide +kernel
theorem dX1_rootUp_28 : decode cX1_rootUp 28 = .ok (.lstore 4, 2) := by decide +kernel
theorem dX1_rootUp_30 : decode cX1_rootUp 30 = .ok (.goto (-27), 3) := by decide +kernel
theorem dX1_rootUp_33 : decode cX1_rootUp 33 = .ok (.lload 4, 2) := by decide +kernel
theorem dX1_rootUp_35 : decode cX1_rootUp 35 = .ok (.lreturn, 1) := by decide +kernel
theorem dX2_init_0 : decode cX2_init 0 = .ok (.aload_n 0, 1) := by decide +kernel
theorem dX2_init_1 : decode cX2_init 1 = .ok (.invokespecial 3, 3) := by decide +kernel
theorem dX2_init_4 : decode cX2_init 4 = .ok (.aload_n 0, 1) := by decide +kernel
theorem dX2_init_5 : decode cX2_init 5 = .ok (.bipush 60, 2) := by decide +kernel
theorem dX2_init_7 : decode cX2_init 7 = .ok (.newarray .long, 2) := by decide +kernel
theorem dX2_init_9 : decode cX2_init 9 = .ok (.putfield 9, 3) := by decide +kernel
theorem dX2_init_12 : decode cX2_init 12 = .ok (.return_, 1) := by decide +kernel
theorem dX2_forget_0 : decode cX2_forget 0 = .ok (.aload_n 0, 1) := by decide +kernel
theorem dX2_forget_1 : decode cX2_forget 1 = .ok (.dup, 1) := by decide +kernel
theorem dX2_forget_2 : decode cX2_forget 2 = .ok (.getfield 15, 3) := by decide +kernel
theorem dX2_forget_5 : decode cX2_forget 5 = .ok (.lconst 1, 1) := by decide +kernel
theorem dX2_forget_6 : decode cX2_forget 6 = .ok (.iload_n 1, 1) := by decide +kernel
theorem dX2_forget_7 : decode cX2_forget 7 = .ok (.lshl, 1) := by decide +kernel
theorem dX2_forget_8 : decode cX2_forget 8 = .ok (.lor, 1) := by decide +kernel
theorem dX2_forget_9 : decode cX2_forget 9 = .ok (.putfield 15, 3) := by decide +kernel
theorem dX2_forget_12 : decode cX2_forget 12 = .ok (.return_, 1) := by decide +kernel
theorem dX2_isForgotten_0 : decode cX2_isForgotten 0 = .ok (.aload_n 0, 1) := by decide +kernel
theorem dX2_isForgotten_1 : decode cX2_isForgotten 1 = .ok (.getfield 15, 3) := by decide +kernel
theorem dX2_isForgotten_4 : decode cX2_isForgotten 4 = .ok (.lconst 1, 1) := by decide +kernel
theorem dX2_isForgotten_5 : decode cX2_isForgotten 5 = .ok (.iload_n 1, 1) := by decide +kernel
theorem dX2_isForgotten_6 : decode cX2_isForgotten 6 = .ok (.lshl, 1) := by decide +kernel
theorem dX2_isForgotten_7 : decode cX2_isForgotten 7 = .ok (.land, 1) := by decide +kernel
theorem dX2_isForgotten_8 : decode cX2_isForgotten 8 = .ok (.lconst 0, 1) := by decide +kernel
theorem dX2_isForgotten_9 : decode cX2_isForgotten 9 = .ok (.lcmp, 1) := by decide +kernel
theorem dX2_isForgotten_10 : decode cX2_isForgotten 10 = .ok (.ifCond .eq 7, 3) := by decide +kernel
theorem dX2_isForgotten_13 : decode cX2_isForgotten 13 = .ok (.iconst 1, 1) := by decide +kernel
theorem dX2_isForgotten_14 : decode cX2_isForgotten 14 = .ok (.goto 4, 3) := by decide +kernel
theorem dX2_isForgotten_17 : decode cX2_isForgotten 17 = .ok (.iconst 0, 1) := by decide +kernel
theorem dX2_isForgotten_18 : decode cX2_isForgotten 18 = .ok (.ireturn, 1) := by decide +kernel
theorem dX2_know_0 : decode cX2_know 0 = .ok (.aload_n 0, 1) := by decide +kernel
theorem dX2_know_1 : decode cX2_know 1 = .ok (.dup, 1) := by decide +kernel
theorem dX2_know_2 : decode cX2_know 2 = .ok (.getfield 15, 3) := by decide +kernel
theorem dX2_know_5 : decode cX2_know 5 = .ok (.lconst 1, 1) := by decide +kernel
theorem dX2_know_6 : decode cX2_know 6 = .ok (.iload_n 1, 1) := by decide +kernel
theorem dX2_know_7 : decode cX2_know 7 = .ok (.lshl, 1) := by decide +kernel
theorem dX2_know_8 : decode cX2_know 8 = .ok (.ldc2_w 19, 3) := by decide +kernel
theorem dX2_know_11 : decode cX2_know 11 = .ok (.lxor, 1) := by decide +kernel
theorem dX2_know_12 : decode cX2_know 12 = .ok (.land, 1) := by decide +kernel
theorem dX2_know_13 : decode cX2_know 13 = .ok (.putfield 15, 3) := by decide +kernel
theorem dX2_know_16 : decode cX2_know 16 = .ok (.return_, 1) := by decide +kernel
theorem dX2_tie_0 : decode cX2_tie 0 = .ok (.aload_n 0, 1) := by decide +kernel
theorem dX2_tie_1 : decode cX2_tie 1 = .ok (.getfield 9, 3) := by decide +kernel
theorem dX2_tie_4 : decode cX2_tie 4 = .ok (.iload_n 1, 1) := by decide +kernel
theorem dX2_tie_5 : decode cX2_tie 5 = .ok (.iload_n 3, 1) := by decide +kernel
theorem dX2_tie_6 : decode cX2_tie 6 = .ok (.ifCond .eq 16, 3) := by decide +kernel
theorem dX2_tie_9 : decode cX2_tie 9 = .ok (.aload_n 0, 1) := by decide +kernel
theorem dX2_tie_10 : decode cX2_tie 10 = .ok (.getfield 9, 3) := by decide +kernel
theorem dX2_tie_13 : decode cX2_tie 13 = .ok (.iload_n 1, 1) := by decide +kernel
theorem dX2_tie_14 : decode cX2_tie 14 = .ok (.laload, 1) := by decide +kernel
theorem dX2_tie_15 : decode cX2_tie 15 = .ok (.lconst 1, 1) := by decide +kernel
theorem dX2_tie_16 : decode cX2_tie 16 = .ok (.iload_n 2, 1) := by decide +kernel
theorem dX2_tie_17 : decode cX2_tie 17 = .ok (.lshl, 1) := by decide +kernel
theorem dX2_tie_18 : decode cX2_tie 18 = .ok (.lor, 1) := by decide +kernel
theorem dX2_tie_19 : decode cX2_tie 19 = .ok (.goto 17, 3) := by decide +kernel
theorem dX2_tie_22 : decode cX2_tie 22 = .ok (.aload_n 0, 1) := by decide +kernel
theorem dX2_tie_23 : decode cX2_tie 23 = .ok (.getfield 9, 3) := by decide +kernel
theorem dX2_tie_26 : decode cX2_tie 26 = .ok (.iload_n 1, 1) := by decide +kernel
theorem dX2_tie_27 : decode cX2_tie 27 = .ok (.laload, 1) := by decide +kernel
theorem dX2_tie_28 : decode cX2_tie 28 = .ok (.lconst 1, 1) := by decide +kernel
theorem dX2_tie_29 : decode cX2_tie 29 = .ok (.iload_n 2, 1) := by decide +kernel
theorem dX2_tie_30 : decode cX2_tie 30 = .ok (.lshl, 1) := by decide +kernel
theorem dX2_tie_31 : decode cX2_tie 31 = .ok (.ldc2_w 19, 3) := by decide +kernel
theorem dX2_tie_34 : decode cX2_tie 34 = .ok (.lxor, 1) := by decide +kernel
theorem dX2_tie_35 : decode cX2_tie 35 = .ok (.land, 1) := by decide +kernel
theorem dX2_tie_36 : decode cX2_tie 36 = .ok (.lastore, 1) := by decide +kernel
theorem dX2_tie_37 : decode cX2_tie 37 = .ok (.aload_n 0, 1) := by decide +kernel
theorem dX2_tie_38 : decode cX2_tie 38 = .ok (.getfield 9, 3) := by decide +kernel
theorem dX2_tie_41 : decode cX2_tie 41 = .ok (.iload_n 2, 1) := by decide +kernel
theorem dX2_tie_42 : decode cX2_tie 42 = .ok (.iload_n 3, 1) := by decide +kernel
theorem dX2_tie_43 : decode cX2_tie 43 = .ok (.ifCond .eq 16, 3) := by decide +kernel
theorem dX2_tie_46 : decode cX2_tie 46 = .ok (.aload_n 0, 1) := by decide +kernel
theorem dX2_tie_47 : decode cX2_tie 47 = .ok (.getfield 9, 3) := by decide +kernel
theorem dX2_tie_50 : decode cX2_tie 50 = .ok (.iload_n 2, 1) := by decide +kernel
theorem dX2_tie_51 : decode cX2_tie 51 = .ok (.laload, 1) := by decide +kernel
theorem dX2_tie_52 : decode cX2_tie 52 = .ok (.lconst 1, 1) := by decide +kernel
theorem dX2_tie_53 : decode cX2_tie 53 = .ok (.iload_n 1, 1) := by decide +kernel
theorem dX2_tie_54 : decode cX2_tie 54 = .ok (.lshl, 1) := by decide +kernel
theorem dX2_tie_55 : decode cX2_tie 55 = .ok (.lor, 1) := by decide +kernel
theorem dX2_tie_56 : decode cX2_tie 56 = .ok (.goto 17, 3) := by decide +kernel
theorem dX2_tie_59 : decode cX2_tie 59 = .ok (.aload_n 0, 1) := by decide +kernel
theorem dX2_tie_60 : decode cX2_tie 60 = .ok (.getfield 9, 3) := by decide +kernel
theorem dX2_tie_63 : decode cX2_tie 63 = .ok (.iload_n 2, 1) := by decide +kernel
theorem dX2_tie_64 : decode cX2_tie 64 = .ok (.laload, 1) := by decide +kernel
theorem dX2_tie_65 : decode cX2_tie 65 = .ok (.lconst 1, 1) := by decide +kernel
theorem dX2_tie_66 : decode cX2_tie 66 = .ok (.iload_n 1, 1) := by decide +kernel
theorem dX2_tie_67 : decode cX2_tie 67 = .ok (.lshl, 1) := by decide +kernel
theorem dX2_tie_68 : decode cX2_tie 68 = .ok (.ldc2_w 19, 3) := by decide +kernel
theorem dX2_tie_71 : decode cX2_tie 71 = .ok (.lxor, 1) := by decide +kernel
theorem dX2_tie_72 : decode cX2_tie 72 = .ok (.land, 1) := by decide +kernel
theorem dX2_tie_73 : decode cX2_tie 73 = .ok (.lastore, 1) := by decide +kernel
theorem dX2_tie_74 : decode cX2_tie 74 = .ok (.return_, 1) := by decide +kernel
theorem dX2_leastOf_0 : decode cX2_leastOf 0 = .ok (.lload_n 0, 1) := by decide +kernel
theorem dX2_leastOf_1 : decode cX2_leastOf 1 = .ok (.lconst 0, 1) := by decide +kernel
theorem dX2_leastOf_2 : decode cX2_leastOf 2 = .ok (.lcmp, 1) := by decide +kernel
theorem dX2_leastOf_3 : decode cX2_leastOf 3 = .ok (.ifCond .ne 7, 3) := by decide +kernel
theorem dX2_leastOf_6 : decode cX2_leastOf 6 = .ok (.iconst (-1), 1) := by decide +kernel
theorem dX2_leastOf_7 : decode cX2_leastOf 7 = .ok (.goto 12, 3) := by decide +kernel
theorem dX2_leastOf_10 : decode cX2_leastOf 10 = .ok (.lload_n 0, 1) := by decide +kernel
theorem dX2_leastOf_11 : decode cX2_leastOf 11 = .ok (.lload_n 0, 1) := by decide +kernel
theorem dX2_leastOf_12 : decode cX2_leastOf 12 = .ok (.lneg, 1) := by decide +kernel
theorem dX2_leastOf_13 : decode cX2_leastOf 13 = .ok (.land, 1) := by decide +kernel
theorem dX2_leastOf_14 : decode cX2_leastOf 14 = .ok (.lconst 1, 1) := by decide +kernel
theorem dX2_leastOf_15 : decode cX2_leastOf 15 = .ok (.lsub, 1) := by decide +kernel
theorem dX2_leastOf_16 : decode cX2_leastOf 16 = .ok (.invokestatic 21, 3) := by decide +kernel
theorem dX2_leastOf_19 : decode cX2_leastOf 19 = .ok (.ireturn, 1) := by decide +kernel
theorem dX2_familyOf_0 : decode cX2_familyOf 0 = .ok (.lconst 1, 1) := by decide +kernel
theorem dX2_familyOf_1 : decode cX2_familyOf 1 = .ok (.iload_n 1, 1) := by decide +kernel
theorem dX2_familyOf_2 : decode cX2_familyOf 2 = .ok (.lshl, 1) := by decide +kernel
theorem dX2_familyOf_3 : decode cX2_familyOf 3 = .ok (.lstore_n 2, 1) := by decide +kernel
theorem dX2_familyOf_4 : decode cX2_familyOf 4 = .ok (.lload_n 2, 1) := by decide +kernel
theorem dX2_familyOf_5 : decode cX2_familyOf 5 = .ok (.lstore 4, 2) := by decide +kernel
theorem dX2_familyOf_7 : decode cX2_familyOf 7 = .ok (.iconst 0, 1) := by decide +kernel
theorem dX2_familyOf_8 : decode cX2_familyOf 8 = .ok (.istore 6, 2) := by decide +kernel
theorem dX2_familyOf_10 : decode cX2_familyOf 10 = .ok (.iload 6, 2) := by decide +kernel
theorem dX2_familyOf_12 : decode cX2_familyOf 12 = .ok (.bipush 60, 2) := by decide +kernel
theorem dX2_familyOf_14 : decode cX2_familyOf 14 = .ok (.if_icmp .ge 35, 3) := by decide +kernel
theorem dX2_familyOf_17 : decode cX2_familyOf 17 = .ok (.lload 4, 2) := by decide +kernel
theorem dX2_familyOf_19 : decode cX2_familyOf 19 = .ok (.lconst 0, 1) := by decide +kernel
theorem dX2_familyOf_20 : decode cX2_familyOf 20 = .ok (.lcmp, 1) := by decide +kernel
theorem dX2_familyOf_21 : decode cX2_familyOf 21 = .ok (.ifCond .eq 28, 3) := by decide +kernel
theorem dX2_familyOf_24 : decode cX2_familyOf 24 = .ok (.aload_n 0, 1) := by decide +kernel
theorem dX2_familyOf_25 : decode cX2_familyOf 25 = .ok (.lload 4, 2) := by decide +kernel
theorem dX2_familyOf_27 : decode cX2_familyOf 27 = .ok (.invokevirtual 27, 3) := by decide +kernel
theorem dX2_familyOf_30 : decode cX2_familyOf 30 = .ok (.lload_n 2, 1) := by decide +kernel
theorem dX2_familyOf_31 : decode cX2_familyOf 31 = .ok (.ldc2_w 19, 3) := by decide +kernel
theorem dX2_familyOf_34 : decode cX2_familyOf 34 = .ok (.lxor, 1) := by decide +kernel
theorem dX2_familyOf_35 : decode cX2_familyOf 35 = .ok (.land, 1) := by decide +kernel
theorem dX2_familyOf_36 : decode cX2_familyOf 36 = .ok (.lstore 4, 2) := by decide +kernel
theorem dX2_familyOf_38 : decode cX2_familyOf 38 = .ok (.lload_n 2, 1) := by decide +kernel
theorem dX2_familyOf_39 : decode cX2_familyOf 39 = .ok (.lload 4, 2) := by decide +kernel
theorem dX2_familyOf_41 : decode cX2_familyOf 41 = .ok (.lor, 1) := by decide +kernel
theorem dX2_familyOf_42 : decode cX2_familyOf 42 = .ok (.lstore_n 2, 1) := by decide +kernel
theorem dX2_familyOf_43 : decode cX2_familyOf 43 = .ok (.iinc 6 1, 3) := by decide +kernel
theorem dX2_familyOf_46 : decode cX2_familyOf 46 = .ok (.goto (-36), 3) := by decide +kernel
theorem dX2_familyOf_49 : decode cX2_familyOf 49 = .ok (.lload_n 2, 1) := by decide +kernel
theorem dX2_familyOf_50 : decode cX2_familyOf 50 = .ok (.lreturn, 1) := by decide +kernel
theorem dX2_stepsBetween_0 : decode cX2_stepsBetween 0 = .ok (.lconst 1, 1) := by decide +kernel
theorem dX2_stepsBetween_1 : decode cX2_stepsBetween 1 = .ok (.iload_n 2, 1) := by decide +kernel
theorem dX2_stepsBetween_2 : decode cX2_stepsBetween 2 = .ok (.lshl, 1) := by decide +kernel
theorem dX2_stepsBetween_3 : decode cX2_stepsBetween 3 = .ok (.lstore_n 3, 1) := by decide +kernel
theorem dX2_stepsBetween_4 : decode cX2_stepsBetween 4 = .ok (.lload_n 3, 1) := by decide +kernel
theorem dX2_stepsBetween_5 : decode cX2_stepsBetween 5 = .ok (.lstore 5, 2) := by decide +kernel
theorem dX2_stepsBetween_7 : decode cX2_stepsBetween 7 = .ok (.iconst 0, 1) := by decide +kernel
theorem dX2_stepsBetween_8 : decode cX2_stepsBetween 8 = .ok (.istore 7, 2) := by decide +kernel
theorem dX2_stepsBetween_10 : decode cX2_stepsBetween 10 = .ok (.iload 7, 2) := by decide +kernel
theorem dX2_stepsBetween_12 : decode cX2_stepsBetween 12 = .ok (.bipush 60, 2) := by decide +kernel
theorem dX2_stepsBetween_14 : decode cX2_stepsBetween 14 = .ok (.if_icmp .ge 49, 3) := by decide +kernel
theorem dX2_stepsBetween_17 : decode cX2_stepsBetween 17 = .ok (.lload 5, 2) := by decide +kernel
theorem dX2_stepsBetween_19 : decode cX2_stepsBetween 19 = .ok (.lconst 0, 1) := by decide +kernel
theorem dX2_stepsBetween_20 : decode cX2_stepsBetween 20 = .ok (.lcmp, 1) := by decide +kernel
theorem dX2_stepsBetween_21 : decode cX2_stepsBetween 21 = .ok (.ifCond .eq 42, 3) := by decide +kernel
theorem dX2_stepsBetween_24 : decode cX2_stepsBetween 24 = .ok (.lload 5, 2) := by decide +kernel
theorem dX2_stepsBetween_26 : decode cX2_stepsBetween 26 = .ok (.lconst 1, 1) := by decide +kernel
theorem dX2_stepsBetween_27 : decode cX2_stepsBetween 27 = .ok (.iload_n 1, 1) := by decide +kernel
theorem dX2_stepsBetween_28 : decode cX2_stepsBetween 28 = .ok (.lshl, 1) := by decide +kernel
theorem dX2_stepsBetween_29 : decode cX2_stepsBetween 29 = .ok (.land, 1) := by decide +kernel
theorem dX2_stepsBetween_30 : decode cX2_stepsBetween 30 = .ok (.lconst 0, 1) := by decide +kernel
theorem dX2_stepsBetween_31 : decode cX2_stepsBetween 31 = .ok (.lcmp, 1) := by decide +kernel
theorem dX2_stepsBetween_32 : decode cX2_stepsBetween 32 = .ok (.ifCond .eq 6, 3) := by decide +kernel
theorem dX2_stepsBetween_35 : decode cX2_stepsBetween 35 = .ok (.iload 7, 2) := by decide +kernel
theorem dX2_stepsBetween_37 : decode cX2_stepsBetween 37 = .ok (.ireturn, 1) := by decide +kernel
theorem dX2_stepsBetween_38 : decode cX2_stepsBetween 38 = .ok (.aload_n 0, 1) := by decide +kernel
theorem dX2_stepsBetween_39 : decode cX2_stepsBetween 39 = .ok (.lload 5, 2) := by decide +kernel
theorem dX2_stepsBetween_41 : decode cX2_stepsBetween 41 = .ok (.invokevirtual 27, 3) := by decide +kernel
theorem dX2_stepsBetween_44 : decode cX2_stepsBetween 44 = .ok (.lload_n 3, 1) := by decide +kernel
theorem dX2_stepsBetween_45 : decode cX2_stepsBetween 45 = .ok (.ldc2_w 19, 3) := by decide +kernel
theorem dX2_stepsBetween_48 : decode cX2_stepsBetween 48 = .ok (.lxor, 1) := by decide +kernel
theorem dX2_stepsBetween_49 : decode cX2_stepsBetween 49 = .ok (.land, 1) := by decide +kernel
theorem dX2_stepsBetween_50 : decode cX2_stepsBetween 50 = .ok (.lstore 5, 2) := by decide +kernel
theorem dX2_stepsBetween_52 : decode cX2_stepsBetween 52 = .ok (.lload_n 3, 1) := by decide +kernel
theorem dX2_stepsBetween_53 : decode cX2_stepsBetween 53 = .ok (.lload 5, 2) := by decide +kernel
theorem dX2_stepsBetween_55 : decode cX2_stepsBetween 55 = .ok (.lor, 1) := by decide +kernel
theorem dX2_stepsBetween_56 : decode cX2_stepsBetween 56 = .ok (.lstore_n 3, 1) := by decide +kernel
theorem dX2_stepsBetween_57 : decode cX2_stepsBetween 57 = .ok (.iinc 7 1, 3) := by decide +kernel
theorem dX2_stepsBetween_60 : decode cX2_stepsBetween 60 = .ok (.goto (-50), 3) := by decide +kernel
theorem dX2_stepsBetween_63 : decode cX2_stepsBetween 63 = .ok (.iconst (-1), 1) := by decide +kernel
theorem dX2_stepsBetween_64 : decode cX2_stepsBetween 64 = .ok (.ireturn, 1) := by decide +kernel
theorem dX2_firstStep_0 : decode cX2_firstStep 0 = .ok (.lconst 1, 1) := by decide +kernel
theorem dX2_firstStep_1 : decode cX2_firstStep 1 = .ok (.iload_n 2, 1) := by decide +kernel
theorem dX2_firstStep_2 : decode cX2_firstStep 2 = .ok (.lshl, 1) := by decide +kernel
theorem dX2_firstStep_3 : decode cX2_firstStep 3 = .ok (.lstore 4, 2) := by decide +kernel
theorem dX2_firstStep_5 : decode cX2_firstStep 5 = .ok (.iconst 1, 1) := by decide +kernel
theorem dX2_firstStep_6 : decode cX2_firstStep 6 = .ok (.istore 6, 2) := by decide +kernel
theorem dX2_firstStep_8 : decode cX2_firstStep 8 = .ok (.iload 6, 2) := by decide +kernel
theorem dX2_firstStep_10 : decode cX2_firstStep 10 = .ok (.iload_n 3, 1) := by decide +kernel
theorem dX2_firstStep_11 : decode cX2_firstStep 11 = .ok (.if_icmp .ge 17, 3) := by decide +kernel
theorem dX2_firstStep_14 : decode cX2_firstStep 14 = .ok (.aload_n 0, 1) := by decide +kernel
theorem dX2_firstStep_15 : decode cX2_firstStep 15 = .ok (.lload 4, 2) := by decide +kernel
theorem dX2_firstStep_17 : decode cX2_firstStep 17 = .ok (.invokevirtual 27, 3) := by decide +kernel
theorem dX2_firstStep_20 : decode cX2_firstStep 20 = .ok (.lstore 4, 2) := by decide +kernel
theorem dX2_firstStep_22 : decode cX2_firstStep 22 = .ok (.iinc 6 1, 3) := by decide +kernel
theorem dX2_firstStep_25 : decode cX2_firstStep 25 = .ok (.goto (-17), 3) := by decide +kernel
theorem dX2_firstStep_28 : decode cX2_firstStep 28 = .ok (.lload 4, 2) := by decide +kernel
theorem dX2_firstStep_30 : decode cX2_firstStep 30 = .ok (.aload_n 0, 1) := by decide +kernel
theorem dX2_firstStep_31 : decode cX2_firstStep 31 = .ok (.getfield 9, 3) := by decide +kernel
theorem dX2_firstStep_34 : decode cX2_firstStep 34 = .ok (.iload_n 1, 1) := by decide +kernel
theorem dX2_firstStep_35 : decode cX2_firstStep 35 = .ok (.laload, 1) := by decide +kernel
theorem dX2_firstStep_36 : decode cX2_firstStep 36 = .ok (.land, 1) := by decide +kernel
theorem dX2_firstStep_37 : decode cX2_firstStep 37 = .ok (.invokestatic 31, 3) := by decide +kernel
theorem dX2_firstStep_40 : decode cX2_firstStep 40 = .ok (.ireturn, 1) := by decide +kernel
theorem dX2_coreOf_0 : decode cX2_coreOf 0 = .ok (.aload_n 0, 1) := by decide +kernel
theorem dX2_coreOf_1 : decode cX2_coreOf 1 = .ok (.getfield 9, 3) := by decide +kernel
theorem dX2_coreOf_4 : decode cX2_coreOf 4 = .ok (.lconst 0, 1) := by decide +kernel
theorem dX2_coreOf_5 : decode cX2_coreOf 5 = .ok (.lload_n 1, 1) := by decide +kernel
theorem dX2_coreOf_6 : decode cX2_coreOf 6 = .ok (.lconst 0, 1) := by decide +kernel
theorem dX2_coreOf_7 : decode cX2_coreOf 7 = .ok (.iconst 0, 1) := by decide +kernel
theorem dX2_coreOf_8 : decode cX2_coreOf 8 = .ok (.invokestatic 34, 3) := by decide +kernel
theorem dX2_coreOf_11 : decode cX2_coreOf 11 = .ok (.lreturn, 1) := by decide +kernel
theorem dX2_friendsOf_0 : decode cX2_friendsOf 0 = .ok (.lconst 0, 1) := by decide +kernel
theorem dX2_friendsOf_1 : decode cX2_friendsOf 1 = .ok (.lstore_n 3, 1) := by decide +kernel
theorem dX2_friendsOf_2 : decode cX2_friendsOf 2 = .ok (.iconst 0, 1) := by decide +kernel
theorem dX2_friendsOf_3 : decode cX2_friendsOf 3 = .ok (.istore 5, 2) := by decide +kernel
theorem dX2_friendsOf_5 : decode cX2_friendsOf 5 = .ok (.iload 5, 2) := by decide +kernel
theorem dX2_friendsOf_7 : decode cX2_friendsOf 7 = .ok (.bipush 60, 2) := by decide +kernel
theorem dX2_friendsOf_9 : decode cX2_friendsOf 9 = .ok (.if_icmp .ge 30, 3) := by decide +kernel
theorem dX2_friendsOf_12 : decode cX2_friendsOf 12 = .ok (.lload_n 1, 1) := by decide +kernel
theorem dX2_friendsOf_13 : decode cX2_friendsOf 13 = .ok (.lconst 1, 1) := by decide +kernel
theorem dX2_friendsOf_14 : decode cX2_friendsOf 14 = .ok (.iload 5, 2) := by decide +kernel
theorem dX2_friendsOf_16 : decode cX2_friendsOf 16 = .ok (.lshl, 1) := by decide +kernel
theorem dX2_friendsOf_17 : decode cX2_friendsOf 17 = .ok (.land, 1) := by decide +kernel
theorem dX2_friendsOf_18 : decode cX2_friendsOf 18 = .ok (.lconst 0, 1) := by decide +kernel
theorem dX2_friendsOf_19 : decode cX2_friendsOf 19 = .ok (.lcmp, 1) := by decide +kernel
theorem dX2_friendsOf_20 : decode cX2_friendsOf 20 = .ok (.ifCond .eq 13, 3) := by decide +kernel
theorem dX2_friendsOf_23 : decode cX2_friendsOf 23 = .ok (.lload_n 3, 1) := by decide +kernel
theorem dX2_friendsOf_24 : decode cX2_friendsOf 24 = .ok (.aload_n 0, 1) := by decide +kernel
theorem dX2_friendsOf_25 : decode cX2_friendsOf 25 = .ok (.getfield 9, 3) := by decide +kernel
theorem dX2_friendsOf_28 : decode cX2_friendsOf 28 = .ok (.iload 5, 2) := by decide +kernel
theorem dX2_friendsOf_30 : decode cX2_friendsOf 30 = .ok (.laload, 1) := by decide +kernel
theorem dX2_friendsOf_31 : decode cX2_friendsOf 31 = .ok (.lor, 1) := by decide +kernel
theorem dX2_friendsOf_32 : decode cX2_friendsOf 32 = .ok (.lstore_n 3, 1) := by decide +kernel
theorem dX2_friendsOf_33 : decode cX2_friendsOf 33 = .ok (.iinc 5 1, 3) := by decide +kernel
theorem dX2_friendsOf_36 : decode cX2_friendsOf 36 = .ok (.goto (-31), 3) := by decide +kernel
theorem dX2_friendsOf_39 : decode cX2_friendsOf 39 = .ok (.lload_n 3, 1) := by decide +kernel
theorem dX2_friendsOf_40 : decode cX2_friendsOf 40 = .ok (.lreturn, 1) := by decide +kernel
theorem dX2_greatestCore_0 : decode cX2_greatestCore 0 = .ok (.lload_n 1, 1) := by decide +kernel
theorem dX2_greatestCore_1 : decode cX2_greatestCore 1 = .ok (.invokestatic 21, 3) := by decide +kernel
theorem dX2_greatestCore_4 : decode cX2_greatestCore 4 = .ok (.lload 5, 2) := by decide +kernel
theorem dX2_greatestCore_6 : decode cX2_greatestCore 6 = .ok (.invokestatic 21, 3) := by decide +kernel
theorem dX2_greatestCore_9 : decode cX2_greatestCore 9 = .ok (.if_icmp .le 7, 3) := by decide +kernel
theorem dX2_greatestCore_12 : decode cX2_greatestCore 12 = .ok (.lload_n 1, 1) := by decide +kernel
theorem dX2_greatestCore_13 : decode cX2_greatestCore 13 = .ok (.goto 5, 3) := by decide +kernel
theorem dX2_greatestCore_16 : decode cX2_greatestCore 16 = .ok (.lload 5, 2) := by decide +kernel
theorem dX2_greatestCore_18 : decode cX2_greatestCore 18 = .ok (.lstore 8, 2) := by decide +kernel
theorem dX2_greatestCore_20 : decode cX2_greatestCore 20 = .ok (.iload 7, 2) := by decide +kernel
