theorem dX2_greatestCore_22 : decode cX2_greatestCore 22 = .ok (.bipush 20, 2) := by decide +kernel
theorem dX2_greatestCore_24 : decode cX2_greatestCore 24 = .ok (.if_icmp .lt 6, 3) := by decide +kernel
theorem dX2_greatestCore_27 : decode cX2_greatestCore 27 = .ok (.lload 8, 2) := by decide +kernel
theorem dX2_greatestCore_29 : decode cX2_greatestCore 29 = .ok (.lreturn, 1) := by decide +kernel
theorem dX2_greatestCore_30 : decode cX2_greatestCore 30 = .ok (.lload_n 3, 1) := by decide +kernel
theorem dX2_greatestCore_31 : decode cX2_greatestCore 31 = .ok (.lstore 10, 2) := by decide +kernel
theorem dX2_greatestCore_33 : decode cX2_greatestCore 33 = .ok (.lload_n 3, 1) := by decide +kernel
theorem dX2_greatestCore_34 : decode cX2_greatestCore 34 = .ok (.invokestatic 21, 3) := by decide +kernel
theorem dX2_greatestCore_37 : decode cX2_greatestCore 37 = .ok (.istore 12, 2) := by decide +kernel
theorem dX2_greatestCore_39 : decode cX2_greatestCore 39 = .ok (.iload 12, 2) := by decide +kernel
theorem dX2_greatestCore_41 : decode cX2_greatestCore 41 = .ok (.ifCond .le 78, 3) := by decide +kernel
theorem dX2_greatestCore_44 : decode cX2_greatestCore 44 = .ok (.iload 7, 2) := by decide +kernel
theorem dX2_greatestCore_46 : decode cX2_greatestCore 46 = .ok (.iload 12, 2) := by decide +kernel
theorem dX2_greatestCore_48 : decode cX2_greatestCore 48 = .ok (.iadd, 1) := by decide +kernel
theorem dX2_greatestCore_49 : decode cX2_greatestCore 49 = .ok (.lload 8, 2) := by decide +kernel
theorem dX2_greatestCore_51 : decode cX2_greatestCore 51 = .ok (.invokestatic 21, 3) := by decide +kernel
theorem dX2_greatestCore_54 : decode cX2_greatestCore 54 = .ok (.if_icmp .le 65, 3) := by decide +kernel
theorem dX2_greatestCore_57 : decode cX2_greatestCore 57 = .ok (.lload 10, 2) := by decide +kernel
theorem dX2_greatestCore_59 : decode cX2_greatestCore 59 = .ok (.invokestatic 31, 3) := by decide +kernel
theorem dX2_greatestCore_62 : decode cX2_greatestCore 62 = .ok (.istore 13, 2) := by decide +kernel
theorem dX2_greatestCore_64 : decode cX2_greatestCore 64 = .ok (.iload 13, 2) := by decide +kernel
theorem dX2_greatestCore_66 : decode cX2_greatestCore 66 = .ok (.ifCond .lt 10, 3) := by decide +kernel
theorem dX2_greatestCore_69 : decode cX2_greatestCore 69 = .ok (.iload 13, 2) := by decide +kernel
theorem dX2_greatestCore_71 : decode cX2_greatestCore 71 = .ok (.aload_n 0, 1) := by decide +kernel
theorem dX2_greatestCore_72 : decode cX2_greatestCore 72 = .ok (.arraylength, 1) := by decide +kernel
theorem dX2_greatestCore_73 : decode cX2_greatestCore 73 = .ok (.if_icmp .lt 6, 3) := by decide +kernel
theorem dX2_greatestCore_76 : decode cX2_greatestCore 76 = .ok (.lload 8, 2) := by decide +kernel
theorem dX2_greatestCore_78 : decode cX2_greatestCore 78 = .ok (.lreturn, 1) := by decide +kernel
theorem dX2_greatestCore_79 : decode cX2_greatestCore 79 = .ok (.lload 10, 2) := by decide +kernel
theorem dX2_greatestCore_81 : decode cX2_greatestCore 81 = .ok (.lload 10, 2) := by decide +kernel
theorem dX2_greatestCore_83 : decode cX2_greatestCore 83 = .ok (.lconst 1, 1) := by decide +kernel
theorem dX2_greatestCore_84 : decode cX2_greatestCore 84 = .ok (.lsub, 1) := by decide +kernel
theorem dX2_greatestCore_85 : decode cX2_greatestCore 85 = .ok (.land, 1) := by decide +kernel
theorem dX2_greatestCore_86 : decode cX2_greatestCore 86 = .ok (.lstore 10, 2) := by decide +kernel
theorem dX2_greatestCore_88 : decode cX2_greatestCore 88 = .ok (.aload_n 0, 1) := by decide +kernel
theorem dX2_greatestCore_89 : decode cX2_greatestCore 89 = .ok (.lload_n 1, 1) := by decide +kernel
theorem dX2_greatestCore_90 : decode cX2_greatestCore 90 = .ok (.lconst 1, 1) := by decide +kernel
theorem dX2_greatestCore_91 : decode cX2_greatestCore 91 = .ok (.iload 13, 2) := by decide +kernel
theorem dX2_greatestCore_93 : decode cX2_greatestCore 93 = .ok (.lshl, 1) := by decide +kernel
theorem dX2_greatestCore_94 : decode cX2_greatestCore 94 = .ok (.lor, 1) := by decide +kernel
theorem dX2_greatestCore_95 : decode cX2_greatestCore 95 = .ok (.lload 10, 2) := by decide +kernel
theorem dX2_greatestCore_97 : decode cX2_greatestCore 97 = .ok (.aload_n 0, 1) := by decide +kernel
theorem dX2_greatestCore_98 : decode cX2_greatestCore 98 = .ok (.iload 13, 2) := by decide +kernel
theorem dX2_greatestCore_100 : decode cX2_greatestCore 100 = .ok (.laload, 1) := by decide +kernel
theorem dX2_greatestCore_101 : decode cX2_greatestCore 101 = .ok (.land, 1) := by decide +kernel
theorem dX2_greatestCore_102 : decode cX2_greatestCore 102 = .ok (.lload 8, 2) := by decide +kernel
theorem dX2_greatestCore_104 : decode cX2_greatestCore 104 = .ok (.iload 7, 2) := by decide +kernel
theorem dX2_greatestCore_106 : decode cX2_greatestCore 106 = .ok (.iconst 1, 1) := by decide +kernel
theorem dX2_greatestCore_107 : decode cX2_greatestCore 107 = .ok (.iadd, 1) := by decide +kernel
theorem dX2_greatestCore_108 : decode cX2_greatestCore 108 = .ok (.invokestatic 34, 3) := by decide +kernel
theorem dX2_greatestCore_111 : decode cX2_greatestCore 111 = .ok (.lstore 8, 2) := by decide +kernel
theorem dX2_greatestCore_113 : decode cX2_greatestCore 113 = .ok (.iinc 12 (-1), 3) := by decide +kernel
theorem dX2_greatestCore_116 : decode cX2_greatestCore 116 = .ok (.goto (-77), 3) := by decide +kernel
theorem dX2_greatestCore_119 : decode cX2_greatestCore 119 = .ok (.lload 8, 2) := by decide +kernel
theorem dX2_greatestCore_121 : decode cX2_greatestCore 121 = .ok (.lreturn, 1) := by decide +kernel
theorem dX3_init_0 : decode cX3_init 0 = .ok (.aload_n 0, 1) := by decide +kernel
theorem dX3_init_1 : decode cX3_init 1 = .ok (.invokespecial 3, 3) := by decide +kernel
theorem dX3_init_4 : decode cX3_init 4 = .ok (.aload_n 0, 1) := by decide +kernel
theorem dX3_init_5 : decode cX3_init 5 = .ok (.bipush 30, 2) := by decide +kernel
theorem dX3_init_7 : decode cX3_init 7 = .ok (.newarray .int, 2) := by decide +kernel
theorem dX3_init_9 : decode cX3_init 9 = .ok (.putfield 9, 3) := by decide +kernel
theorem dX3_init_12 : decode cX3_init 12 = .ok (.aload_n 0, 1) := by decide +kernel
theorem dX3_init_13 : decode cX3_init 13 = .ok (.bipush 30, 2) := by decide +kernel
theorem dX3_init_15 : decode cX3_init 15 = .ok (.newarray .int, 2) := by decide +kernel
theorem dX3_init_17 : decode cX3_init 17 = .ok (.putfield 15, 3) := by decide +kernel
theorem dX3_init_20 : decode cX3_init 20 = .ok (.return_, 1) := by decide +kernel
theorem dX3_keyOf_0 : decode cX3_keyOf 0 = .ok (.aload_n 1, 1) := by decide +kernel
theorem dX3_keyOf_1 : decode cX3_keyOf 1 = .ok (.iload_n 0, 1) := by decide +kernel
theorem dX3_keyOf_2 : decode cX3_keyOf 2 = .ok (.iconst 0, 1) := by decide +kernel
theorem dX3_keyOf_3 : decode cX3_keyOf 3 = .ok (.invokevirtual 18, 3) := by decide +kernel
theorem dX3_keyOf_6 : decode cX3_keyOf 6 = .ok (.ldc 24, 2) := by decide +kernel
theorem dX3_keyOf_8 : decode cX3_keyOf 8 = .ok (.imul, 1) := by decide +kernel
theorem dX3_keyOf_9 : decode cX3_keyOf 9 = .ok (.iload_n 0, 1) := by decide +kernel
theorem dX3_keyOf_10 : decode cX3_keyOf 10 = .ok (.iadd, 1) := by decide +kernel
theorem dX3_keyOf_11 : decode cX3_keyOf 11 = .ok (.ireturn, 1) := by decide +kernel
theorem dX3_numberAt_0 : decode cX3_numberAt 0 = .ok (.iload_n 1, 1) := by decide +kernel
theorem dX3_numberAt_1 : decode cX3_numberAt 1 = .ok (.ifCond .lt 11, 3) := by decide +kernel
theorem dX3_numberAt_4 : decode cX3_numberAt 4 = .ok (.iload_n 1, 1) := by decide +kernel
theorem dX3_numberAt_5 : decode cX3_numberAt 5 = .ok (.aload_n 0, 1) := by decide +kernel
theorem dX3_numberAt_6 : decode cX3_numberAt 6 = .ok (.getfield 25, 3) := by decide +kernel
theorem dX3_numberAt_9 : decode cX3_numberAt 9 = .ok (.if_icmp .lt 7, 3) := by decide +kernel
theorem dX3_numberAt_12 : decode cX3_numberAt 12 = .ok (.iconst (-1), 1) := by decide +kernel
theorem dX3_numberAt_13 : decode cX3_numberAt 13 = .ok (.goto 12, 3) := by decide +kernel
theorem dX3_numberAt_16 : decode cX3_numberAt 16 = .ok (.aload_n 0, 1) := by decide +kernel
theorem dX3_numberAt_17 : decode cX3_numberAt 17 = .ok (.getfield 9, 3) := by decide +kernel
theorem dX3_numberAt_20 : decode cX3_numberAt 20 = .ok (.iload_n 1, 1) := by decide +kernel
theorem dX3_numberAt_21 : decode cX3_numberAt 21 = .ok (.iaload, 1) := by decide +kernel
theorem dX3_numberAt_22 : decode cX3_numberAt 22 = .ok (.ldc 24, 2) := by decide +kernel
theorem dX3_numberAt_24 : decode cX3_numberAt 24 = .ok (.irem, 1) := by decide +kernel
theorem dX3_numberAt_25 : decode cX3_numberAt 25 = .ok (.ireturn, 1) := by decide +kernel
theorem dX3_clear_0 : decode cX3_clear 0 = .ok (.aload_n 0, 1) := by decide +kernel
theorem dX3_clear_1 : decode cX3_clear 1 = .ok (.iconst 0, 1) := by decide +kernel
theorem dX3_clear_2 : decode cX3_clear 2 = .ok (.putfield 25, 3) := by decide +kernel
theorem dX3_clear_5 : decode cX3_clear 5 = .ok (.aload_n 0, 1) := by decide +kernel
theorem dX3_clear_6 : decode cX3_clear 6 = .ok (.iconst 0, 1) := by decide +kernel
theorem dX3_clear_7 : decode cX3_clear 7 = .ok (.putfield 29, 3) := by decide +kernel
theorem dX3_clear_10 : decode cX3_clear 10 = .ok (.return_, 1) := by decide +kernel
theorem dX3_insert_0 : decode cX3_insert 0 = .ok (.aload_n 0, 1) := by decide +kernel
theorem dX3_insert_1 : decode cX3_insert 1 = .ok (.iload_n 1, 1) := by decide +kernel
theorem dX3_insert_2 : decode cX3_insert 2 = .ok (.invokevirtual 32, 3) := by decide +kernel
theorem dX3_insert_5 : decode cX3_insert 5 = .ok (.istore_n 3, 1) := by decide +kernel
theorem dX3_insert_6 : decode cX3_insert 6 = .ok (.aload_n 0, 1) := by decide +kernel
theorem dX3_insert_7 : decode cX3_insert 7 = .ok (.getfield 25, 3) := by decide +kernel
theorem dX3_insert_10 : decode cX3_insert 10 = .ok (.bipush 30, 2) := by decide +kernel
theorem dX3_insert_12 : decode cX3_insert 12 = .ok (.if_icmp .ge 21, 3) := by decide +kernel
theorem dX3_insert_15 : decode cX3_insert 15 = .ok (.iload_n 3, 1) := by decide +kernel
theorem dX3_insert_16 : decode cX3_insert 16 = .ok (.aload_n 0, 1) := by decide +kernel
theorem dX3_insert_17 : decode cX3_insert 17 = .ok (.getfield 25, 3) := by decide +kernel
theorem dX3_insert_20 : decode cX3_insert 20 = .ok (.if_icmp .ge 15, 3) := by decide +kernel
theorem dX3_insert_23 : decode cX3_insert 23 = .ok (.aload_n 0, 1) := by decide +kernel
theorem dX3_insert_24 : decode cX3_insert 24 = .ok (.getfield 9, 3) := by decide +kernel
theorem dX3_insert_27 : decode cX3_insert 27 = .ok (.iload_n 3, 1) := by decide +kernel
theorem dX3_insert_28 : decode cX3_insert 28 = .ok (.iaload, 1) := by decide +kernel
theorem dX3_insert_29 : decode cX3_insert 29 = .ok (.iload_n 1, 1) := by decide +kernel
theorem dX3_insert_30 : decode cX3_insert 30 = .ok (.if_icmp .ne 5, 3) := by decide +kernel
theorem dX3_insert_33 : decode cX3_insert 33 = .ok (.iconst 0, 1) := by decide +kernel
theorem dX3_insert_34 : decode cX3_insert 34 = .ok (.ireturn, 1) := by decide +kernel
theorem dX3_insert_35 : decode cX3_insert 35 = .ok (.aload_n 0, 1) := by decide +kernel
theorem dX3_insert_36 : decode cX3_insert 36 = .ok (.getfield 9, 3) := by decide +kernel
theorem dX3_insert_39 : decode cX3_insert 39 = .ok (.iload_n 3, 1) := by decide +kernel
theorem dX3_insert_40 : decode cX3_insert 40 = .ok (.aload_n 0, 1) := by decide +kernel
theorem dX3_insert_41 : decode cX3_insert 41 = .ok (.getfield 9, 3) := by decide +kernel
theorem dX3_insert_44 : decode cX3_insert 44 = .ok (.iload_n 3, 1) := by decide +kernel
theorem dX3_insert_45 : decode cX3_insert 45 = .ok (.iconst 1, 1) := by decide +kernel
theorem dX3_insert_46 : decode cX3_insert 46 = .ok (.iadd, 1) := by decide +kernel
theorem dX3_insert_47 : decode cX3_insert 47 = .ok (.aload_n 0, 1) := by decide +kernel
theorem dX3_insert_48 : decode cX3_insert 48 = .ok (.getfield 25, 3) := by decide +kernel
theorem dX3_insert_51 : decode cX3_insert 51 = .ok (.iload_n 3, 1) := by decide +kernel
theorem dX3_insert_52 : decode cX3_insert 52 = .ok (.isub, 1) := by decide +kernel
theorem dX3_insert_53 : decode cX3_insert 53 = .ok (.invokestatic 36, 3) := by decide +kernel
theorem dX3_insert_56 : decode cX3_insert 56 = .ok (.aload_n 0, 1) := by decide +kernel
theorem dX3_insert_57 : decode cX3_insert 57 = .ok (.getfield 15, 3) := by decide +kernel
theorem dX3_insert_60 : decode cX3_insert 60 = .ok (.iload_n 3, 1) := by decide +kernel
theorem dX3_insert_61 : decode cX3_insert 61 = .ok (.aload_n 0, 1) := by decide +kernel
theorem dX3_insert_62 : decode cX3_insert 62 = .ok (.getfield 15, 3) := by decide +kernel
theorem dX3_insert_65 : decode cX3_insert 65 = .ok (.iload_n 3, 1) := by decide +kernel
theorem dX3_insert_66 : decode cX3_insert 66 = .ok (.iconst 1, 1) := by decide +kernel
theorem dX3_insert_67 : decode cX3_insert 67 = .ok (.iadd, 1) := by decide +kernel
theorem dX3_insert_68 : decode cX3_insert 68 = .ok (.aload_n 0, 1) := by decide +kernel
theorem dX3_insert_69 : decode cX3_insert 69 = .ok (.getfield 25, 3) := by decide +kernel
theorem dX3_insert_72 : decode cX3_insert 72 = .ok (.iload_n 3, 1) := by decide +kernel
theorem dX3_insert_73 : decode cX3_insert 73 = .ok (.isub, 1) := by decide +kernel
theorem dX3_insert_74 : decode cX3_insert 74 = .ok (.invokestatic 36, 3) := by decide +kernel
theorem dX3_insert_77 : decode cX3_insert 77 = .ok (.aload_n 0, 1) := by decide +kernel
theorem dX3_insert_78 : decode cX3_insert 78 = .ok (.getfield 9, 3) := by decide +kernel
theorem dX3_insert_81 : decode cX3_insert 81 = .ok (.iload_n 3, 1) := by decide +kernel
theorem dX3_insert_82 : decode cX3_insert 82 = .ok (.iload_n 1, 1) := by decide +kernel
theorem dX3_insert_83 : decode cX3_insert 83 = .ok (.iastore, 1) := by decide +kernel
theorem dX3_insert_84 : decode cX3_insert 84 = .ok (.aload_n 0, 1) := by decide +kernel
theorem dX3_insert_85 : decode cX3_insert 85 = .ok (.getfield 15, 3) := by decide +kernel
theorem dX3_insert_88 : decode cX3_insert 88 = .ok (.iload_n 3, 1) := by decide +kernel
theorem dX3_insert_89 : decode cX3_insert 89 = .ok (.iload_n 2, 1) := by decide +kernel
theorem dX3_insert_90 : decode cX3_insert 90 = .ok (.iastore, 1) := by decide +kernel
theorem dX3_insert_91 : decode cX3_insert 91 = .ok (.aload_n 0, 1) := by decide +kernel
theorem dX3_insert_92 : decode cX3_insert 92 = .ok (.dup, 1) := by decide +kernel
theorem dX3_insert_93 : decode cX3_insert 93 = .ok (.getfield 25, 3) := by decide +kernel
theorem dX3_insert_96 : decode cX3_insert 96 = .ok (.iconst 1, 1) := by decide +kernel
theorem dX3_insert_97 : decode cX3_insert 97 = .ok (.iadd, 1) := by decide +kernel
theorem dX3_insert_98 : decode cX3_insert 98 = .ok (.putfield 25, 3) := by decide +kernel
theorem dX3_insert_101 : decode cX3_insert 101 = .ok (.aload_n 0, 1) := by decide +kernel
theorem dX3_insert_102 : decode cX3_insert 102 = .ok (.dup, 1) := by decide +kernel
theorem dX3_insert_103 : decode cX3_insert 103 = .ok (.getfield 29, 3) := by decide +kernel
theorem dX3_insert_106 : decode cX3_insert 106 = .ok (.iload_n 2, 1) := by decide +kernel
theorem dX3_insert_107 : decode cX3_insert 107 = .ok (.iadd, 1) := by decide +kernel
theorem dX3_insert_108 : decode cX3_insert 108 = .ok (.putfield 29, 3) := by decide +kernel
theorem dX3_insert_111 : decode cX3_insert 111 = .ok (.iconst 1, 1) := by decide +kernel
theorem dX3_insert_112 : decode cX3_insert 112 = .ok (.ireturn, 1) := by decide +kernel
theorem dX3_remove_0 : decode cX3_remove 0 = .ok (.aload_n 0, 1) := by decide +kernel
theorem dX3_remove_1 : decode cX3_remove 1 = .ok (.iload_n 1, 1) := by decide +kernel
theorem dX3_remove_2 : decode cX3_remove 2 = .ok (.invokevirtual 32, 3) := by decide +kernel
theorem dX3_remove_5 : decode cX3_remove 5 = .ok (.istore_n 2, 1) := by decide +kernel
theorem dX3_remove_6 : decode cX3_remove 6 = .ok (.iload_n 2, 1) := by decide +kernel
theorem dX3_remove_7 : decode cX3_remove 7 = .ok (.aload_n 0, 1) := by decide +kernel
theorem dX3_remove_8 : decode cX3_remove 8 = .ok (.getfield 25, 3) := by decide +kernel
theorem dX3_remove_11 : decode cX3_remove 11 = .ok (.if_icmp .ge 13, 3) := by decide +kernel
theorem dX3_remove_14 : decode cX3_remove 14 = .ok (.aload_n 0, 1) := by decide +kernel
theorem dX3_remove_15 : decode cX3_remove 15 = .ok (.getfield 9, 3) := by decide +kernel
theorem dX3_remove_18 : decode cX3_remove 18 = .ok (.iload_n 2, 1) := by decide +kernel
theorem dX3_remove_19 : decode cX3_remove 19 = .ok (.iaload, 1) := by decide +kernel
theorem dX3_remove_20 : decode cX3_remove 20 = .ok (.iload_n 1, 1) := by decide +kernel
theorem dX3_remove_21 : decode cX3_remove 21 = .ok (.if_icmp .eq 5, 3) := by decide +kernel
theorem dX3_remove_24 : decode cX3_remove 24 = .ok (.iconst 0, 1) := by decide +kernel
theorem dX3_remove_25 : decode cX3_remove 25 = .ok (.ireturn, 1) := by decide +kernel
theorem dX3_remove_26 : decode cX3_remove 26 = .ok (.aload_n 0, 1) := by decide +kernel
theorem dX3_remove_27 : decode cX3_remove 27 = .ok (.dup, 1) := by decide +kernel
theorem dX3_remove_28 : decode cX3_remove 28 = .ok (.getfield 25, 3) := by decide +kernel
theorem dX3_remove_31 : decode cX3_remove 31 = .ok (.iconst 1, 1) := by decide +kernel
theorem dX3_remove_32 : decode cX3_remove 32 = .ok (.isub, 1) := by decide +kernel
theorem dX3_remove_33 : decode cX3_remove 33 = .ok (.putfield 25, 3) := by decide +kernel
theorem dX3_remove_36 : decode cX3_remove 36 = .ok (.aload_n 0, 1) := by decide +kernel
theorem dX3_remove_37 : decode cX3_remove 37 = .ok (.dup, 1) := by decide +kernel
theorem dX3_remove_38 : decode cX3_remove 38 = .ok (.getfield 29, 3) := by decide +kernel
theorem dX3_remove_41 : decode cX3_remove 41 = .ok (.aload_n 0, 1) := by decide +kernel
theorem dX3_remove_42 : decode cX3_remove 42 = .ok (.getfield 15, 3) := by decide +kernel
theorem dX3_remove_45 : decode cX3_remove 45 = .ok (.iload_n 2, 1) := by decide +kernel
theorem dX3_remove_46 : decode cX3_remove 46 = .ok (.iaload, 1) := by decide +kernel
theorem dX3_remove_47 : decode cX3_remove 47 = .ok (.isub, 1) := by decide +kernel
theorem dX3_remove_48 : decode cX3_remove 48 = .ok (.putfield 29, 3) := by decide +kernel
theorem dX3_remove_51 : decode cX3_remove 51 = .ok (.aload_n 0, 1) := by decide +kernel
theorem dX3_remove_52 : decode cX3_remove 52 = .ok (.getfield 9, 3) := by decide +kernel
theorem dX3_remove_55 : decode cX3_remove 55 = .ok (.iload_n 2, 1) := by decide +kernel
theorem dX3_remove_56 : decode cX3_remove 56 = .ok (.iconst 1, 1) := by decide +kernel
theorem dX3_remove_57 : decode cX3_remove 57 = .ok (.iadd, 1) := by decide +kernel
theorem dX3_remove_58 : decode cX3_remove 58 = .ok (.aload_n 0, 1) := by decide +kernel
theorem dX3_remove_59 : decode cX3_remove 59 = .ok (.getfield 9, 3) := by decide +kernel
theorem dX3_remove_62 : decode cX3_remove 62 = .ok (.iload_n 2, 1) := by decide +kernel
theorem dX3_remove_63 : decode cX3_remove 63 = .ok (.aload_n 0, 1) := by decide +kernel
theorem dX3_remove_64 : decode cX3_remove 64 = .ok (.getfield 25, 3) := by decide +kernel
theorem dX3_remove_67 : decode cX3_remove 67 = .ok (.iload_n 2, 1) := by decide +kernel
theorem dX3_remove_68 : decode cX3_remove 68 = .ok (.isub, 1) := by decide +kernel
theorem dX3_remove_69 : decode cX3_remove 69 = .ok (.invokestatic 36, 3) := by decide +kernel
theorem dX3_remove_72 : decode cX3_remove 72 = .ok (.aload_n 0, 1) := by decide +kernel
theorem dX3_remove_73 : decode cX3_remove 73 = .ok (.getfield 15, 3) := by decide +kernel
theorem dX3_remove_76 : decode cX3_remove 76 = .ok (.iload_n 2, 1) := by decide +kernel
theorem dX3_remove_77 : decode cX3_remove 77 = .ok (.iconst 1, 1) := by decide +kernel
theorem dX3_remove_78 : decode cX3_remove 78 = .ok (.iadd, 1) := by decide +kernel
theorem dX3_remove_79 : decode cX3_remove 79 = .ok (.aload_n 0, 1) := by decide +kernel
theorem dX3_remove_80 : decode cX3_remove 80 = .ok (.getfield 15, 3) := by decide +kernel
theorem dX3_remove_83 : decode cX3_remove 83 = .ok (.iload_n 2, 1) := by decide +kernel
theorem dX3_remove_84 : decode cX3_remove 84 = .ok (.aload_n 0, 1) := by decide +kernel
theorem dX3_remove_85 : decode cX3_remove 85 = .ok (.getfield 25, 3) := by decide +kernel
theorem dX3_remove_88 : decode cX3_remove 88 = .ok (.iload_n 2, 1) := by decide +kernel
theorem dX3_remove_89 : decode cX3_remove 89 = .ok (.isub, 1) := by decide +kernel
theorem dX3_remove_90 : decode cX3_remove 90 = .ok (.invokestatic 36, 3) := by decide +kernel
theorem dX3_remove_93 : decode cX3_remove 93 = .ok (.iconst 1, 1) := by decide +kernel
theorem dX3_remove_94 : decode cX3_remove 94 = .ok (.ireturn, 1) := by decide +kernel
theorem dX3_reweigh_0 : decode cX3_reweigh 0 = .ok (.iload_n 1, 1) := by decide +kernel
theorem dX3_reweigh_1 : decode cX3_reweigh 1 = .ok (.ifCond .lt 35, 3) := by decide +kernel
theorem dX3_reweigh_4 : decode cX3_reweigh 4 = .ok (.iload_n 1, 1) := by decide +kernel
theorem dX3_reweigh_5 : decode cX3_reweigh 5 = .ok (.aload_n 0, 1) := by decide +kernel
theorem dX3_reweigh_6 : decode cX3_reweigh 6 = .ok (.getfield 25, 3) := by decide +kernel
theorem dX3_reweigh_9 : decode cX3_reweigh 9 = .ok (.if_icmp .ge 27, 3) := by decide +kernel
theorem dX3_reweigh_12 : decode cX3_reweigh 12 = .ok (.aload_n 0, 1) := by decide +kernel
theorem dX3_reweigh_13 : decode cX3_reweigh 13 = .ok (.dup, 1) := by decide +kernel
theorem dX3_reweigh_14 : decode cX3_reweigh 14 = .ok (.getfield 29, 3) := by decide +kernel
theorem dX3_reweigh_17 : decode cX3_reweigh 17 = .ok (.iload_n 2, 1) := by decide +kernel
theorem dX3_reweigh_18 : decode cX3_reweigh 18 = .ok (.aload_n 0, 1) := by decide +kernel
theorem dX3_reweigh_19 : decode cX3_reweigh 19 = .ok (.getfield 15, 3) := by decide +kernel
theorem dX3_reweigh_22 : decode cX3_reweigh 22 = .ok (.iload_n 1, 1) := by decide +kernel
theorem dX3_reweigh_23 : decode cX3_reweigh 23 = .ok (.iaload, 1) := by decide +kernel
theorem dX3_reweigh_24 : decode cX3_reweigh 24 = .ok (.isub, 1) := by decide +kernel
theorem dX3_reweigh_25 : decode cX3_reweigh 25 = .ok (.iadd, 1) := by decide +kernel
theorem dX3_reweigh_26 : decode cX3_reweigh 26 = .ok (.putfield 29, 3) := by decide +kernel
theorem dX3_reweigh_29 : decode cX3_reweigh 29 = .ok (.aload_n 0, 1) := by decide +kernel
theorem dX3_reweigh_30 : decode cX3_reweigh 30 = .ok (.getfield 15, 3) := by decide +kernel
theorem dX3_reweigh_33 : decode cX3_reweigh 33 = .ok (.iload_n 1, 1) := by decide +kernel
theorem dX3_reweigh_34 : decode cX3_reweigh 34 = .ok (.iload_n 2, 1) := by decide +kernel
theorem dX3_reweigh_35 : decode cX3_reweigh 35 = .ok (.iastore, 1) := by decide +kernel
theorem dX3_reweigh_36 : decode cX3_reweigh 36 = .ok (.return_, 1) := by decide +kernel
theorem dX3_putInOrder_0 : decode cX3_putInOrder 0 = .ok (.aload_n 0, 1) := by decide +kernel
theorem dX3_putInOrder_1 : decode cX3_putInOrder 1 = .ok (.getfield 25, 3) := by decide +kernel
theorem dX3_putInOrder_4 : decode cX3_putInOrder 4 = .ok (.istore_n 2, 1) := by decide +kernel
theorem dX3_putInOrder_5 : decode cX3_putInOrder 5 = .ok (.aload_n 0, 1) := by decide +kernel
theorem dX3_putInOrder_6 : decode cX3_putInOrder 6 = .ok (.invokevirtual 42, 3) := by decide +kernel
theorem dX3_putInOrder_9 : decode cX3_putInOrder 9 = .ok (.iconst 0, 1) := by decide +kernel
theorem dX3_putInOrder_10 : decode cX3_putInOrder 10 = .ok (.istore_n 3, 1) := by decide +kernel
theorem dX3_putInOrder_11 : decode cX3_putInOrder 11 = .ok (.iload_n 3, 1) := by decide +kernel
theorem dX3_putInOrder_12 : decode cX3_putInOrder 12 = .ok (.iload_n 2, 1) := by decide +kernel
theorem dX3_putInOrder_13 : decode cX3_putInOrder 13 = .ok (.if_icmp .ge 33, 3) := by decide +kernel
theorem dX3_putInOrder_16 : decode cX3_putInOrder 16 = .ok (.aload_n 0, 1) := by decide +kernel
theorem dX3_putInOrder_17 : decode cX3_putInOrder 17 = .ok (.aload_n 0, 1) := by decide +kernel
theorem dX3_putInOrder_18 : decode cX3_putInOrder 18 = .ok (.getfield 9, 3) := by decide +kernel
theorem dX3_putInOrder_21 : decode cX3_putInOrder 21 = .ok (.iload_n 3, 1) := by decide +kernel
theorem dX3_putInOrder_22 : decode cX3_putInOrder 22 = .ok (.iaload, 1) := by decide +kernel
theorem dX3_putInOrder_23 : decode cX3_putInOrder 23 = .ok (.ldc 24, 2) := by decide +kernel
theorem dX3_putInOrder_25 : decode cX3_putInOrder 25 = .ok (.irem, 1) := by decide +kernel
theorem dX3_putInOrder_26 : decode cX3_putInOrder 26 = .ok (.aload_n 1, 1) := by decide +kernel
theorem dX3_putInOrder_27 : decode cX3_putInOrder 27 = .ok (.invokestatic 45, 3) := by decide +kernel
theorem dX3_putInOrder_30 : decode cX3_putInOrder 30 = .ok (.aload_n 0, 1) := by decide +kernel
theorem dX3_putInOrder_31 : decode cX3_putInOrder 31 = .ok (.getfield 15, 3) := by decide +kernel
theorem dX3_putInOrder_34 : decode cX3_putInOrder 34 = .ok (.iload_n 3, 1) := by decide +kernel
theorem dX3_putInOrder_35 : decode cX3_putInOrder 35 = .ok (.iaload, 1) := by decide +kernel
theorem dX3_putInOrder_36 : decode cX3_putInOrder 36 = .ok (.invokevirtual 49, 3) := by decide +kernel
theorem dX3_putInOrder_39 : decode cX3_putInOrder 39 = .ok (.pop, 1) := by decide +kernel
theorem dX3_putInOrder_40 : decode cX3_putInOrder 40 = .ok (.iinc 3 1, 3) := by decide +kernel
theorem dX3_putInOrder_43 : decode cX3_putInOrder 43 = .ok (.goto (-32), 3) := by decide +kernel
theorem dX3_putInOrder_46 : decode cX3_putInOrder 46 = .ok (.return_, 1) := by decide +kernel
theorem dX3_countBeginning_0 : decode cX3_countBeginning 0 = .ok (.iconst 0, 1) := by decide +kernel
theorem dX3_countBeginning_1 : decode cX3_countBeginning 1 = .ok (.istore_n 3, 1) := by decide +kernel
theorem dX3_countBeginning_2 : decode cX3_countBeginning 2 = .ok (.aload_n 0, 1) := by decide +kernel
theorem dX3_countBeginning_3 : decode cX3_countBeginning 3 = .ok (.getfield 29, 3) := by decide +kernel
theorem dX3_countBeginning_6 : decode cX3_countBeginning 6 = .ok (.istore 4, 2) := by decide +kernel
theorem dX3_countBeginning_8 : decode cX3_countBeginning 8 = .ok (.iload_n 3, 1) := by decide +kernel
theorem dX3_countBeginning_9 : decode cX3_countBeginning 9 = .ok (.aload_n 0, 1) := by decide +kernel
theorem dX3_countBeginning_10 : decode cX3_countBeginning 10 = .ok (.getfield 25, 3) := by decide +kernel
theorem dX3_countBeginning_13 : decode cX3_countBeginning 13 = .ok (.if_icmp .ge 28, 3) := by decide +kernel
theorem dX3_countBeginning_16 : decode cX3_countBeginning 16 = .ok (.iload 4, 2) := by decide +kernel
theorem dX3_countBeginning_18 : decode cX3_countBeginning 18 = .ok (.i2l, 1) := by decide +kernel
theorem dX3_countBeginning_19 : decode cX3_countBeginning 19 = .ok (.lload_n 1, 1) := by decide +kernel
theorem dX3_countBeginning_20 : decode cX3_countBeginning 20 = .ok (.lcmp, 1) := by decide +kernel
theorem dX3_countBeginning_21 : decode cX3_countBeginning 21 = .ok (.ifCond .lt 20, 3) := by decide +kernel
theorem dX3_countBeginning_24 : decode cX3_countBeginning 24 = .ok (.iload 4, 2) := by decide +kernel
theorem dX3_countBeginning_26 : decode cX3_countBeginning 26 = .ok (.aload_n 0, 1) := by decide +kernel
theorem dX3_countBeginning_27 : decode cX3_countBeginning 27 = .ok (.getfield 15, 3) := by decide +kernel
theorem dX3_countBeginning_30 : decode cX3_countBeginning 30 = .ok (.iload_n 3, 1) := by decide +kernel
theorem dX3_countBeginning_31 : decode cX3_countBeginning 31 = .ok (.iaload, 1) := by decide +kernel
theorem dX3_countBeginning_32 : decode cX3_countBeginning 32 = .ok (.isub, 1) := by decide +kernel
theorem dX3_countBeginning_33 : decode cX3_countBeginning 33 = .ok (.istore 4, 2) := by decide +kernel
theorem dX3_countBeginning_35 : decode cX3_countBeginning 35 = .ok (.iinc 3 1, 3) := by decide +kernel
theorem dX3_countBeginning_38 : decode cX3_countBeginning 38 = .ok (.goto (-30), 3) := by decide +kernel
theorem dX3_countBeginning_41 : decode cX3_countBeginning 41 = .ok (.iload_n 3, 1) := by decide +kernel
theorem dX3_countBeginning_42 : decode cX3_countBeginning 42 = .ok (.ireturn, 1) := by decide +kernel
theorem dX3_amountBehind_0 : decode cX3_amountBehind 0 = .ok (.iconst 0, 1) := by decide +kernel
theorem dX3_amountBehind_1 : decode cX3_amountBehind 1 = .ok (.istore_n 2, 1) := by decide +kernel
theorem dX3_amountBehind_2 : decode cX3_amountBehind 2 = .ok (.iload_n 1, 1) := by decide +kernel
theorem dX3_amountBehind_3 : decode cX3_amountBehind 3 = .ok (.iconst 1, 1) := by decide +kernel
theorem dX3_amountBehind_4 : decode cX3_amountBehind 4 = .ok (.iadd, 1) := by decide +kernel
theorem dX3_amountBehind_5 : decode cX3_amountBehind 5 = .ok (.istore_n 3, 1) := by decide +kernel
theorem dX3_amountBehind_6 : decode cX3_amountBehind 6 = .ok (.iload_n 3, 1) := by decide +kernel
theorem dX3_amountBehind_7 : decode cX3_amountBehind 7 = .ok (.aload_n 0, 1) := by decide +kernel
theorem dX3_amountBehind_8 : decode cX3_amountBehind 8 = .ok (.getfield 25, 3) := by decide +kernel
theorem dX3_amountBehind_11 : decode cX3_amountBehind 11 = .ok (.if_icmp .ge 18, 3) := by decide +kernel
theorem dX3_amountBehind_14 : decode cX3_amountBehind 14 = .ok (.iload_n 2, 1) := by decide +kernel
theorem dX3_amountBehind_15 : decode cX3_amountBehind 15 = .ok (.aload_n 0, 1) := by decide +kernel
theorem dX3_amountBehind_16 : decode cX3_amountBehind 16 = .ok (.getfield 15, 3) := by decide +kernel
theorem dX3_amountBehind_19 : decode cX3_amountBehind 19 = .ok (.iload_n 3, 1) := by decide +kernel
theorem dX3_amountBehind_20 : decode cX3_amountBehind 20 = .ok (.iaload, 1) := by decide +kernel
theorem dX3_amountBehind_21 : decode cX3_amountBehind 21 = .ok (.iadd, 1) := by decide +kernel
theorem dX3_amountBehind_22 : decode cX3_amountBehind 22 = .ok (.istore_n 2, 1) := by decide +kernel
theorem dX3_amountBehind_23 : decode cX3_amountBehind 23 = .ok (.iinc 3 1, 3) := by decide +kernel
theorem dX3_amountBehind_26 : decode cX3_amountBehind 26 = .ok (.goto (-20), 3) := by decide +kernel
theorem dX3_amountBehind_29 : decode cX3_amountBehind 29 = .ok (.iload_n 2, 1) := by decide +kernel
theorem dX3_amountBehind_30 : decode cX3_amountBehind 30 = .ok (.ireturn, 1) := by decide +kernel
theorem dX3_placeOf_0 : decode cX3_placeOf 0 = .ok (.iconst 0, 1) := by decide +kernel
theorem dX3_placeOf_1 : decode cX3_placeOf 1 = .ok (.istore_n 2, 1) := by decide +kernel
theorem dX3_placeOf_2 : decode cX3_placeOf 2 = .ok (.iload_n 2, 1) := by decide +kernel
theorem dX3_placeOf_3 : decode cX3_placeOf 3 = .ok (.aload_n 0, 1) := by decide +kernel
theorem dX3_placeOf_4 : decode cX3_placeOf 4 = .ok (.getfield 25, 3) := by decide +kernel
theorem dX3_placeOf_7 : decode cX3_placeOf 7 = .ok (.if_icmp .ge 19, 3) := by decide +kernel
theorem dX3_placeOf_10 : decode cX3_placeOf 10 = .ok (.aload_n 0, 1) := by decide +kernel
theorem dX3_placeOf_11 : decode cX3_placeOf 11 = .ok (.getfield 9, 3) := by decide +kernel
theorem dX3_placeOf_14 : decode cX3_placeOf 14 = .ok (.iload_n 2, 1) := by decide +kernel
theorem dX3_placeOf_15 : decode cX3_placeOf 15 = .ok (.iaload, 1) := by decide +kernel
theorem dX3_placeOf_16 : decode cX3_placeOf 16 = .ok (.iload_n 1, 1) := by decide +kernel
theorem dX3_placeOf_17 : decode cX3_placeOf 17 = .ok (.if_icmp .ge 9, 3) := by decide +kernel
theorem dX3_placeOf_20 : decode cX3_placeOf 20 = .ok (.iinc 2 1, 3) := by decide +kernel
theorem dX3_placeOf_23 : decode cX3_placeOf 23 = .ok (.goto (-21), 3) := by decide +kernel
theorem dX3_placeOf_26 : decode cX3_placeOf 26 = .ok (.iload_n 2, 1) := by decide +kernel
theorem dX3_placeOf_27 : decode cX3_placeOf 27 = .ok (.ireturn, 1) := by decide +kernel
theorem dX4_init_0 : decode cX4_init 0 = .ok (.aload_n 0, 1) := by decide +kernel
theorem dX4_init_1 : decode cX4_init 1 = .ok (.invokespecial 1, 3) := by decide +kernel
theorem dX4_init_4 : decode cX4_init 4 = .ok (.return_, 1) := by decide +kernel
theorem dX4_compare_0 : decode cX4_compare 0 = .ok (.aload_n 0, 1) := by decide +kernel
theorem dX4_compare_1 : decode cX4_compare 1 = .ok (.iconst 0, 1) := by decide +kernel
theorem dX4_compare_2 : decode cX4_compare 2 = .ok (.putfield 7, 3) := by decide +kernel
theorem dX4_compare_5 : decode cX4_compare 5 = .ok (.aload_n 0, 1) := by decide +kernel
theorem dX4_compare_6 : decode cX4_compare 6 = .ok (.iconst 0, 1) := by decide +kernel
theorem dX4_compare_7 : decode cX4_compare 7 = .ok (.putfield 13, 3) := by decide +kernel
theorem dX4_compare_10 : decode cX4_compare 10 = .ok (.aload_n 0, 1) := by decide +kernel
theorem dX4_compare_11 : decode cX4_compare 11 = .ok (.iconst 0, 1) := by decide +kernel
theorem dX4_compare_12 : decode cX4_compare 12 = .ok (.putfield 16, 3) := by decide +kernel
theorem dX4_compare_15 : decode cX4_compare 15 = .ok (.iconst 0, 1) := by decide +kernel
theorem dX4_compare_16 : decode cX4_compare 16 = .ok (.istore 5, 2) := by decide +kernel
theorem dX4_compare_18 : decode cX4_compare 18 = .ok (.iconst 0, 1) := by decide +kernel
theorem dX4_compare_19 : decode cX4_compare 19 = .ok (.istore 6, 2) := by decide +kernel
theorem dX4_compare_21 : decode cX4_compare 21 = .ok (.iload 5, 2) := by decide +kernel
theorem dX4_compare_23 : decode cX4_compare 23 = .ok (.aload_n 1, 1) := by decide +kernel
theorem dX4_compare_24 : decode cX4_compare 24 = .ok (.getfield 19, 3) := by decide +kernel
theorem dX4_compare_27 : decode cX4_compare 27 = .ok (.if_icmp .ge 133, 3) := by decide +kernel
theorem dX4_compare_30 : decode cX4_compare 30 = .ok (.iload 6, 2) := by decide +kernel
theorem dX4_compare_32 : decode cX4_compare 32 = .ok (.aload_n 3, 1) := by decide +kernel
theorem dX4_compare_33 : decode cX4_compare 33 = .ok (.getfield 19, 3) := by decide +kernel
theorem dX4_compare_36 : decode cX4_compare 36 = .ok (.if_icmp .ge 124, 3) := by decide +kernel
theorem dX4_compare_39 : decode cX4_compare 39 = .ok (.aload_n 1, 1) := by decide +kernel
theorem dX4_compare_40 : decode cX4_compare 40 = .ok (.getfield 24, 3) := by decide +kernel
theorem dX4_compare_43 : decode cX4_compare 43 = .ok (.iload 5, 2) := by decide +kernel
theorem dX4_compare_45 : decode cX4_compare 45 = .ok (.iaload, 1) := by decide +kernel
theorem dX4_compare_46 : decode cX4_compare 46 = .ok (.istore 7, 2) := by decide +kernel
theorem dX4_compare_48 : decode cX4_compare 48 = .ok (.aload_n 3, 1) := by decide +kernel
theorem dX4_compare_49 : decode cX4_compare 49 = .ok (.getfield 24, 3) := by decide +kernel
theorem dX4_compare_52 : decode cX4_compare 52 = .ok (.iload 6, 2) := by decide +kernel
theorem dX4_compare_54 : decode cX4_compare 54 = .ok (.iaload, 1) := by decide +kernel
theorem dX4_compare_55 : decode cX4_compare 55 = .ok (.istore 8, 2) := by decide +kernel
theorem dX4_compare_57 : decode cX4_compare 57 = .ok (.iload 7, 2) := by decide +kernel
theorem dX4_compare_59 : decode cX4_compare 59 = .ok (.iload 8, 2) := by decide +kernel
theorem dX4_compare_61 : decode cX4_compare 61 = .ok (.if_icmp .ne 76, 3) := by decide +kernel
theorem dX4_compare_64 : decode cX4_compare 64 = .ok (.aload_n 0, 1) := by decide +kernel
theorem dX4_compare_65 : decode cX4_compare 65 = .ok (.getfield 7, 3) := by decide +kernel
theorem dX4_compare_68 : decode cX4_compare 68 = .ok (.ifCond .ne 30, 3) := by decide +kernel
theorem dX4_compare_71 : decode cX4_compare 71 = .ok (.aload_n 0, 1) := by decide +kernel
theorem dX4_compare_72 : decode cX4_compare 72 = .ok (.aload_n 1, 1) := by decide +kernel
theorem dX4_compare_73 : decode cX4_compare 73 = .ok (.getfield 28, 3) := by decide +kernel
theorem dX4_compare_76 : decode cX4_compare 76 = .ok (.iload 5, 2) := by decide +kernel
theorem dX4_compare_78 : decode cX4_compare 78 = .ok (.iaload, 1) := by decide +kernel
theorem dX4_compare_79 : decode cX4_compare 79 = .ok (.aload_n 1, 1) := by decide +kernel
theorem dX4_compare_80 : decode cX4_compare 80 = .ok (.iload 5, 2) := by decide +kernel
theorem dX4_compare_82 : decode cX4_compare 82 = .ok (.invokevirtual 31, 3) := by decide +kernel
theorem dX4_compare_85 : decode cX4_compare 85 = .ok (.aload_n 3, 1) := by decide +kernel
theorem dX4_compare_86 : decode cX4_compare 86 = .ok (.iload 6, 2) := by decide +kernel
theorem dX4_compare_88 : decode cX4_compare 88 = .ok (.invokevirtual 31, 3) := by decide +kernel
theorem dX4_compare_91 : decode cX4_compare 91 = .ok (.invokestatic 35, 3) := by decide +kernel
theorem dX4_compare_94 : decode cX4_compare 94 = .ok (.iadd, 1) := by decide +kernel
theorem dX4_compare_95 : decode cX4_compare 95 = .ok (.putfield 16, 3) := by decide +kernel
theorem dX4_compare_98 : decode cX4_compare 98 = .ok (.iload 5, 2) := by decide +kernel
theorem dX4_compare_100 : decode cX4_compare 100 = .ok (.iload_n 2, 1) := by decide +kernel
theorem dX4_compare_101 : decode cX4_compare 101 = .ok (.if_icmp .ge 20, 3) := by decide +kernel
theorem dX4_compare_104 : decode cX4_compare 104 = .ok (.iload 6, 2) := by decide +kernel
theorem dX4_compare_106 : decode cX4_compare 106 = .ok (.iload 4, 2) := by decide +kernel
theorem dX4_compare_108 : decode cX4_compare 108 = .ok (.if_icmp .ge 13, 3) := by decide +kernel
theorem dX4_compare_111 : decode cX4_compare 111 = .ok (.aload_n 0, 1) := by decide +kernel
theorem dX4_compare_112 : decode cX4_compare 112 = .ok (.dup, 1) := by decide +kernel
theorem dX4_compare_113 : decode cX4_compare 113 = .ok (.getfield 13, 3) := by decide +kernel
theorem dX4_compare_116 : decode cX4_compare 116 = .ok (.iconst 1, 1) := by decide +kernel
theorem dX4_compare_117 : decode cX4_compare 117 = .ok (.iadd, 1) := by decide +kernel
theorem dX4_compare_118 : decode cX4_compare 118 = .ok (.putfield 13, 3) := by decide +kernel
theorem dX4_compare_121 : decode cX4_compare 121 = .ok (.aload_n 0, 1) := by decide +kernel
theorem dX4_compare_122 : decode cX4_compare 122 = .ok (.dup, 1) := by decide +kernel
theorem dX4_compare_123 : decode cX4_compare 123 = .ok (.getfield 7, 3) := by decide +kernel
theorem dX4_compare_126 : decode cX4_compare 126 = .ok (.aload_n 1, 1) := by decide +kernel
theorem dX4_compare_127 : decode cX4_compare 127 = .ok (.getfield 28, 3) := by decide +kernel
theorem dX4_compare_130 : decode cX4_compare 130 = .ok (.iload 5, 2) := by decide +kernel
theorem dX4_compare_132 : decode cX4_compare 132 = .ok (.iaload, 1) := by decide +kernel
theorem dX4_compare_133 : decode cX4_compare 133 = .ok (.iadd, 1) := by decide +kernel
theorem dX4_compare_134 : decode cX4_compare 134 = .ok (.putfield 7, 3) := by decide +kernel
theorem dX4_compare_137 : decode cX4_compare 137 = .ok (.iload 7, 2) := by decide +kernel
theorem dX4_compare_139 : decode cX4_compare 139 = .ok (.iload 8, 2) := by decide +kernel
theorem dX4_compare_141 : decode cX4_compare 141 = .ok (.if_icmp .gt 6, 3) := by decide +kernel
theorem dX4_compare_144 : decode cX4_compare 144 = .ok (.iinc 5 1, 3) := by decide +kernel
theorem dX4_compare_147 : decode cX4_compare 147 = .ok (.iload 8, 2) := by decide +kernel
theorem dX4_compare_149 : decode cX4_compare 149 = .ok (.iload 7, 2) := by decide +kernel
theorem dX4_compare_151 : decode cX4_compare 151 = .ok (.if_icmp .gt 6, 3) := by decide +kernel
theorem dX4_compare_154 : decode cX4_compare 154 = .ok (.iinc 6 1, 3) := by decide +kernel
theorem dX4_compare_157 : decode cX4_compare 157 = .ok (.goto (-136), 3) := by decide +kernel
theorem dX4_compare_160 : decode cX4_compare 160 = .ok (.return_, 1) := by decide +kernel
theorem dX5_init_0 : decode cX5_init 0 = .ok (.aload_n 0, 1) := by decide +kernel
theorem dX5_init_1 : decode cX5_init 1 = .ok (.invokespecial 1, 3) := by decide +kernel
theorem dX5_init_4 : decode cX5_init 4 = .ok (.aload_n 0, 1) := by decide +kernel
theorem dX5_init_5 : decode cX5_init 5 = .ok (.iload_n 1, 1) := by decide +kernel
theorem dX5_init_6 : decode cX5_init 6 = .ok (.newarray .int, 2) := by decide +kernel
theorem dX5_init_8 : decode cX5_init 8 = .ok (.putfield 7, 3) := by decide +kernel
theorem dX5_init_11 : decode cX5_init 11 = .ok (.aload_n 0, 1) := by decide +kernel
theorem dX5_init_12 : decode cX5_init 12 = .ok (.iload_n 1, 1) := by decide +kernel
theorem dX5_init_13 : decode cX5_init 13 = .ok (.newarray .int, 2) := by decide +kernel
theorem dX5_init_15 : decode cX5_init 15 = .ok (.putfield 13, 3) := by decide +kernel
theorem dX5_init_18 : decode cX5_init 18 = .ok (.return_, 1) := by decide +kernel
theorem dX5_clear_0 : decode cX5_clear 0 = .ok (.aload_n 0, 1) := by decide +kernel
theorem dX5_clear_1 : decode cX5_clear 1 = .ok (.iconst 0, 1) := by decide +kernel
theorem dX5_clear_2 : decode cX5_clear 2 = .ok (.putfield 16, 3) := by decide +kernel
theorem dX5_clear_5 : decode cX5_clear 5 = .ok (.return_, 1) := by decide +kernel
theorem dX5_valueOf_0 : decode cX5_valueOf 0 = .ok (.aload_n 0, 1) := by decide +kernel
theorem dX5_valueOf_1 : decode cX5_valueOf 1 = .ok (.iload_n 1, 1) := by decide +kernel
theorem dX5_valueOf_2 : decode cX5_valueOf 2 = .ok (.invokevirtual 20, 3) := by decide +kernel
theorem dX5_valueOf_5 : decode cX5_valueOf 5 = .ok (.istore_n 3, 1) := by decide +kernel
theorem dX5_valueOf_6 : decode cX5_valueOf 6 = .ok (.aload_n 0, 1) := by decide +kernel
theorem dX5_valueOf_7 : decode cX5_valueOf 7 = .ok (.iload_n 1, 1) := by decide +kernel
theorem dX5_valueOf_8 : decode cX5_valueOf 8 = .ok (.iload_n 3, 1) := by decide +kernel
theorem dX5_valueOf_9 : decode cX5_valueOf 9 = .ok (.invokevirtual 24, 3) := by decide +kernel
theorem dX5_valueOf_12 : decode cX5_valueOf 12 = .ok (.ifCond .eq 12, 3) := by decide +kernel
theorem dX5_valueOf_15 : decode cX5_valueOf 15 = .ok (.aload_n 0, 1) := by decide +kernel
theorem dX5_valueOf_16 : decode cX5_valueOf 16 = .ok (.getfield 13, 3) := by decide +kernel
theorem dX5_valueOf_19 : decode cX5_valueOf 19 = .ok (.iload_n 3, 1) := by decide +kernel
theorem dX5_valueOf_20 : decode cX5_valueOf 20 = .ok (.iaload, 1) := by decide +kernel
theorem dX5_valueOf_21 : decode cX5_valueOf 21 = .ok (.goto 4, 3) := by decide +kernel
theorem dX5_valueOf_24 : decode cX5_valueOf 24 = .ok (.iload_n 2, 1) := by decide +kernel
theorem dX5_valueOf_25 : decode cX5_valueOf 25 = .ok (.ireturn, 1) := by decide +kernel
theorem dX5_raise_0 : decode cX5_raise 0 = .ok (.aload_n 0, 1) := by decide +kernel
theorem dX5_raise_1 : decode cX5_raise 1 = .ok (.iload_n 1, 1) := by decide +kernel
theorem dX5_raise_2 : decode cX5_raise 2 = .ok (.aload_n 0, 1) := by decide +kernel
theorem dX5_raise_3 : decode cX5_raise 3 = .ok (.iload_n 1, 1) := by decide +kernel
theorem dX5_raise_4 : decode cX5_raise 4 = .ok (.iconst 0, 1) := by decide +kernel
theorem dX5_raise_5 : decode cX5_raise 5 = .ok (.invokevirtual 28, 3) := by decide +kernel
theorem dX5_raise_8 : decode cX5_raise 8 = .ok (.iconst 1, 1) := by decide +kernel
theorem dX5_raise_9 : decode cX5_raise 9 = .ok (.iadd, 1) := by decide +kernel
theorem dX5_raise_10 : decode cX5_raise 10 = .ok (.invokevirtual 32, 3) := by decide +kernel
theorem dX5_raise_13 : decode cX5_raise 13 = .ok (.pop, 1) := by decide +kernel
theorem dX5_raise_14 : decode cX5_raise 14 = .ok (.return_, 1) := by decide +kernel
theorem dX5_write_0 : decode cX5_write 0 = .ok (.aload_n 0, 1) := by decide +kernel
theorem dX5_write_1 : decode cX5_write 1 = .ok (.iload_n 1, 1) := by decide +kernel
theorem dX5_write_2 : decode cX5_write 2 = .ok (.invokevirtual 20, 3) := by decide +kernel
theorem dX5_write_5 : decode cX5_write 5 = .ok (.istore_n 3, 1) := by decide +kernel
theorem dX5_write_6 : decode cX5_write 6 = .ok (.aload_n 0, 1) := by decide +kernel
theorem dX5_write_7 : decode cX5_write 7 = .ok (.iload_n 1, 1) := by decide +kernel
theorem dX5_write_8 : decode cX5_write 8 = .ok (.iload_n 3, 1) := by decide +kernel
theorem dX5_write_9 : decode cX5_write 9 = .ok (.invokevirtual 24, 3) := by decide +kernel
theorem dX5_write_12 : decode cX5_write 12 = .ok (.ifCond .ne 76, 3) := by decide +kernel
theorem dX5_write_15 : decode cX5_write 15 = .ok (.aload_n 0, 1) := by decide +kernel
theorem dX5_write_16 : decode cX5_write 16 = .ok (.getfield 16, 3) := by decide +kernel
theorem dX5_write_19 : decode cX5_write 19 = .ok (.aload_n 0, 1) := by decide +kernel
theorem dX5_write_20 : decode cX5_write 20 = .ok (.getfield 7, 3) := by decide +kernel
theorem dX5_write_23 : decode cX5_write 23 = .ok (.arraylength, 1) := by decide +kernel
theorem dX5_write_24 : decode cX5_write 24 = .ok (.if_icmp .lt 5, 3) := by decide +kernel
theorem dX5_write_27 : decode cX5_write 27 = .ok (.iconst 0, 1) := by decide +kernel
theorem dX5_write_28 : decode cX5_write 28 = .ok (.ireturn, 1) := by decide +kernel
theorem dX5_write_29 : decode cX5_write 29 = .ok (.aload_n 0, 1) := by decide +kernel
theorem dX5_write_30 : decode cX5_write 30 = .ok (.getfield 7, 3) := by decide +kernel
theorem dX5_write_33 : decode cX5_write 33 = .ok (.iload_n 3, 1) := by decide +kernel
theorem dX5_write_34 : decode cX5_write 34 = .ok (.aload_n 0, 1) := by decide +kernel
theorem dX5_write_35 : decode cX5_write 35 = .ok (.getfield 7, 3) := by decide +kernel
theorem dX5_write_38 : decode cX5_write 38 = .ok (.iload_n 3, 1) := by decide +kernel
theorem dX5_write_39 : decode cX5_write 39 = .ok (.iconst 1, 1) := by decide +kernel
theorem dX5_write_40 : decode cX5_write 40 = .ok (.iadd, 1) := by decide +kernel
theorem dX5_write_41 : decode cX5_write 41 = .ok (.aload_n 0, 1) := by decide +kernel
theorem dX5_write_42 : decode cX5_write 42 = .ok (.getfield 16, 3) := by decide +kernel
theorem dX5_write_45 : decode cX5_write 45 = .ok (.iload_n 3, 1) := by decide +kernel
theorem dX5_write_46 : decode cX5_write 46 = .ok (.isub, 1) := by decide +kernel
theorem dX5_write_47 : decode cX5_write 47 = .ok (.invokestatic 35, 3) := by decide +kernel
theorem dX5_write_50 : decode cX5_write 50 = .ok (.aload_n 0, 1) := by decide +kernel
theorem dX5_write_51 : decode cX5_write 51 = .ok (.getfield 13, 3) := by decide +kernel
theorem dX5_write_54 : decode cX5_write 54 = .ok (.iload_n 3, 1) := by decide +kernel
theorem dX5_write_55 : decode cX5_write 55 = .ok (.aload_n 0, 1) := by decide +kernel
theorem dX5_write_56 : decode cX5_write 56 = .ok (.getfield 13, 3) := by decide +kernel
theorem dX5_write_59 : decode cX5_write 59 = .ok (.iload_n 3, 1) := by decide +kernel
theorem dX5_write_60 : decode cX5_write 60 = .ok (.iconst 1, 1) := by decide +kernel
theorem dX5_write_61 : decode cX5_write 61 = .ok (.iadd, 1) := by decide +kernel
theorem dX5_write_62 : decode cX5_write 62 = .ok (.aload_n 0, 1) := by decide +kernel
theorem dX5_write_63 : decode cX5_write 63 = .ok (.getfield 16, 3) := by decide +kernel
theorem dX5_write_66 : decode cX5_write 66 = .ok (.iload_n 3, 1) := by decide +kernel
theorem dX5_write_67 : decode cX5_write 67 = .ok (.isub, 1) := by decide +kernel
theorem dX5_write_68 : decode cX5_write 68 = .ok (.invokestatic 35, 3) := by decide +kernel
theorem dX5_write_71 : decode cX5_write 71 = .ok (.aload_n 0, 1) := by decide +kernel
theorem dX5_write_72 : decode cX5_write 72 = .ok (.getfield 7, 3) := by decide +kernel
theorem dX5_write_75 : decode cX5_write 75 = .ok (.iload_n 3, 1) := by decide +kernel
theorem dX5_write_76 : decode cX5_write 76 = .ok (.iload_n 1, 1) := by decide +kernel
theorem dX5_write_77 : decode cX5_write 77 = .ok (.iastore, 1) := by decide +kernel
theorem dX5_write_78 : decode cX5_write 78 = .ok (.aload_n 0, 1) := by decide +kernel
theorem dX5_write_79 : decode cX5_write 79 = .ok (.dup, 1) := by decide +kernel
theorem dX5_write_80 : decode cX5_write 80 = .ok (.getfield 16, 3) := by decide +kernel
theorem dX5_write_83 : decode cX5_write 83 = .ok (.iconst 1, 1) := by decide +kernel
theorem dX5_write_84 : decode cX5_write 84 = .ok (.iadd, 1) := by decide +kernel
theorem dX5_write_85 : decode cX5_write 85 = .ok (.putfield 16, 3) := by decide +kernel
theorem dX5_write_88 : decode cX5_write 88 = .ok (.aload_n 0, 1) := by decide +kernel
theorem dX5_write_89 : decode cX5_write 89 = .ok (.getfield 13, 3) := by decide +kernel
theorem dX5_write_92 : decode cX5_write 92 = .ok (.iload_n 3, 1) := by decide +kernel
theorem dX5_write_93 : decode cX5_write 93 = .ok (.iload_n 2, 1) := by decide +kernel
theorem dX5_write_94 : decode cX5_write 94 = .ok (.iastore, 1) := by decide +kernel
theorem dX5_write_95 : decode cX5_write 95 = .ok (.iconst 1, 1) := by decide +kernel
theorem dX5_write_96 : decode cX5_write 96 = .ok (.ireturn, 1) := by decide +kernel
theorem dX5_isAt_0 : decode cX5_isAt 0 = .ok (.iload_n 2, 1) := by decide +kernel
theorem dX5_isAt_1 : decode cX5_isAt 1 = .ok (.aload_n 0, 1) := by decide +kernel
theorem dX5_isAt_2 : decode cX5_isAt 2 = .ok (.getfield 16, 3) := by decide +kernel
theorem dX5_isAt_5 : decode cX5_isAt 5 = .ok (.if_icmp .ge 17, 3) := by decide +kernel
theorem dX5_isAt_8 : decode cX5_isAt 8 = .ok (.aload_n 0, 1) := by decide +kernel
theorem dX5_isAt_9 : decode cX5_isAt 9 = .ok (.getfield 7, 3) := by decide +kernel
theorem dX5_isAt_12 : decode cX5_isAt 12 = .ok (.iload_n 2, 1) := by decide +kernel
theorem dX5_isAt_13 : decode cX5_isAt 13 = .ok (.iaload, 1) := by decide +kernel
theorem dX5_isAt_14 : decode cX5_isAt 14 = .ok (.iload_n 1, 1) := by decide +kernel
theorem dX5_isAt_15 : decode cX5_isAt 15 = .ok (.if_icmp .ne 7, 3) := by decide +kernel
theorem dX5_isAt_18 : decode cX5_isAt 18 = .ok (.iconst 1, 1) := by decide +kernel
theorem dX5_isAt_19 : decode cX5_isAt 19 = .ok (.goto 4, 3) := by decide +kernel
theorem dX5_isAt_22 : decode cX5_isAt 22 = .ok (.iconst 0, 1) := by decide +kernel
theorem dX5_isAt_23 : decode cX5_isAt 23 = .ok (.ireturn, 1) := by decide +kernel
theorem dX5_placeOf_0 : decode cX5_placeOf 0 = .ok (.iconst 0, 1) := by decide +kernel
theorem dX5_placeOf_1 : decode cX5_placeOf 1 = .ok (.istore_n 2, 1) := by decide +kernel
theorem dX5_placeOf_2 : decode cX5_placeOf 2 = .ok (.aload_n 0, 1) := by decide +kernel
theorem dX5_placeOf_3 : decode cX5_placeOf 3 = .ok (.getfield 16, 3) := by decide +kernel
theorem dX5_placeOf_6 : decode cX5_placeOf 6 = .ok (.istore_n 3, 1) := by decide +kernel
theorem dX5_placeOf_7 : decode cX5_placeOf 7 = .ok (.iload_n 2, 1) := by decide +kernel
theorem dX5_placeOf_8 : decode cX5_placeOf 8 = .ok (.iload_n 3, 1) := by decide +kernel
theorem dX5_placeOf_9 : decode cX5_placeOf 9 = .ok (.if_icmp .ge 35, 3) := by decide +kernel
theorem dX5_placeOf_12 : decode cX5_placeOf 12 = .ok (.iload_n 2, 1) := by decide +kernel
theorem dX5_placeOf_13 : decode cX5_placeOf 13 = .ok (.iload_n 3, 1) := by decide +kernel
theorem dX5_placeOf_14 : decode cX5_placeOf 14 = .ok (.iadd, 1) := by decide +kernel
theorem dX5_placeOf_15 : decode cX5_placeOf 15 = .ok (.iconst 1, 1) := by decide +kernel
theorem dX5_placeOf_16 : decode cX5_placeOf 16 = .ok (.iushr, 1) := by decide +kernel
theorem dX5_placeOf_17 : decode cX5_placeOf 17 = .ok (.istore 4, 2) := by decide +kernel
theorem dX5_placeOf_19 : decode cX5_placeOf 19 = .ok (.aload_n 0, 1) := by decide +kernel
theorem dX5_placeOf_20 : decode cX5_placeOf 20 = .ok (.getfield 7, 3) := by decide +kernel
theorem dX5_placeOf_23 : decode cX5_placeOf 23 = .ok (.iload 4, 2) := by decide +kernel
theorem dX5_placeOf_25 : decode cX5_placeOf 25 = .ok (.iaload, 1) := by decide +kernel
theorem dX5_placeOf_26 : decode cX5_placeOf 26 = .ok (.iload_n 1, 1) := by decide +kernel
theorem dX5_placeOf_27 : decode cX5_placeOf 27 = .ok (.if_icmp .ge 11, 3) := by decide +kernel
theorem dX5_placeOf_30 : decode cX5_placeOf 30 = .ok (.iload 4, 2) := by decide +kernel
theorem dX5_placeOf_32 : decode cX5_placeOf 32 = .ok (.iconst 1, 1) := by decide +kernel
theorem dX5_placeOf_33 : decode cX5_placeOf 33 = .ok (.iadd, 1) := by decide +kernel
theorem dX5_placeOf_34 : decode cX5_placeOf 34 = .ok (.istore_n 2, 1) := by decide +kernel
theorem dX5_placeOf_35 : decode cX5_placeOf 35 = .ok (.goto 6, 3) := by decide +kernel
theorem dX5_placeOf_38 : decode cX5_placeOf 38 = .ok (.iload 4, 2) := by decide +kernel
theorem dX5_placeOf_40 : decode cX5_placeOf 40 = .ok (.istore_n 3, 1) := by decide +kernel
theorem dX5_placeOf_41 : decode cX5_placeOf 41 = .ok (.goto (-34), 3) := by decide +kernel
theorem dX5_placeOf_44 : decode cX5_placeOf 44 = .ok (.iload_n 2, 1) := by decide +kernel
theorem dX5_placeOf_45 : decode cX5_placeOf 45 = .ok (.ireturn, 1) := by decide +kernel
theorem dX6_init_0 : decode cX6_init 0 = .ok (.aload_n 0, 1) := by decide +kernel
theorem dX6_init_1 : decode cX6_init 1 = .ok (.invokespecial 3, 3) := by decide +kernel
theorem dX6_init_4 : decode cX6_init 4 = .ok (.aload_n 0, 1) := by decide +kernel
theorem dX6_init_5 : decode cX6_init 5 = .ok (.bipush 80, 2) := by decide +kernel
theorem dX6_init_7 : decode cX6_init 7 = .ok (.newarray .int, 2) := by decide +kernel
theorem dX6_init_9 : decode cX6_init 9 = .ok (.putfield 11, 3) := by decide +kernel
theorem dX6_init_12 : decode cX6_init 12 = .ok (.aload_n 0, 1) := by decide +kernel
theorem dX6_init_13 : decode cX6_init 13 = .ok (.bipush 30, 2) := by decide +kernel
theorem dX6_init_15 : decode cX6_init 15 = .ok (.newarray .int, 2) := by decide +kernel
theorem dX6_init_17 : decode cX6_init 17 = .ok (.putfield 15, 3) := by decide +kernel
theorem dX6_init_20 : decode cX6_init 20 = .ok (.return_, 1) := by decide +kernel
theorem dX6_hasRoomFor_0 : decode cX6_hasRoomFor 0 = .ok (.aload_n 0, 1) := by decide +kernel
theorem dX6_hasRoomFor_1 : decode cX6_hasRoomFor 1 = .ok (.getfield 18, 3) := by decide +kernel
theorem dX6_hasRoomFor_4 : decode cX6_hasRoomFor 4 = .ok (.iload_n 1, 1) := by decide +kernel
theorem dX6_hasRoomFor_5 : decode cX6_hasRoomFor 5 = .ok (.iadd, 1) := by decide +kernel
theorem dX6_hasRoomFor_6 : decode cX6_hasRoomFor 6 = .ok (.bipush 80, 2) := by decide +kernel
theorem dX6_hasRoomFor_8 : decode cX6_hasRoomFor 8 = .ok (.if_icmp .gt 7, 3) := by decide +kernel
theorem dX6_hasRoomFor_11 : decode cX6_hasRoomFor 11 = .ok (.iconst 1, 1) := by decide +kernel
theorem dX6_hasRoomFor_12 : decode cX6_hasRoomFor 12 = .ok (.goto 4, 3) := by decide +kernel
theorem dX6_hasRoomFor_15 : decode cX6_hasRoomFor 15 = .ok (.iconst 0, 1) := by decide +kernel
theorem dX6_hasRoomFor_16 : decode cX6_hasRoomFor 16 = .ok (.ireturn, 1) := by decide +kernel
theorem dX6_append_0 : decode cX6_append 0 = .ok (.bipush 24, 2) := by decide +kernel
theorem dX6_append_2 : decode cX6_append 2 = .ok (.istore_n 2, 1) := by decide +kernel
theorem dX6_append_3 : decode cX6_append 3 = .ok (.iload_n 2, 1) := by decide +kernel
theorem dX6_append_4 : decode cX6_append 4 = .ok (.ifCond .lt 44, 3) := by decide +kernel
theorem dX6_append_7 : decode cX6_append 7 = .ok (.aload_n 0, 1) := by decide +kernel
theorem dX6_append_8 : decode cX6_append 8 = .ok (.getfield 18, 3) := by decide +kernel
theorem dX6_append_11 : decode cX6_append 11 = .ok (.bipush 80, 2) := by decide +kernel
theorem dX6_append_13 : decode cX6_append 13 = .ok (.if_icmp .ge 35, 3) := by decide +kernel
theorem dX6_append_16 : decode cX6_append 16 = .ok (.aload_n 0, 1) := by decide +kernel
theorem dX6_append_17 : decode cX6_append 17 = .ok (.getfield 11, 3) := by decide +kernel
theorem dX6_append_20 : decode cX6_append 20 = .ok (.aload_n 0, 1) := by decide +kernel
theorem dX6_append_21 : decode cX6_append 21 = .ok (.getfield 18, 3) := by decide +kernel
theorem dX6_append_24 : decode cX6_append 24 = .ok (.iload_n 1, 1) := by decide +kernel
theorem dX6_append_25 : decode cX6_append 25 = .ok (.iload_n 2, 1) := by decide +kernel
theorem dX6_append_26 : decode cX6_append 26 = .ok (.iushr, 1) := by decide +kernel
theorem dX6_append_27 : decode cX6_append 27 = .ok (.sipush 255, 3) := by decide +kernel
theorem dX6_append_30 : decode cX6_append 30 = .ok (.iand, 1) := by decide +kernel
theorem dX6_append_31 : decode cX6_append 31 = .ok (.iastore, 1) := by decide +kernel
theorem dX6_append_32 : decode cX6_append 32 = .ok (.aload_n 0, 1) := by decide +kernel
theorem dX6_append_33 : decode cX6_append 33 = .ok (.dup, 1) := by decide +kernel
theorem dX6_append_34 : decode cX6_append 34 = .ok (.getfield 18, 3) := by decide +kernel
theorem dX6_append_37 : decode cX6_append 37 = .ok (.iconst 1, 1) := by decide +kernel
theorem dX6_append_38 : decode cX6_append 38 = .ok (.iadd, 1) := by decide +kernel
theorem dX6_append_39 : decode cX6_append 39 = .ok (.putfield 18, 3) := by decide +kernel
theorem dX6_append_42 : decode cX6_append 42 = .ok (.iinc 2 (-8), 3) := by decide +kernel
theorem dX6_append_45 : decode cX6_append 45 = .ok (.goto (-42), 3) := by decide +kernel
theorem dX6_append_48 : decode cX6_append 48 = .ok (.return_, 1) := by decide +kernel
theorem dX6_cut_0 : decode cX6_cut 0 = .ok (.iload_n 1, 1) := by decide +kernel
theorem dX6_cut_1 : decode cX6_cut 1 = .ok (.ifCond .lt 11, 3) := by decide +kernel
theorem dX6_cut_4 : decode cX6_cut 4 = .ok (.iload_n 1, 1) := by decide +kernel
theorem dX6_cut_5 : decode cX6_cut 5 = .ok (.aload_n 0, 1) := by decide +kernel
theorem dX6_cut_6 : decode cX6_cut 6 = .ok (.getfield 18, 3) := by decide +kernel
theorem dX6_cut_9 : decode cX6_cut 9 = .ok (.if_icmp .le 5, 3) := by decide +kernel
theorem dX6_cut_12 : decode cX6_cut 12 = .ok (.iconst 0, 1) := by decide +kernel
theorem dX6_cut_13 : decode cX6_cut 13 = .ok (.ireturn, 1) := by decide +kernel
theorem dX6_cut_14 : decode cX6_cut 14 = .ok (.aload_n 0, 1) := by decide +kernel
theorem dX6_cut_15 : decode cX6_cut 15 = .ok (.iload_n 1, 1) := by decide +kernel
theorem dX6_cut_16 : decode cX6_cut 16 = .ok (.putfield 18, 3) := by decide +kernel
theorem dX6_cut_19 : decode cX6_cut 19 = .ok (.iconst 1, 1) := by decide +kernel
theorem dX6_cut_20 : decode cX6_cut 20 = .ok (.ireturn, 1) := by decide +kernel
theorem dX6_findNumbers_0 : decode cX6_findNumbers 0 = .ok (.iconst 0, 1) := by decide +kernel
theorem dX6_findNumbers_1 : decode cX6_findNumbers 1 = .ok (.istore_n 2, 1) := by decide +kernel
theorem dX6_findNumbers_2 : decode cX6_findNumbers 2 = .ok (.iconst 0, 1) := by decide +kernel
theorem dX6_findNumbers_3 : decode cX6_findNumbers 3 = .ok (.istore_n 3, 1) := by decide +kernel
theorem dX6_findNumbers_4 : decode cX6_findNumbers 4 = .ok (.iload_n 3, 1) := by decide +kernel
theorem dX6_findNumbers_5 : decode cX6_findNumbers 5 = .ok (.iload_n 1, 1) := by decide +kernel
theorem dX6_findNumbers_6 : decode cX6_findNumbers 6 = .ok (.iadd, 1) := by decide +kernel
theorem dX6_findNumbers_7 : decode cX6_findNumbers 7 = .ok (.aload_n 0, 1) := by decide +kernel
theorem dX6_findNumbers_8 : decode cX6_findNumbers 8 = .ok (.getfield 18, 3) := by decide +kernel
theorem dX6_findNumbers_11 : decode cX6_findNumbers 11 = .ok (.if_icmp .gt 53, 3) := by decide +kernel
theorem dX6_findNumbers_14 : decode cX6_findNumbers 14 = .ok (.aload_n 0, 1) := by decide +kernel
theorem dX6_findNumbers_15 : decode cX6_findNumbers 15 = .ok (.iload_n 3, 1) := by decide +kernel
theorem dX6_findNumbers_16 : decode cX6_findNumbers 16 = .ok (.iload_n 1, 1) := by decide +kernel
theorem dX6_findNumbers_17 : decode cX6_findNumbers 17 = .ok (.invokevirtual 22, 3) := by decide +kernel
theorem dX6_findNumbers_20 : decode cX6_findNumbers 20 = .ok (.istore 4, 2) := by decide +kernel
theorem dX6_findNumbers_22 : decode cX6_findNumbers 22 = .ok (.iload 4, 2) := by decide +kernel
theorem dX6_findNumbers_24 : decode cX6_findNumbers 24 = .ok (.bipush 8, 2) := by decide +kernel
theorem dX6_findNumbers_26 : decode cX6_findNumbers 26 = .ok (.if_icmp .ge 32, 3) := by decide +kernel
theorem dX6_findNumbers_29 : decode cX6_findNumbers 29 = .ok (.iload_n 2, 1) := by decide +kernel
theorem dX6_findNumbers_30 : decode cX6_findNumbers 30 = .ok (.bipush 30, 2) := by decide +kernel
theorem dX6_findNumbers_32 : decode cX6_findNumbers 32 = .ok (.if_icmp .lt 5, 3) := by decide +kernel
theorem dX6_findNumbers_35 : decode cX6_findNumbers 35 = .ok (.iconst (-1), 1) := by decide +kernel
theorem dX6_findNumbers_36 : decode cX6_findNumbers 36 = .ok (.ireturn, 1) := by decide +kernel
theorem dX6_findNumbers_37 : decode cX6_findNumbers 37 = .ok (.aload_n 0, 1) := by decide +kernel
theorem dX6_findNumbers_38 : decode cX6_findNumbers 38 = .ok (.getfield 15, 3) := by decide +kernel
theorem dX6_findNumbers_41 : decode cX6_findNumbers 41 = .ok (.iload_n 2, 1) := by decide +kernel
theorem dX6_findNumbers_42 : decode cX6_findNumbers 42 = .ok (.bipush 8, 2) := by decide +kernel
theorem dX6_findNumbers_44 : decode cX6_findNumbers 44 = .ok (.aload_n 0, 1) := by decide +kernel
theorem dX6_findNumbers_45 : decode cX6_findNumbers 45 = .ok (.iload_n 3, 1) := by decide +kernel
theorem dX6_findNumbers_46 : decode cX6_findNumbers 46 = .ok (.iload_n 1, 1) := by decide +kernel
theorem dX6_findNumbers_47 : decode cX6_findNumbers 47 = .ok (.invokevirtual 26, 3) := by decide +kernel
theorem dX6_findNumbers_50 : decode cX6_findNumbers 50 = .ok (.imul, 1) := by decide +kernel
theorem dX6_findNumbers_51 : decode cX6_findNumbers 51 = .ok (.iload 4, 2) := by decide +kernel
theorem dX6_findNumbers_53 : decode cX6_findNumbers 53 = .ok (.iadd, 1) := by decide +kernel
theorem dX6_findNumbers_54 : decode cX6_findNumbers 54 = .ok (.iastore, 1) := by decide +kernel
theorem dX6_findNumbers_55 : decode cX6_findNumbers 55 = .ok (.iinc 2 1, 3) := by decide +kernel
theorem dX6_findNumbers_58 : decode cX6_findNumbers 58 = .ok (.iinc 3 1, 3) := by decide +kernel
theorem dX6_findNumbers_61 : decode cX6_findNumbers 61 = .ok (.goto (-57), 3) := by decide +kernel
theorem dX6_findNumbers_64 : decode cX6_findNumbers 64 = .ok (.iload_n 2, 1) := by decide +kernel
theorem dX6_findNumbers_65 : decode cX6_findNumbers 65 = .ok (.ireturn, 1) := by decide +kernel
theorem dX6_countLikeOnesAhead_0 : decode cX6_countLikeOnesAhead 0 = .ok (.aload_n 0, 1) := by decide +kernel
theorem dX6_countLikeOnesAhead_1 : decode cX6_countLikeOnesAhead 1 = .ok (.iload_n 1, 1) := by decide +kernel
theorem dX6_countLikeOnesAhead_2 : decode cX6_countLikeOnesAhead 2 = .ok (.iload_n 2, 1) := by decide +kernel
theorem dX6_countLikeOnesAhead_3 : decode cX6_countLikeOnesAhead 3 = .ok (.invokevirtual 26, 3) := by decide +kernel
theorem dX6_countLikeOnesAhead_6 : decode cX6_countLikeOnesAhead 6 = .ok (.istore_n 3, 1) := by decide +kernel
theorem dX6_countLikeOnesAhead_7 : decode cX6_countLikeOnesAhead 7 = .ok (.iconst 0, 1) := by decide +kernel
theorem dX6_countLikeOnesAhead_8 : decode cX6_countLikeOnesAhead 8 = .ok (.istore 4, 2) := by decide +kernel
theorem dX6_countLikeOnesAhead_10 : decode cX6_countLikeOnesAhead 10 = .ok (.iconst 0, 1) := by decide +kernel
theorem dX6_countLikeOnesAhead_11 : decode cX6_countLikeOnesAhead 11 = .ok (.istore 5, 2) := by decide +kernel
theorem dX6_countLikeOnesAhead_13 : decode cX6_countLikeOnesAhead 13 = .ok (.iload 5, 2) := by decide +kernel
theorem dX6_countLikeOnesAhead_15 : decode cX6_countLikeOnesAhead 15 = .ok (.iload_n 1, 1) := by decide +kernel
theorem dX6_countLikeOnesAhead_16 : decode cX6_countLikeOnesAhead 16 = .ok (.if_icmp .ge 23, 3) := by decide +kernel
theorem dX6_countLikeOnesAhead_19 : decode cX6_countLikeOnesAhead 19 = .ok (.aload_n 0, 1) := by decide +kernel
theorem dX6_countLikeOnesAhead_20 : decode cX6_countLikeOnesAhead 20 = .ok (.iload 5, 2) := by decide +kernel
theorem dX6_countLikeOnesAhead_22 : decode cX6_countLikeOnesAhead 22 = .ok (.iload_n 2, 1) := by decide +kernel
theorem dX6_countLikeOnesAhead_23 : decode cX6_countLikeOnesAhead 23 = .ok (.invokevirtual 26, 3) := by decide +kernel
theorem dX6_countLikeOnesAhead_26 : decode cX6_countLikeOnesAhead 26 = .ok (.iload_n 3, 1) := by decide +kernel
theorem dX6_countLikeOnesAhead_27 : decode cX6_countLikeOnesAhead 27 = .ok (.if_icmp .ne 6, 3) := by decide +kernel
theorem dX6_countLikeOnesAhead_30 : decode cX6_countLikeOnesAhead 30 = .ok (.iinc 4 1, 3) := by decide +kernel
theorem dX6_countLikeOnesAhead_33 : decode cX6_countLikeOnesAhead 33 = .ok (.iinc 5 1, 3) := by decide +kernel
theorem dX6_countLikeOnesAhead_36 : decode cX6_countLikeOnesAhead 36 = .ok (.goto (-23), 3) := by decide +kernel
theorem dX6_countLikeOnesAhead_39 : decode cX6_countLikeOnesAhead 39 = .ok (.iload 4, 2) := by decide +kernel
theorem dX6_countLikeOnesAhead_41 : decode cX6_countLikeOnesAhead 41 = .ok (.ireturn, 1) := by decide +kernel
theorem dX6_pieceAt_0 : decode cX6_pieceAt 0 = .ok (.iconst 0, 1) := by decide +kernel
theorem dX6_pieceAt_1 : decode cX6_pieceAt 1 = .ok (.istore_n 3, 1) := by decide +kernel
theorem dX6_pieceAt_2 : decode cX6_pieceAt 2 = .ok (.iload_n 1, 1) := by decide +kernel
theorem dX6_pieceAt_3 : decode cX6_pieceAt 3 = .ok (.istore 4, 2) := by decide +kernel
theorem dX6_pieceAt_5 : decode cX6_pieceAt 5 = .ok (.iload 4, 2) := by decide +kernel
theorem dX6_pieceAt_7 : decode cX6_pieceAt 7 = .ok (.iload_n 1, 1) := by decide +kernel
theorem dX6_pieceAt_8 : decode cX6_pieceAt 8 = .ok (.iload_n 2, 1) := by decide +kernel
theorem dX6_pieceAt_9 : decode cX6_pieceAt 9 = .ok (.iadd, 1) := by decide +kernel
theorem dX6_pieceAt_10 : decode cX6_pieceAt 10 = .ok (.if_icmp .ge 31, 3) := by decide +kernel
theorem dX6_pieceAt_13 : decode cX6_pieceAt 13 = .ok (.iload 4, 2) := by decide +kernel
theorem dX6_pieceAt_15 : decode cX6_pieceAt 15 = .ok (.aload_n 0, 1) := by decide +kernel
theorem dX6_pieceAt_16 : decode cX6_pieceAt 16 = .ok (.getfield 18, 3) := by decide +kernel
theorem dX6_pieceAt_19 : decode cX6_pieceAt 19 = .ok (.if_icmp .ge 22, 3) := by decide +kernel
theorem dX6_pieceAt_22 : decode cX6_pieceAt 22 = .ok (.iload_n 3, 1) := by decide +kernel
theorem dX6_pieceAt_23 : decode cX6_pieceAt 23 = .ok (.bipush 8, 2) := by decide +kernel
theorem dX6_pieceAt_25 : decode cX6_pieceAt 25 = .ok (.ishl, 1) := by decide +kernel
theorem dX6_pieceAt_26 : decode cX6_pieceAt 26 = .ok (.aload_n 0, 1) := by decide +kernel
theorem dX6_pieceAt_27 : decode cX6_pieceAt 27 = .ok (.getfield 11, 3) := by decide +kernel
theorem dX6_pieceAt_30 : decode cX6_pieceAt 30 = .ok (.iload 4, 2) := by decide +kernel
theorem dX6_pieceAt_32 : decode cX6_pieceAt 32 = .ok (.iaload, 1) := by decide +kernel
theorem dX6_pieceAt_33 : decode cX6_pieceAt 33 = .ok (.ior, 1) := by decide +kernel
theorem dX6_pieceAt_34 : decode cX6_pieceAt 34 = .ok (.istore_n 3, 1) := by decide +kernel
theorem dX6_pieceAt_35 : decode cX6_pieceAt 35 = .ok (.iinc 4 1, 3) := by decide +kernel
theorem dX6_pieceAt_38 : decode cX6_pieceAt 38 = .ok (.goto (-33), 3) := by decide +kernel
theorem dX6_pieceAt_41 : decode cX6_pieceAt 41 = .ok (.iload_n 3, 1) := by decide +kernel
theorem dX6_pieceAt_42 : decode cX6_pieceAt 42 = .ok (.ireturn, 1) := by decide +kernel
theorem dX7_init_0 : decode cX7_init 0 = .ok (.aload_n 0, 1) := by decide +kernel
theorem dX7_init_1 : decode cX7_init 1 = .ok (.invokespecial 3, 3) := by decide +kernel
theorem dX7_init_4 : decode cX7_init 4 = .ok (.aload_n 0, 1) := by decide +kernel
theorem dX7_init_5 : decode cX7_init 5 = .ok (.bipush 60, 2) := by decide +kernel
theorem dX7_init_7 : decode cX7_init 7 = .ok (.anewarray 9, 3) := by decide +kernel
theorem dX7_init_10 : decode cX7_init 10 = .ok (.putfield 11, 3) := by decide +kernel
theorem dX7_init_13 : decode cX7_init 13 = .ok (.aload_n 0, 1) := by decide +kernel
theorem dX7_init_14 : decode cX7_init 14 = .ok (.new 15, 3) := by decide +kernel
theorem dX7_init_17 : decode cX7_init 17 = .ok (.dup, 1) := by decide +kernel
theorem dX7_init_18 : decode cX7_init 18 = .ok (.sipush 1800, 3) := by decide +kernel
theorem dX7_init_21 : decode cX7_init 21 = .ok (.invokespecial 17, 3) := by decide +kernel
theorem dX7_init_24 : decode cX7_init 24 = .ok (.putfield 20, 3) := by decide +kernel
theorem dX7_init_27 : decode cX7_init 27 = .ok (.aload_n 0, 1) := by decide +kernel
theorem dX7_init_28 : decode cX7_init 28 = .ok (.new 15, 3) := by decide +kernel
theorem dX7_init_31 : decode cX7_init 31 = .ok (.dup, 1) := by decide +kernel
theorem dX7_init_32 : decode cX7_init 32 = .ok (.sipush 200, 3) := by decide +kernel
theorem dX7_init_35 : decode cX7_init 35 = .ok (.invokespecial 17, 3) := by decide +kernel
theorem dX7_init_38 : decode cX7_init 38 = .ok (.putfield 24, 3) := by decide +kernel
theorem dX7_init_41 : decode cX7_init 41 = .ok (.aload_n 0, 1) := by decide +kernel
theorem dX7_init_42 : decode cX7_init 42 = .ok (.new 27, 3) := by decide +kernel
theorem dX7_init_45 : decode cX7_init 45 = .ok (.dup, 1) := by decide +kernel
theorem dX7_init_46 : decode cX7_init 46 = .ok (.invokespecial 29, 3) := by decide +kernel
theorem dX7_init_49 : decode cX7_init 49 = .ok (.putfield 30, 3) := by decide +kernel
theorem dX7_init_52 : decode cX7_init 52 = .ok (.aload_n 0, 1) := by decide +kernel
theorem dX7_init_53 : decode cX7_init 53 = .ok (.new 34, 3) := by decide +kernel
theorem dX7_init_56 : decode cX7_init 56 = .ok (.dup, 1) := by decide +kernel
theorem dX7_init_57 : decode cX7_init 57 = .ok (.invokespecial 36, 3) := by decide +kernel
theorem dX7_init_60 : decode cX7_init 60 = .ok (.putfield 37, 3) := by decide +kernel
theorem dX7_init_63 : decode cX7_init 63 = .ok (.aload_n 0, 1) := by decide +kernel
theorem dX7_init_64 : decode cX7_init 64 = .ok (.new 41, 3) := by decide +kernel
theorem dX7_init_67 : decode cX7_init 67 = .ok (.dup, 1) := by decide +kernel
theorem dX7_init_68 : decode cX7_init 68 = .ok (.invokespecial 43, 3) := by decide +kernel
theorem dX7_init_71 : decode cX7_init 71 = .ok (.putfield 44, 3) := by decide +kernel
theorem dX7_init_74 : decode cX7_init 74 = .ok (.aload_n 0, 1) := by decide +kernel
theorem dX7_init_75 : decode cX7_init 75 = .ok (.bipush 60, 2) := by decide +kernel
theorem dX7_init_77 : decode cX7_init 77 = .ok (.newarray .int, 2) := by decide +kernel
theorem dX7_init_79 : decode cX7_init 79 = .ok (.putfield 48, 3) := by decide +kernel
theorem dX7_init_82 : decode cX7_init 82 = .ok (.aload_n 0, 1) := by decide +kernel
theorem dX7_init_83 : decode cX7_init 83 = .ok (.iconst 5, 1) := by decide +kernel
theorem dX7_init_84 : decode cX7_init 84 = .ok (.newarray .int, 2) := by decide +kernel
theorem dX7_init_86 : decode cX7_init 86 = .ok (.putfield 52, 3) := by decide +kernel
theorem dX7_init_89 : decode cX7_init 89 = .ok (.aload_n 0, 1) := by decide +kernel
theorem dX7_init_90 : decode cX7_init 90 = .ok (.new 55, 3) := by decide +kernel
theorem dX7_init_93 : decode cX7_init 93 = .ok (.dup, 1) := by decide +kernel
theorem dX7_init_94 : decode cX7_init 94 = .ok (.invokespecial 57, 3) := by decide +kernel
theorem dX7_init_97 : decode cX7_init 97 = .ok (.putfield 58, 3) := by decide +kernel
theorem dX7_init_100 : decode cX7_init 100 = .ok (.aload_n 0, 1) := by decide +kernel
theorem dX7_init_101 : decode cX7_init 101 = .ok (.new 62, 3) := by decide +kernel
theorem dX7_init_104 : decode cX7_init 104 = .ok (.dup, 1) := by decide +kernel
theorem dX7_init_105 : decode cX7_init 105 = .ok (.invokespecial 64, 3) := by decide +kernel
theorem dX7_init_108 : decode cX7_init 108 = .ok (.putfield 65, 3) := by decide +kernel
theorem dX7_init_111 : decode cX7_init 111 = .ok (.return_, 1) := by decide +kernel
theorem dX7_record_0 : decode cX7_record 0 = .ok (.aload_n 0, 1) := by decide +kernel
theorem dX7_record_1 : decode cX7_record 1 = .ok (.getfield 69, 3) := by decide +kernel
theorem dX7_record_4 : decode cX7_record 4 = .ok (.bipush 60, 2) := by decide +kernel
theorem dX7_record_6 : decode cX7_record 6 = .ok (.if_icmp .lt 5, 3) := by decide +kernel
theorem dX7_record_9 : decode cX7_record 9 = .ok (.iconst (-1), 1) := by decide +kernel
theorem dX7_record_10 : decode cX7_record 10 = .ok (.ireturn, 1) := by decide +kernel
theorem dX7_record_11 : decode cX7_record 11 = .ok (.aload_n 0, 1) := by decide +kernel
theorem dX7_record_12 : decode cX7_record 12 = .ok (.getfield 11, 3) := by decide +kernel
theorem dX7_record_15 : decode cX7_record 15 = .ok (.aload_n 0, 1) := by decide +kernel
theorem dX7_record_16 : decode cX7_record 16 = .ok (.getfield 69, 3) := by decide +kernel
theorem dX7_record_19 : decode cX7_record 19 = .ok (.new 9, 3) := by decide +kernel
theorem dX7_record_22 : decode cX7_record 22 = .ok (.dup, 1) := by decide +kernel
theorem dX7_record_23 : decode cX7_record 23 = .ok (.invokespecial 73, 3) := by decide +kernel
theorem dX7_record_26 : decode cX7_record 26 = .ok (.aastore, 1) := by decide +kernel
theorem dX7_record_27 : decode cX7_record 27 = .ok (.aload_n 0, 1) := by decide +kernel
theorem dX7_record_28 : decode cX7_record 28 = .ok (.dup, 1) := by decide +kernel
theorem dX7_record_29 : decode cX7_record 29 = .ok (.getfield 69, 3) := by decide +kernel
theorem dX7_record_32 : decode cX7_record 32 = .ok (.iconst 1, 1) := by decide +kernel
theorem dX7_record_33 : decode cX7_record 33 = .ok (.iadd, 1) := by decide +kernel
theorem dX7_record_34 : decode cX7_record 34 = .ok (.putfield 69, 3) := by decide +kernel
theorem dX7_record_37 : decode cX7_record 37 = .ok (.aload_n 0, 1) := by decide +kernel
theorem dX7_record_38 : decode cX7_record 38 = .ok (.getfield 69, 3) := by decide +kernel
theorem dX7_record_41 : decode cX7_record 41 = .ok (.iconst 1, 1) := by decide +kernel
theorem dX7_record_42 : decode cX7_record 42 = .ok (.isub, 1) := by decide +kernel
theorem dX7_record_43 : decode cX7_record 43 = .ok (.ireturn, 1) := by decide +kernel
theorem dX7_drop_0 : decode cX7_drop 0 = .ok (.aload_n 0, 1) := by decide +kernel
theorem dX7_drop_1 : decode cX7_drop 1 = .ok (.iload_n 1, 1) := by decide +kernel
