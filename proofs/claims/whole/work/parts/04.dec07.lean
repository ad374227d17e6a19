theorem dX8_about_91 : decode cX8_about 91 = .ok (.aload_n 0, 1) := by decide +kernel
theorem dX8_about_92 : decode cX8_about 92 = .ok (.getfield 42, 3) := by decide +kernel
theorem dX8_about_95 : decode cX8_about 95 = .ok (.aload_n 0, 1) := by decide +kernel
theorem dX8_about_96 : decode cX8_about 96 = .ok (.getfield 13, 3) := by decide +kernel
theorem dX8_about_99 : decode cX8_about 99 = .ok (.iload_n 1, 1) := by decide +kernel
theorem dX8_about_100 : decode cX8_about 100 = .ok (.iaload, 1) := by decide +kernel
theorem dX8_about_101 : decode cX8_about 101 = .ok (.invokevirtual 161, 3) := by decide +kernel
theorem dX8_about_104 : decode cX8_about 104 = .ok (.ireturn, 1) := by decide +kernel
theorem dX8_about_105 : decode cX8_about 105 = .ok (.aload_n 0, 1) := by decide +kernel
theorem dX8_about_106 : decode cX8_about 106 = .ok (.iload_n 1, 1) := by decide +kernel
theorem dX8_about_107 : decode cX8_about 107 = .ok (.invokevirtual 194, 3) := by decide +kernel
theorem dX8_about_110 : decode cX8_about 110 = .ok (.aload_n 0, 1) := by decide +kernel
theorem dX8_about_111 : decode cX8_about 111 = .ok (.getfield 63, 3) := by decide +kernel
theorem dX8_about_114 : decode cX8_about 114 = .ok (.iload_n 3, 1) := by decide +kernel
theorem dX8_about_115 : decode cX8_about 115 = .ok (.iaload, 1) := by decide +kernel
theorem dX8_about_116 : decode cX8_about 116 = .ok (.iconst (-1), 1) := by decide +kernel
theorem dX8_about_117 : decode cX8_about 117 = .ok (.if_icmp .ne 9, 3) := by decide +kernel
theorem dX8_about_120 : decode cX8_about 120 = .ok (.iinc 3 1, 3) := by decide +kernel
theorem dX8_about_123 : decode cX8_about 123 = .ok (.goto (-13), 3) := by decide +kernel
theorem dX8_about_126 : decode cX8_about 126 = .ok (.iload_n 3, 1) := by decide +kernel
theorem dX8_about_127 : decode cX8_about 127 = .ok (.ireturn, 1) := by decide +kernel
theorem dX8_about_128 : decode cX8_about 128 = .ok (.aload_n 0, 1) := by decide +kernel
theorem dX8_about_129 : decode cX8_about 129 = .ok (.iload_n 1, 1) := by decide +kernel
theorem dX8_about_130 : decode cX8_about 130 = .ok (.invokevirtual 194, 3) := by decide +kernel
theorem dX8_about_133 : decode cX8_about 133 = .ok (.iconst 0, 1) := by decide +kernel
theorem dX8_about_134 : decode cX8_about 134 = .ok (.istore 4, 2) := by decide +kernel
theorem dX8_about_136 : decode cX8_about 136 = .ok (.iload 4, 2) := by decide +kernel
theorem dX8_about_138 : decode cX8_about 138 = .ok (.aload_n 0, 1) := by decide +kernel
theorem dX8_about_139 : decode cX8_about 139 = .ok (.getfield 78, 3) := by decide +kernel
theorem dX8_about_142 : decode cX8_about 142 = .ok (.if_icmp .ge 28, 3) := by decide +kernel
theorem dX8_about_145 : decode cX8_about 145 = .ok (.iload_n 3, 1) := by decide +kernel
theorem dX8_about_146 : decode cX8_about 146 = .ok (.aload_n 0, 1) := by decide +kernel
theorem dX8_about_147 : decode cX8_about 147 = .ok (.getfield 63, 3) := by decide +kernel
theorem dX8_about_150 : decode cX8_about 150 = .ok (.iload 4, 2) := by decide +kernel
theorem dX8_about_152 : decode cX8_about 152 = .ok (.iaload, 1) := by decide +kernel
theorem dX8_about_153 : decode cX8_about 153 = .ok (.iconst (-1), 1) := by decide +kernel
theorem dX8_about_154 : decode cX8_about 154 = .ok (.if_icmp .eq 7, 3) := by decide +kernel
theorem dX8_about_157 : decode cX8_about 157 = .ok (.iconst 1, 1) := by decide +kernel
theorem dX8_about_158 : decode cX8_about 158 = .ok (.goto 4, 3) := by decide +kernel
theorem dX8_about_161 : decode cX8_about 161 = .ok (.iconst 0, 1) := by decide +kernel
theorem dX8_about_162 : decode cX8_about 162 = .ok (.iadd, 1) := by decide +kernel
theorem dX8_about_163 : decode cX8_about 163 = .ok (.istore_n 3, 1) := by decide +kernel
theorem dX8_about_164 : decode cX8_about 164 = .ok (.iinc 4 1, 3) := by decide +kernel
theorem dX8_about_167 : decode cX8_about 167 = .ok (.goto (-31), 3) := by decide +kernel
theorem dX8_about_170 : decode cX8_about 170 = .ok (.iload_n 3, 1) := by decide +kernel
theorem dX8_about_171 : decode cX8_about 171 = .ok (.ireturn, 1) := by decide +kernel
theorem dX8_about_172 : decode cX8_about 172 = .ok (.iconst (-1), 1) := by decide +kernel
theorem dX8_about_173 : decode cX8_about 173 = .ok (.ireturn, 1) := by decide +kernel
theorem dX8_at_0 : decode cX8_at 0 = .ok (.aload_n 0, 1) := by decide +kernel
theorem dX8_at_1 : decode cX8_at 1 = .ok (.iconst 0, 1) := by decide +kernel
theorem dX8_at_2 : decode cX8_at 2 = .ok (.putfield 75, 3) := by decide +kernel
theorem dX8_at_5 : decode cX8_at 5 = .ok (.aload_n 0, 1) := by decide +kernel
theorem dX8_at_6 : decode cX8_at 6 = .ok (.iload_n 1, 1) := by decide +kernel
theorem dX8_at_7 : decode cX8_at 7 = .ok (.invokevirtual 85, 3) := by decide +kernel
theorem dX8_at_10 : decode cX8_at 10 = .ok (.ifCond .eq 19, 3) := by decide +kernel
theorem dX8_at_13 : decode cX8_at 13 = .ok (.iload_n 2, 1) := by decide +kernel
theorem dX8_at_14 : decode cX8_at 14 = .ok (.iconst 0, 1) := by decide +kernel
theorem dX8_at_15 : decode cX8_at 15 = .ok (.aload_n 0, 1) := by decide +kernel
theorem dX8_at_16 : decode cX8_at 16 = .ok (.getfield 13, 3) := by decide +kernel
theorem dX8_at_19 : decode cX8_at 19 = .ok (.iload_n 1, 1) := by decide +kernel
theorem dX8_at_20 : decode cX8_at 20 = .ok (.iaload, 1) := by decide +kernel
theorem dX8_at_21 : decode cX8_at 21 = .ok (.iconst 1, 1) := by decide +kernel
theorem dX8_at_22 : decode cX8_at 22 = .ok (.isub, 1) := by decide +kernel
theorem dX8_at_23 : decode cX8_at 23 = .ok (.invokestatic 81, 3) := by decide +kernel
theorem dX8_at_26 : decode cX8_at 26 = .ok (.ifCond .ne 5, 3) := by decide +kernel
theorem dX8_at_29 : decode cX8_at 29 = .ok (.iconst (-1), 1) := by decide +kernel
theorem dX8_at_30 : decode cX8_at 30 = .ok (.ireturn, 1) := by decide +kernel
theorem dX8_at_31 : decode cX8_at 31 = .ok (.aload_n 0, 1) := by decide +kernel
theorem dX8_at_32 : decode cX8_at 32 = .ok (.iload_n 1, 1) := by decide +kernel
theorem dX8_at_33 : decode cX8_at 33 = .ok (.aload_n 0, 1) := by decide +kernel
theorem dX8_at_34 : decode cX8_at 34 = .ok (.getfield 42, 3) := by decide +kernel
theorem dX8_at_37 : decode cX8_at 37 = .ok (.invokevirtual 157, 3) := by decide +kernel
theorem dX8_at_40 : decode cX8_at 40 = .ok (.aload_n 0, 1) := by decide +kernel
theorem dX8_at_41 : decode cX8_at 41 = .ok (.getfield 42, 3) := by decide +kernel
theorem dX8_at_44 : decode cX8_at 44 = .ok (.iload_n 2, 1) := by decide +kernel
theorem dX8_at_45 : decode cX8_at 45 = .ok (.iaload, 1) := by decide +kernel
theorem dX8_at_46 : decode cX8_at 46 = .ok (.ireturn, 1) := by decide +kernel
theorem dX8_chain_0 : decode cX8_chain 0 = .ok (.aload_n 0, 1) := by decide +kernel
theorem dX8_chain_1 : decode cX8_chain 1 = .ok (.iconst 0, 1) := by decide +kernel
theorem dX8_chain_2 : decode cX8_chain 2 = .ok (.putfield 75, 3) := by decide +kernel
theorem dX8_chain_5 : decode cX8_chain 5 = .ok (.aload_n 0, 1) := by decide +kernel
theorem dX8_chain_6 : decode cX8_chain 6 = .ok (.iload_n 1, 1) := by decide +kernel
theorem dX8_chain_7 : decode cX8_chain 7 = .ok (.invokevirtual 85, 3) := by decide +kernel
theorem dX8_chain_10 : decode cX8_chain 10 = .ok (.ifCond .eq 11, 3) := by decide +kernel
theorem dX8_chain_13 : decode cX8_chain 13 = .ok (.aload_n 0, 1) := by decide +kernel
theorem dX8_chain_14 : decode cX8_chain 14 = .ok (.iload_n 2, 1) := by decide +kernel
theorem dX8_chain_15 : decode cX8_chain 15 = .ok (.invokevirtual 85, 3) := by decide +kernel
theorem dX8_chain_18 : decode cX8_chain 18 = .ok (.ifCond .ne 5, 3) := by decide +kernel
theorem dX8_chain_21 : decode cX8_chain 21 = .ok (.iconst (-1), 1) := by decide +kernel
theorem dX8_chain_22 : decode cX8_chain 22 = .ok (.ireturn, 1) := by decide +kernel
theorem dX8_chain_23 : decode cX8_chain 23 = .ok (.aload_n 0, 1) := by decide +kernel
theorem dX8_chain_24 : decode cX8_chain 24 = .ok (.iload_n 1, 1) := by decide +kernel
theorem dX8_chain_25 : decode cX8_chain 25 = .ok (.invokevirtual 194, 3) := by decide +kernel
theorem dX8_chain_28 : decode cX8_chain 28 = .ok (.aload_n 0, 1) := by decide +kernel
theorem dX8_chain_29 : decode cX8_chain 29 = .ok (.getfield 63, 3) := by decide +kernel
theorem dX8_chain_32 : decode cX8_chain 32 = .ok (.iload_n 2, 1) := by decide +kernel
theorem dX8_chain_33 : decode cX8_chain 33 = .ok (.iaload, 1) := by decide +kernel
theorem dX8_chain_34 : decode cX8_chain 34 = .ok (.ireturn, 1) := by decide +kernel
theorem dX8_next_0 : decode cX8_next 0 = .ok (.aload_n 0, 1) := by decide +kernel
theorem dX8_next_1 : decode cX8_next 1 = .ok (.iconst 0, 1) := by decide +kernel
theorem dX8_next_2 : decode cX8_next 2 = .ok (.putfield 75, 3) := by decide +kernel
theorem dX8_next_5 : decode cX8_next 5 = .ok (.aload_n 0, 1) := by decide +kernel
theorem dX8_next_6 : decode cX8_next 6 = .ok (.iload_n 1, 1) := by decide +kernel
theorem dX8_next_7 : decode cX8_next 7 = .ok (.iload_n 2, 1) := by decide +kernel
theorem dX8_next_8 : decode cX8_next 8 = .ok (.invokevirtual 171, 3) := by decide +kernel
theorem dX8_next_11 : decode cX8_next 11 = .ok (.ifCond .ne 5, 3) := by decide +kernel
theorem dX8_next_14 : decode cX8_next 14 = .ok (.iconst (-1), 1) := by decide +kernel
theorem dX8_next_15 : decode cX8_next 15 = .ok (.ireturn, 1) := by decide +kernel
theorem dX8_next_16 : decode cX8_next 16 = .ok (.aload_n 0, 1) := by decide +kernel
theorem dX8_next_17 : decode cX8_next 17 = .ok (.iload_n 2, 1) := by decide +kernel
theorem dX8_next_18 : decode cX8_next 18 = .ok (.invokevirtual 194, 3) := by decide +kernel
theorem dX8_next_21 : decode cX8_next 21 = .ok (.aload_n 0, 1) := by decide +kernel
theorem dX8_next_22 : decode cX8_next 22 = .ok (.getfield 63, 3) := by decide +kernel
theorem dX8_next_25 : decode cX8_next 25 = .ok (.iload_n 1, 1) := by decide +kernel
theorem dX8_next_26 : decode cX8_next 26 = .ok (.iaload, 1) := by decide +kernel
theorem dX8_next_27 : decode cX8_next 27 = .ok (.iconst (-1), 1) := by decide +kernel
theorem dX8_next_28 : decode cX8_next 28 = .ok (.if_icmp .ne 5, 3) := by decide +kernel
theorem dX8_next_31 : decode cX8_next 31 = .ok (.iconst (-1), 1) := by decide +kernel
theorem dX8_next_32 : decode cX8_next 32 = .ok (.ireturn, 1) := by decide +kernel
theorem dX8_next_33 : decode cX8_next 33 = .ok (.iconst 0, 1) := by decide +kernel
theorem dX8_next_34 : decode cX8_next 34 = .ok (.istore_n 3, 1) := by decide +kernel
theorem dX8_next_35 : decode cX8_next 35 = .ok (.iload_n 3, 1) := by decide +kernel
theorem dX8_next_36 : decode cX8_next 36 = .ok (.aload_n 0, 1) := by decide +kernel
theorem dX8_next_37 : decode cX8_next 37 = .ok (.getfield 78, 3) := by decide +kernel
theorem dX8_next_40 : decode cX8_next 40 = .ok (.if_icmp .ge 46, 3) := by decide +kernel
theorem dX8_next_43 : decode cX8_next 43 = .ok (.aload_n 0, 1) := by decide +kernel
theorem dX8_next_44 : decode cX8_next 44 = .ok (.getfield 63, 3) := by decide +kernel
theorem dX8_next_47 : decode cX8_next 47 = .ok (.iload_n 3, 1) := by decide +kernel
theorem dX8_next_48 : decode cX8_next 48 = .ok (.iaload, 1) := by decide +kernel
theorem dX8_next_49 : decode cX8_next 49 = .ok (.aload_n 0, 1) := by decide +kernel
theorem dX8_next_50 : decode cX8_next 50 = .ok (.getfield 63, 3) := by decide +kernel
theorem dX8_next_53 : decode cX8_next 53 = .ok (.iload_n 1, 1) := by decide +kernel
theorem dX8_next_54 : decode cX8_next 54 = .ok (.iaload, 1) := by decide +kernel
theorem dX8_next_55 : decode cX8_next 55 = .ok (.iconst 1, 1) := by decide +kernel
theorem dX8_next_56 : decode cX8_next 56 = .ok (.isub, 1) := by decide +kernel
theorem dX8_next_57 : decode cX8_next 57 = .ok (.if_icmp .ne 23, 3) := by decide +kernel
theorem dX8_next_60 : decode cX8_next 60 = .ok (.aload_n 0, 1) := by decide +kernel
theorem dX8_next_61 : decode cX8_next 61 = .ok (.iload_n 1, 1) := by decide +kernel
theorem dX8_next_62 : decode cX8_next 62 = .ok (.iload_n 3, 1) := by decide +kernel
theorem dX8_next_63 : decode cX8_next 63 = .ok (.invokevirtual 171, 3) := by decide +kernel
theorem dX8_next_66 : decode cX8_next 66 = .ok (.ifCond .eq 14, 3) := by decide +kernel
theorem dX8_next_69 : decode cX8_next 69 = .ok (.aload_n 0, 1) := by decide +kernel
theorem dX8_next_70 : decode cX8_next 70 = .ok (.iload_n 1, 1) := by decide +kernel
theorem dX8_next_71 : decode cX8_next 71 = .ok (.iload_n 3, 1) := by decide +kernel
theorem dX8_next_72 : decode cX8_next 72 = .ok (.invokevirtual 168, 3) := by decide +kernel
theorem dX8_next_75 : decode cX8_next 75 = .ok (.ifCond .eq 5, 3) := by decide +kernel
theorem dX8_next_78 : decode cX8_next 78 = .ok (.iload_n 3, 1) := by decide +kernel
theorem dX8_next_79 : decode cX8_next 79 = .ok (.ireturn, 1) := by decide +kernel
theorem dX8_next_80 : decode cX8_next 80 = .ok (.iinc 3 1, 3) := by decide +kernel
theorem dX8_next_83 : decode cX8_next 83 = .ok (.goto (-48), 3) := by decide +kernel
theorem dX8_next_86 : decode cX8_next 86 = .ok (.iconst (-1), 1) := by decide +kernel
theorem dX8_next_87 : decode cX8_next 87 = .ok (.ireturn, 1) := by decide +kernel
theorem dX8_grow_0 : decode cX8_grow 0 = .ok (.iload 4, 2) := by decide +kernel
theorem dX8_grow_2 : decode cX8_grow 2 = .ok (.aload_n 0, 1) := by decide +kernel
theorem dX8_grow_3 : decode cX8_grow 3 = .ok (.getfield 197, 3) := by decide +kernel
theorem dX8_grow_6 : decode cX8_grow 6 = .ok (.invokestatic 200, 3) := by decide +kernel
theorem dX8_grow_9 : decode cX8_grow 9 = .ok (.if_icmp .le 8, 3) := by decide +kernel
theorem dX8_grow_12 : decode cX8_grow 12 = .ok (.aload_n 0, 1) := by decide +kernel
theorem dX8_grow_13 : decode cX8_grow 13 = .ok (.iload_n 3, 1) := by decide +kernel
theorem dX8_grow_14 : decode cX8_grow 14 = .ok (.putfield 197, 3) := by decide +kernel
theorem dX8_grow_17 : decode cX8_grow 17 = .ok (.iload_n 1, 1) := by decide +kernel
theorem dX8_grow_18 : decode cX8_grow 18 = .ok (.istore 5, 2) := by decide +kernel
theorem dX8_grow_20 : decode cX8_grow 20 = .ok (.iload 5, 2) := by decide +kernel
theorem dX8_grow_22 : decode cX8_grow 22 = .ok (.aload_n 0, 1) := by decide +kernel
theorem dX8_grow_23 : decode cX8_grow 23 = .ok (.getfield 205, 3) := by decide +kernel
theorem dX8_grow_26 : decode cX8_grow 26 = .ok (.if_icmp .ge 69, 3) := by decide +kernel
theorem dX8_grow_29 : decode cX8_grow 29 = .ok (.iload_n 2, 1) := by decide +kernel
theorem dX8_grow_30 : decode cX8_grow 30 = .ok (.iload 5, 2) := by decide +kernel
theorem dX8_grow_32 : decode cX8_grow 32 = .ok (.ishr, 1) := by decide +kernel
theorem dX8_grow_33 : decode cX8_grow 33 = .ok (.iconst 1, 1) := by decide +kernel
theorem dX8_grow_34 : decode cX8_grow 34 = .ok (.iand, 1) := by decide +kernel
theorem dX8_grow_35 : decode cX8_grow 35 = .ok (.ifCond .ne 6, 3) := by decide +kernel
theorem dX8_grow_38 : decode cX8_grow 38 = .ok (.goto 51, 3) := by decide +kernel
theorem dX8_grow_41 : decode cX8_grow 41 = .ok (.iload 4, 2) := by decide +kernel
theorem dX8_grow_43 : decode cX8_grow 43 = .ok (.iload_n 2, 1) := by decide +kernel
theorem dX8_grow_44 : decode cX8_grow 44 = .ok (.iload 5, 2) := by decide +kernel
theorem dX8_grow_46 : decode cX8_grow 46 = .ok (.ishr, 1) := by decide +kernel
theorem dX8_grow_47 : decode cX8_grow 47 = .ok (.invokestatic 200, 3) := by decide +kernel
theorem dX8_grow_50 : decode cX8_grow 50 = .ok (.iadd, 1) := by decide +kernel
theorem dX8_grow_51 : decode cX8_grow 51 = .ok (.aload_n 0, 1) := by decide +kernel
theorem dX8_grow_52 : decode cX8_grow 52 = .ok (.getfield 197, 3) := by decide +kernel
theorem dX8_grow_55 : decode cX8_grow 55 = .ok (.invokestatic 200, 3) := by decide +kernel
theorem dX8_grow_58 : decode cX8_grow 58 = .ok (.if_icmp .gt 4, 3) := by decide +kernel
theorem dX8_grow_61 : decode cX8_grow 61 = .ok (.return_, 1) := by decide +kernel
theorem dX8_grow_62 : decode cX8_grow 62 = .ok (.aload_n 0, 1) := by decide +kernel
theorem dX8_grow_63 : decode cX8_grow 63 = .ok (.iload 5, 2) := by decide +kernel
theorem dX8_grow_65 : decode cX8_grow 65 = .ok (.iconst 1, 1) := by decide +kernel
theorem dX8_grow_66 : decode cX8_grow 66 = .ok (.iadd, 1) := by decide +kernel
theorem dX8_grow_67 : decode cX8_grow 67 = .ok (.iload_n 2, 1) := by decide +kernel
theorem dX8_grow_68 : decode cX8_grow 68 = .ok (.aload_n 0, 1) := by decide +kernel
theorem dX8_grow_69 : decode cX8_grow 69 = .ok (.getfield 69, 3) := by decide +kernel
theorem dX8_grow_72 : decode cX8_grow 72 = .ok (.iload 5, 2) := by decide +kernel
theorem dX8_grow_74 : decode cX8_grow 74 = .ok (.iaload, 1) := by decide +kernel
theorem dX8_grow_75 : decode cX8_grow 75 = .ok (.iand, 1) := by decide +kernel
theorem dX8_grow_76 : decode cX8_grow 76 = .ok (.iload_n 3, 1) := by decide +kernel
theorem dX8_grow_77 : decode cX8_grow 77 = .ok (.iconst 1, 1) := by decide +kernel
theorem dX8_grow_78 : decode cX8_grow 78 = .ok (.iload 5, 2) := by decide +kernel
theorem dX8_grow_80 : decode cX8_grow 80 = .ok (.ishl, 1) := by decide +kernel
theorem dX8_grow_81 : decode cX8_grow 81 = .ok (.ior, 1) := by decide +kernel
theorem dX8_grow_82 : decode cX8_grow 82 = .ok (.iload 4, 2) := by decide +kernel
theorem dX8_grow_84 : decode cX8_grow 84 = .ok (.iconst 1, 1) := by decide +kernel
theorem dX8_grow_85 : decode cX8_grow 85 = .ok (.iadd, 1) := by decide +kernel
theorem dX8_grow_86 : decode cX8_grow 86 = .ok (.invokevirtual 208, 3) := by decide +kernel
theorem dX8_grow_89 : decode cX8_grow 89 = .ok (.iinc 5 1, 3) := by decide +kernel
theorem dX8_grow_92 : decode cX8_grow 92 = .ok (.goto (-72), 3) := by decide +kernel
theorem dX8_grow_95 : decode cX8_grow 95 = .ok (.return_, 1) := by decide +kernel
theorem dX8_core_0 : decode cX8_core 0 = .ok (.aload_n 0, 1) := by decide +kernel
theorem dX8_core_1 : decode cX8_core 1 = .ok (.iconst 0, 1) := by decide +kernel
theorem dX8_core_2 : decode cX8_core 2 = .ok (.putfield 75, 3) := by decide +kernel
theorem dX8_core_5 : decode cX8_core 5 = .ok (.aload_n 0, 1) := by decide +kernel
theorem dX8_core_6 : decode cX8_core 6 = .ok (.iload_n 1, 1) := by decide +kernel
theorem dX8_core_7 : decode cX8_core 7 = .ok (.invokevirtual 85, 3) := by decide +kernel
theorem dX8_core_10 : decode cX8_core 10 = .ok (.ifCond .ne 5, 3) := by decide +kernel
theorem dX8_core_13 : decode cX8_core 13 = .ok (.iconst (-1), 1) := by decide +kernel
theorem dX8_core_14 : decode cX8_core 14 = .ok (.ireturn, 1) := by decide +kernel
theorem dX8_core_15 : decode cX8_core 15 = .ok (.aload_n 0, 1) := by decide +kernel
theorem dX8_core_16 : decode cX8_core 16 = .ok (.iload_n 1, 1) := by decide +kernel
theorem dX8_core_17 : decode cX8_core 17 = .ok (.invokevirtual 194, 3) := by decide +kernel
theorem dX8_core_20 : decode cX8_core 20 = .ok (.iconst 0, 1) := by decide +kernel
theorem dX8_core_21 : decode cX8_core 21 = .ok (.istore_n 2, 1) := by decide +kernel
theorem dX8_core_22 : decode cX8_core 22 = .ok (.iconst 0, 1) := by decide +kernel
theorem dX8_core_23 : decode cX8_core 23 = .ok (.istore_n 3, 1) := by decide +kernel
theorem dX8_core_24 : decode cX8_core 24 = .ok (.iload_n 3, 1) := by decide +kernel
theorem dX8_core_25 : decode cX8_core 25 = .ok (.aload_n 0, 1) := by decide +kernel
theorem dX8_core_26 : decode cX8_core 26 = .ok (.getfield 78, 3) := by decide +kernel
theorem dX8_core_29 : decode cX8_core 29 = .ok (.if_icmp .ge 27, 3) := by decide +kernel
theorem dX8_core_32 : decode cX8_core 32 = .ok (.iload_n 2, 1) := by decide +kernel
theorem dX8_core_33 : decode cX8_core 33 = .ok (.aload_n 0, 1) := by decide +kernel
theorem dX8_core_34 : decode cX8_core 34 = .ok (.getfield 63, 3) := by decide +kernel
theorem dX8_core_37 : decode cX8_core 37 = .ok (.iload_n 3, 1) := by decide +kernel
theorem dX8_core_38 : decode cX8_core 38 = .ok (.iaload, 1) := by decide +kernel
theorem dX8_core_39 : decode cX8_core 39 = .ok (.iconst (-1), 1) := by decide +kernel
theorem dX8_core_40 : decode cX8_core 40 = .ok (.if_icmp .eq 7, 3) := by decide +kernel
theorem dX8_core_43 : decode cX8_core 43 = .ok (.iconst 1, 1) := by decide +kernel
theorem dX8_core_44 : decode cX8_core 44 = .ok (.goto 4, 3) := by decide +kernel
theorem dX8_core_47 : decode cX8_core 47 = .ok (.iconst 0, 1) := by decide +kernel
theorem dX8_core_48 : decode cX8_core 48 = .ok (.iadd, 1) := by decide +kernel
theorem dX8_core_49 : decode cX8_core 49 = .ok (.istore_n 2, 1) := by decide +kernel
theorem dX8_core_50 : decode cX8_core 50 = .ok (.iinc 3 1, 3) := by decide +kernel
theorem dX8_core_53 : decode cX8_core 53 = .ok (.goto (-29), 3) := by decide +kernel
theorem dX8_core_56 : decode cX8_core 56 = .ok (.iload_n 2, 1) := by decide +kernel
theorem dX8_core_57 : decode cX8_core 57 = .ok (.bipush 20, 2) := by decide +kernel
theorem dX8_core_59 : decode cX8_core 59 = .ok (.if_icmp .le 6, 3) := by decide +kernel
theorem dX8_core_62 : decode cX8_core 62 = .ok (.bipush (-2), 2) := by decide +kernel
theorem dX8_core_64 : decode cX8_core 64 = .ok (.ireturn, 1) := by decide +kernel
theorem dX8_core_65 : decode cX8_core 65 = .ok (.aload_n 0, 1) := by decide +kernel
theorem dX8_core_66 : decode cX8_core 66 = .ok (.iconst 0, 1) := by decide +kernel
theorem dX8_core_67 : decode cX8_core 67 = .ok (.putfield 205, 3) := by decide +kernel
theorem dX8_core_70 : decode cX8_core 70 = .ok (.iconst 0, 1) := by decide +kernel
theorem dX8_core_71 : decode cX8_core 71 = .ok (.istore_n 3, 1) := by decide +kernel
theorem dX8_core_72 : decode cX8_core 72 = .ok (.iload_n 3, 1) := by decide +kernel
theorem dX8_core_73 : decode cX8_core 73 = .ok (.aload_n 0, 1) := by decide +kernel
theorem dX8_core_74 : decode cX8_core 74 = .ok (.getfield 78, 3) := by decide +kernel
theorem dX8_core_77 : decode cX8_core 77 = .ok (.if_icmp .ge 42, 3) := by decide +kernel
theorem dX8_core_80 : decode cX8_core 80 = .ok (.aload_n 0, 1) := by decide +kernel
theorem dX8_core_81 : decode cX8_core 81 = .ok (.getfield 63, 3) := by decide +kernel
theorem dX8_core_84 : decode cX8_core 84 = .ok (.iload_n 3, 1) := by decide +kernel
theorem dX8_core_85 : decode cX8_core 85 = .ok (.iaload, 1) := by decide +kernel
theorem dX8_core_86 : decode cX8_core 86 = .ok (.iconst (-1), 1) := by decide +kernel
theorem dX8_core_87 : decode cX8_core 87 = .ok (.if_icmp .ne 6, 3) := by decide +kernel
theorem dX8_core_90 : decode cX8_core 90 = .ok (.goto 23, 3) := by decide +kernel
theorem dX8_core_93 : decode cX8_core 93 = .ok (.aload_n 0, 1) := by decide +kernel
theorem dX8_core_94 : decode cX8_core 94 = .ok (.getfield 66, 3) := by decide +kernel
theorem dX8_core_97 : decode cX8_core 97 = .ok (.aload_n 0, 1) := by decide +kernel
theorem dX8_core_98 : decode cX8_core 98 = .ok (.getfield 205, 3) := by decide +kernel
theorem dX8_core_101 : decode cX8_core 101 = .ok (.iload_n 3, 1) := by decide +kernel
theorem dX8_core_102 : decode cX8_core 102 = .ok (.iastore, 1) := by decide +kernel
theorem dX8_core_103 : decode cX8_core 103 = .ok (.aload_n 0, 1) := by decide +kernel
theorem dX8_core_104 : decode cX8_core 104 = .ok (.dup, 1) := by decide +kernel
theorem dX8_core_105 : decode cX8_core 105 = .ok (.getfield 205, 3) := by decide +kernel
theorem dX8_core_108 : decode cX8_core 108 = .ok (.iconst 1, 1) := by decide +kernel
theorem dX8_core_109 : decode cX8_core 109 = .ok (.iadd, 1) := by decide +kernel
theorem dX8_core_110 : decode cX8_core 110 = .ok (.putfield 205, 3) := by decide +kernel
theorem dX8_core_113 : decode cX8_core 113 = .ok (.iinc 3 1, 3) := by decide +kernel
theorem dX8_core_116 : decode cX8_core 116 = .ok (.goto (-44), 3) := by decide +kernel
theorem dX8_core_119 : decode cX8_core 119 = .ok (.iconst 0, 1) := by decide +kernel
theorem dX8_core_120 : decode cX8_core 120 = .ok (.istore_n 3, 1) := by decide +kernel
theorem dX8_core_121 : decode cX8_core 121 = .ok (.iload_n 3, 1) := by decide +kernel
theorem dX8_core_122 : decode cX8_core 122 = .ok (.aload_n 0, 1) := by decide +kernel
theorem dX8_core_123 : decode cX8_core 123 = .ok (.getfield 205, 3) := by decide +kernel
theorem dX8_core_126 : decode cX8_core 126 = .ok (.if_icmp .ge 73, 3) := by decide +kernel
theorem dX8_core_129 : decode cX8_core 129 = .ok (.aload_n 0, 1) := by decide +kernel
theorem dX8_core_130 : decode cX8_core 130 = .ok (.getfield 69, 3) := by decide +kernel
theorem dX8_core_133 : decode cX8_core 133 = .ok (.iload_n 3, 1) := by decide +kernel
theorem dX8_core_134 : decode cX8_core 134 = .ok (.iconst 0, 1) := by decide +kernel
theorem dX8_core_135 : decode cX8_core 135 = .ok (.iastore, 1) := by decide +kernel
theorem dX8_core_136 : decode cX8_core 136 = .ok (.iconst 0, 1) := by decide +kernel
theorem dX8_core_137 : decode cX8_core 137 = .ok (.istore 4, 2) := by decide +kernel
theorem dX8_core_139 : decode cX8_core 139 = .ok (.iload 4, 2) := by decide +kernel
theorem dX8_core_141 : decode cX8_core 141 = .ok (.aload_n 0, 1) := by decide +kernel
theorem dX8_core_142 : decode cX8_core 142 = .ok (.getfield 205, 3) := by decide +kernel
theorem dX8_core_145 : decode cX8_core 145 = .ok (.if_icmp .ge 48, 3) := by decide +kernel
theorem dX8_core_148 : decode cX8_core 148 = .ok (.iload 4, 2) := by decide +kernel
theorem dX8_core_150 : decode cX8_core 150 = .ok (.iload_n 3, 1) := by decide +kernel
theorem dX8_core_151 : decode cX8_core 151 = .ok (.if_icmp .eq 36, 3) := by decide +kernel
theorem dX8_core_154 : decode cX8_core 154 = .ok (.aload_n 0, 1) := by decide +kernel
theorem dX8_core_155 : decode cX8_core 155 = .ok (.aload_n 0, 1) := by decide +kernel
theorem dX8_core_156 : decode cX8_core 156 = .ok (.getfield 66, 3) := by decide +kernel
theorem dX8_core_159 : decode cX8_core 159 = .ok (.iload_n 3, 1) := by decide +kernel
theorem dX8_core_160 : decode cX8_core 160 = .ok (.iaload, 1) := by decide +kernel
theorem dX8_core_161 : decode cX8_core 161 = .ok (.aload_n 0, 1) := by decide +kernel
theorem dX8_core_162 : decode cX8_core 162 = .ok (.getfield 66, 3) := by decide +kernel
theorem dX8_core_165 : decode cX8_core 165 = .ok (.iload 4, 2) := by decide +kernel
theorem dX8_core_167 : decode cX8_core 167 = .ok (.iaload, 1) := by decide +kernel
theorem dX8_core_168 : decode cX8_core 168 = .ok (.invokevirtual 168, 3) := by decide +kernel
theorem dX8_core_171 : decode cX8_core 171 = .ok (.ifCond .eq 16, 3) := by decide +kernel
theorem dX8_core_174 : decode cX8_core 174 = .ok (.aload_n 0, 1) := by decide +kernel
theorem dX8_core_175 : decode cX8_core 175 = .ok (.getfield 69, 3) := by decide +kernel
theorem dX8_core_178 : decode cX8_core 178 = .ok (.iload_n 3, 1) := by decide +kernel
theorem dX8_core_179 : decode cX8_core 179 = .ok (.dup2, 1) := by decide +kernel
theorem dX8_core_180 : decode cX8_core 180 = .ok (.iaload, 1) := by decide +kernel
theorem dX8_core_181 : decode cX8_core 181 = .ok (.iconst 1, 1) := by decide +kernel
theorem dX8_core_182 : decode cX8_core 182 = .ok (.iload 4, 2) := by decide +kernel
theorem dX8_core_184 : decode cX8_core 184 = .ok (.ishl, 1) := by decide +kernel
theorem dX8_core_185 : decode cX8_core 185 = .ok (.ior, 1) := by decide +kernel
theorem dX8_core_186 : decode cX8_core 186 = .ok (.iastore, 1) := by decide +kernel
theorem dX8_core_187 : decode cX8_core 187 = .ok (.iinc 4 1, 3) := by decide +kernel
theorem dX8_core_190 : decode cX8_core 190 = .ok (.goto (-51), 3) := by decide +kernel
theorem dX8_core_193 : decode cX8_core 193 = .ok (.iinc 3 1, 3) := by decide +kernel
theorem dX8_core_196 : decode cX8_core 196 = .ok (.goto (-75), 3) := by decide +kernel
theorem dX8_core_199 : decode cX8_core 199 = .ok (.aload_n 0, 1) := by decide +kernel
theorem dX8_core_200 : decode cX8_core 200 = .ok (.iconst 0, 1) := by decide +kernel
theorem dX8_core_201 : decode cX8_core 201 = .ok (.putfield 197, 3) := by decide +kernel
theorem dX8_core_204 : decode cX8_core 204 = .ok (.aload_n 0, 1) := by decide +kernel
theorem dX8_core_205 : decode cX8_core 205 = .ok (.iconst 0, 1) := by decide +kernel
theorem dX8_core_206 : decode cX8_core 206 = .ok (.iconst 1, 1) := by decide +kernel
theorem dX8_core_207 : decode cX8_core 207 = .ok (.aload_n 0, 1) := by decide +kernel
theorem dX8_core_208 : decode cX8_core 208 = .ok (.getfield 205, 3) := by decide +kernel
theorem dX8_core_211 : decode cX8_core 211 = .ok (.ishl, 1) := by decide +kernel
theorem dX8_core_212 : decode cX8_core 212 = .ok (.iconst 1, 1) := by decide +kernel
theorem dX8_core_213 : decode cX8_core 213 = .ok (.isub, 1) := by decide +kernel
theorem dX8_core_214 : decode cX8_core 214 = .ok (.iconst 0, 1) := by decide +kernel
theorem dX8_core_215 : decode cX8_core 215 = .ok (.iconst 0, 1) := by decide +kernel
theorem dX8_core_216 : decode cX8_core 216 = .ok (.invokevirtual 208, 3) := by decide +kernel
theorem dX8_core_219 : decode cX8_core 219 = .ok (.aload_n 0, 1) := by decide +kernel
theorem dX8_core_220 : decode cX8_core 220 = .ok (.iconst 0, 1) := by decide +kernel
theorem dX8_core_221 : decode cX8_core 221 = .ok (.putfield 212, 3) := by decide +kernel
theorem dX8_core_224 : decode cX8_core 224 = .ok (.iconst 0, 1) := by decide +kernel
theorem dX8_core_225 : decode cX8_core 225 = .ok (.istore_n 3, 1) := by decide +kernel
theorem dX8_core_226 : decode cX8_core 226 = .ok (.iload_n 3, 1) := by decide +kernel
theorem dX8_core_227 : decode cX8_core 227 = .ok (.aload_n 0, 1) := by decide +kernel
theorem dX8_core_228 : decode cX8_core 228 = .ok (.getfield 205, 3) := by decide +kernel
theorem dX8_core_231 : decode cX8_core 231 = .ok (.if_icmp .ge 48, 3) := by decide +kernel
theorem dX8_core_234 : decode cX8_core 234 = .ok (.aload_n 0, 1) := by decide +kernel
theorem dX8_core_235 : decode cX8_core 235 = .ok (.getfield 197, 3) := by decide +kernel
theorem dX8_core_238 : decode cX8_core 238 = .ok (.iload_n 3, 1) := by decide +kernel
theorem dX8_core_239 : decode cX8_core 239 = .ok (.ishr, 1) := by decide +kernel
theorem dX8_core_240 : decode cX8_core 240 = .ok (.iconst 1, 1) := by decide +kernel
theorem dX8_core_241 : decode cX8_core 241 = .ok (.iand, 1) := by decide +kernel
theorem dX8_core_242 : decode cX8_core 242 = .ok (.ifCond .ne 6, 3) := by decide +kernel
theorem dX8_core_245 : decode cX8_core 245 = .ok (.goto 28, 3) := by decide +kernel
theorem dX8_core_248 : decode cX8_core 248 = .ok (.aload_n 0, 1) := by decide +kernel
theorem dX8_core_249 : decode cX8_core 249 = .ok (.getfield 72, 3) := by decide +kernel
theorem dX8_core_252 : decode cX8_core 252 = .ok (.aload_n 0, 1) := by decide +kernel
theorem dX8_core_253 : decode cX8_core 253 = .ok (.getfield 212, 3) := by decide +kernel
theorem dX8_core_256 : decode cX8_core 256 = .ok (.aload_n 0, 1) := by decide +kernel
theorem dX8_core_257 : decode cX8_core 257 = .ok (.getfield 66, 3) := by decide +kernel
theorem dX8_core_260 : decode cX8_core 260 = .ok (.iload_n 3, 1) := by decide +kernel
theorem dX8_core_261 : decode cX8_core 261 = .ok (.iaload, 1) := by decide +kernel
theorem dX8_core_262 : decode cX8_core 262 = .ok (.iastore, 1) := by decide +kernel
theorem dX8_core_263 : decode cX8_core 263 = .ok (.aload_n 0, 1) := by decide +kernel
theorem dX8_core_264 : decode cX8_core 264 = .ok (.dup, 1) := by decide +kernel
theorem dX8_core_265 : decode cX8_core 265 = .ok (.getfield 212, 3) := by decide +kernel
theorem dX8_core_268 : decode cX8_core 268 = .ok (.iconst 1, 1) := by decide +kernel
theorem dX8_core_269 : decode cX8_core 269 = .ok (.iadd, 1) := by decide +kernel
theorem dX8_core_270 : decode cX8_core 270 = .ok (.putfield 212, 3) := by decide +kernel
theorem dX8_core_273 : decode cX8_core 273 = .ok (.iinc 3 1, 3) := by decide +kernel
theorem dX8_core_276 : decode cX8_core 276 = .ok (.goto (-50), 3) := by decide +kernel
theorem dX8_core_279 : decode cX8_core 279 = .ok (.aload_n 0, 1) := by decide +kernel
theorem dX8_core_280 : decode cX8_core 280 = .ok (.getfield 212, 3) := by decide +kernel
theorem dX8_core_283 : decode cX8_core 283 = .ok (.ireturn, 1) := by decide +kernel
theorem dX8_member_0 : decode cX8_member 0 = .ok (.aload_n 0, 1) := by decide +kernel
theorem dX8_member_1 : decode cX8_member 1 = .ok (.iconst 0, 1) := by decide +kernel
theorem dX8_member_2 : decode cX8_member 2 = .ok (.putfield 75, 3) := by decide +kernel
theorem dX8_member_5 : decode cX8_member 5 = .ok (.iload_n 1, 1) := by decide +kernel
theorem dX8_member_6 : decode cX8_member 6 = .ok (.iconst 0, 1) := by decide +kernel
theorem dX8_member_7 : decode cX8_member 7 = .ok (.aload_n 0, 1) := by decide +kernel
theorem dX8_member_8 : decode cX8_member 8 = .ok (.getfield 212, 3) := by decide +kernel
theorem dX8_member_11 : decode cX8_member 11 = .ok (.iconst 1, 1) := by decide +kernel
theorem dX8_member_12 : decode cX8_member 12 = .ok (.isub, 1) := by decide +kernel
theorem dX8_member_13 : decode cX8_member 13 = .ok (.invokestatic 81, 3) := by decide +kernel
theorem dX8_member_16 : decode cX8_member 16 = .ok (.ifCond .eq 12, 3) := by decide +kernel
theorem dX8_member_19 : decode cX8_member 19 = .ok (.aload_n 0, 1) := by decide +kernel
theorem dX8_member_20 : decode cX8_member 20 = .ok (.getfield 72, 3) := by decide +kernel
theorem dX8_member_23 : decode cX8_member 23 = .ok (.iload_n 1, 1) := by decide +kernel
theorem dX8_member_24 : decode cX8_member 24 = .ok (.iaload, 1) := by decide +kernel
theorem dX8_member_25 : decode cX8_member 25 = .ok (.goto 4, 3) := by decide +kernel
theorem dX8_member_28 : decode cX8_member 28 = .ok (.iconst (-1), 1) := by decide +kernel
theorem dX8_member_29 : decode cX8_member 29 = .ok (.ireturn, 1) := by decide +kernel
theorem dX8_count_0 : decode cX8_count 0 = .ok (.aload_n 0, 1) := by decide +kernel
theorem dX8_count_1 : decode cX8_count 1 = .ok (.iconst 0, 1) := by decide +kernel
theorem dX8_count_2 : decode cX8_count 2 = .ok (.putfield 75, 3) := by decide +kernel
theorem dX8_count_5 : decode cX8_count 5 = .ok (.iconst 0, 1) := by decide +kernel
theorem dX8_count_6 : decode cX8_count 6 = .ok (.istore_n 2, 1) := by decide +kernel
theorem dX8_count_7 : decode cX8_count 7 = .ok (.iload_n 1, 1) := by decide +kernel
theorem dX8_count_8 : decode cX8_count 8 = .ok (.tableswitch 268 0 13 #[72, 107, 147, 147, 147, 147, 147, 147, 174, 243, 248, 253, 258, 263], 72) := by decide +kernel
theorem dX8_count_80 : decode cX8_count 80 = .ok (.iconst 0, 1) := by decide +kernel
theorem dX8_count_81 : decode cX8_count 81 = .ok (.istore_n 3, 1) := by decide +kernel
theorem dX8_count_82 : decode cX8_count 82 = .ok (.iload_n 3, 1) := by decide +kernel
theorem dX8_count_83 : decode cX8_count 83 = .ok (.aload_n 0, 1) := by decide +kernel
theorem dX8_count_84 : decode cX8_count 84 = .ok (.getfield 78, 3) := by decide +kernel
theorem dX8_count_87 : decode cX8_count 87 = .ok (.if_icmp .ge 26, 3) := by decide +kernel
theorem dX8_count_90 : decode cX8_count 90 = .ok (.iload_n 2, 1) := by decide +kernel
theorem dX8_count_91 : decode cX8_count 91 = .ok (.aload_n 0, 1) := by decide +kernel
theorem dX8_count_92 : decode cX8_count 92 = .ok (.getfield 9, 3) := by decide +kernel
theorem dX8_count_95 : decode cX8_count 95 = .ok (.iload_n 3, 1) := by decide +kernel
theorem dX8_count_96 : decode cX8_count 96 = .ok (.baload, 1) := by decide +kernel
theorem dX8_count_97 : decode cX8_count 97 = .ok (.ifCond .eq 7, 3) := by decide +kernel
theorem dX8_count_100 : decode cX8_count 100 = .ok (.iconst 0, 1) := by decide +kernel
theorem dX8_count_101 : decode cX8_count 101 = .ok (.goto 4, 3) := by decide +kernel
theorem dX8_count_104 : decode cX8_count 104 = .ok (.iconst 1, 1) := by decide +kernel
theorem dX8_count_105 : decode cX8_count 105 = .ok (.iadd, 1) := by decide +kernel
theorem dX8_count_106 : decode cX8_count 106 = .ok (.istore_n 2, 1) := by decide +kernel
theorem dX8_count_107 : decode cX8_count 107 = .ok (.iinc 3 1, 3) := by decide +kernel
theorem dX8_count_110 : decode cX8_count 110 = .ok (.goto (-28), 3) := by decide +kernel
theorem dX8_count_113 : decode cX8_count 113 = .ok (.iload_n 2, 1) := by decide +kernel
theorem dX8_count_114 : decode cX8_count 114 = .ok (.ireturn, 1) := by decide +kernel
theorem dX8_count_115 : decode cX8_count 115 = .ok (.iconst 0, 1) := by decide +kernel
theorem dX8_count_116 : decode cX8_count 116 = .ok (.istore_n 3, 1) := by decide +kernel
theorem dX8_count_117 : decode cX8_count 117 = .ok (.iload_n 3, 1) := by decide +kernel
theorem dX8_count_118 : decode cX8_count 118 = .ok (.aload_n 0, 1) := by decide +kernel
theorem dX8_count_119 : decode cX8_count 119 = .ok (.getfield 78, 3) := by decide +kernel
theorem dX8_count_122 : decode cX8_count 122 = .ok (.if_icmp .ge 31, 3) := by decide +kernel
theorem dX8_count_125 : decode cX8_count 125 = .ok (.iload_n 2, 1) := by decide +kernel
theorem dX8_count_126 : decode cX8_count 126 = .ok (.aload_n 0, 1) := by decide +kernel
theorem dX8_count_127 : decode cX8_count 127 = .ok (.getfield 9, 3) := by decide +kernel
theorem dX8_count_130 : decode cX8_count 130 = .ok (.iload_n 3, 1) := by decide +kernel
theorem dX8_count_131 : decode cX8_count 131 = .ok (.baload, 1) := by decide +kernel
theorem dX8_count_132 : decode cX8_count 132 = .ok (.ifCond .eq 7, 3) := by decide +kernel
theorem dX8_count_135 : decode cX8_count 135 = .ok (.iconst 0, 1) := by decide +kernel
theorem dX8_count_136 : decode cX8_count 136 = .ok (.goto 9, 3) := by decide +kernel
theorem dX8_count_139 : decode cX8_count 139 = .ok (.aload_n 0, 1) := by decide +kernel
theorem dX8_count_140 : decode cX8_count 140 = .ok (.getfield 13, 3) := by decide +kernel
theorem dX8_count_143 : decode cX8_count 143 = .ok (.iload_n 3, 1) := by decide +kernel
theorem dX8_count_144 : decode cX8_count 144 = .ok (.iaload, 1) := by decide +kernel
theorem dX8_count_145 : decode cX8_count 145 = .ok (.iadd, 1) := by decide +kernel
theorem dX8_count_146 : decode cX8_count 146 = .ok (.istore_n 2, 1) := by decide +kernel
theorem dX8_count_147 : decode cX8_count 147 = .ok (.iinc 3 1, 3) := by decide +kernel
theorem dX8_count_150 : decode cX8_count 150 = .ok (.goto (-33), 3) := by decide +kernel
theorem dX8_count_153 : decode cX8_count 153 = .ok (.iload_n 2, 1) := by decide +kernel
theorem dX8_count_154 : decode cX8_count 154 = .ok (.ireturn, 1) := by decide +kernel
theorem dX8_count_155 : decode cX8_count 155 = .ok (.aload_n 0, 1) := by decide +kernel
theorem dX8_count_156 : decode cX8_count 156 = .ok (.getfield 60, 3) := by decide +kernel
theorem dX8_count_159 : decode cX8_count 159 = .ok (.iload_n 1, 1) := by decide +kernel
theorem dX8_count_160 : decode cX8_count 160 = .ok (.iconst 2, 1) := by decide +kernel
theorem dX8_count_161 : decode cX8_count 161 = .ok (.if_icmp .ne 7, 3) := by decide +kernel
theorem dX8_count_164 : decode cX8_count 164 = .ok (.iconst 0, 1) := by decide +kernel
theorem dX8_count_165 : decode cX8_count 165 = .ok (.goto 15, 3) := by decide +kernel
theorem dX8_count_168 : decode cX8_count 168 = .ok (.iload_n 1, 1) := by decide +kernel
theorem dX8_count_169 : decode cX8_count 169 = .ok (.iconst 3, 1) := by decide +kernel
theorem dX8_count_170 : decode cX8_count 170 = .ok (.if_icmp .ne 7, 3) := by decide +kernel
theorem dX8_count_173 : decode cX8_count 173 = .ok (.iconst 1, 1) := by decide +kernel
theorem dX8_count_174 : decode cX8_count 174 = .ok (.goto 6, 3) := by decide +kernel
theorem dX8_count_177 : decode cX8_count 177 = .ok (.iload_n 1, 1) := by decide +kernel
theorem dX8_count_178 : decode cX8_count 178 = .ok (.iconst 2, 1) := by decide +kernel
theorem dX8_count_179 : decode cX8_count 179 = .ok (.isub, 1) := by decide +kernel
theorem dX8_count_180 : decode cX8_count 180 = .ok (.iaload, 1) := by decide +kernel
theorem dX8_count_181 : decode cX8_count 181 = .ok (.ireturn, 1) := by decide +kernel
theorem dX8_count_182 : decode cX8_count 182 = .ok (.iconst 0, 1) := by decide +kernel
theorem dX8_count_183 : decode cX8_count 183 = .ok (.istore_n 3, 1) := by decide +kernel
theorem dX8_count_184 : decode cX8_count 184 = .ok (.iload_n 3, 1) := by decide +kernel
theorem dX8_count_185 : decode cX8_count 185 = .ok (.aload_n 0, 1) := by decide +kernel
theorem dX8_count_186 : decode cX8_count 186 = .ok (.getfield 78, 3) := by decide +kernel
theorem dX8_count_189 : decode cX8_count 189 = .ok (.if_icmp .ge 60, 3) := by decide +kernel
theorem dX8_count_192 : decode cX8_count 192 = .ok (.aload_n 0, 1) := by decide +kernel
theorem dX8_count_193 : decode cX8_count 193 = .ok (.getfield 9, 3) := by decide +kernel
theorem dX8_count_196 : decode cX8_count 196 = .ok (.iload_n 3, 1) := by decide +kernel
theorem dX8_count_197 : decode cX8_count 197 = .ok (.baload, 1) := by decide +kernel
theorem dX8_count_198 : decode cX8_count 198 = .ok (.ifCond .eq 6, 3) := by decide +kernel
theorem dX8_count_201 : decode cX8_count 201 = .ok (.goto 42, 3) := by decide +kernel
theorem dX8_count_204 : decode cX8_count 204 = .ok (.aload_n 0, 1) := by decide +kernel
theorem dX8_count_205 : decode cX8_count 205 = .ok (.iload_n 3, 1) := by decide +kernel
theorem dX8_count_206 : decode cX8_count 206 = .ok (.invokevirtual 194, 3) := by decide +kernel
theorem dX8_count_209 : decode cX8_count 209 = .ok (.iconst 0, 1) := by decide +kernel
theorem dX8_count_210 : decode cX8_count 210 = .ok (.istore 4, 2) := by decide +kernel
theorem dX8_count_212 : decode cX8_count 212 = .ok (.aload_n 0, 1) := by decide +kernel
theorem dX8_count_213 : decode cX8_count 213 = .ok (.getfield 63, 3) := by decide +kernel
theorem dX8_count_216 : decode cX8_count 216 = .ok (.iload 4, 2) := by decide +kernel
theorem dX8_count_218 : decode cX8_count 218 = .ok (.iaload, 1) := by decide +kernel
theorem dX8_count_219 : decode cX8_count 219 = .ok (.iconst (-1), 1) := by decide +kernel
theorem dX8_count_220 : decode cX8_count 220 = .ok (.if_icmp .ne 9, 3) := by decide +kernel
theorem dX8_count_223 : decode cX8_count 223 = .ok (.iinc 4 1, 3) := by decide +kernel
theorem dX8_count_226 : decode cX8_count 226 = .ok (.goto (-14), 3) := by decide +kernel
theorem dX8_count_229 : decode cX8_count 229 = .ok (.iload_n 2, 1) := by decide +kernel
theorem dX8_count_230 : decode cX8_count 230 = .ok (.iload 4, 2) := by decide +kernel
theorem dX8_count_232 : decode cX8_count 232 = .ok (.iload_n 3, 1) := by decide +kernel
theorem dX8_count_233 : decode cX8_count 233 = .ok (.if_icmp .ne 7, 3) := by decide +kernel
theorem dX8_count_236 : decode cX8_count 236 = .ok (.iconst 1, 1) := by decide +kernel
theorem dX8_count_237 : decode cX8_count 237 = .ok (.goto 4, 3) := by decide +kernel
theorem dX8_count_240 : decode cX8_count 240 = .ok (.iconst 0, 1) := by decide +kernel
theorem dX8_count_241 : decode cX8_count 241 = .ok (.iadd, 1) := by decide +kernel
theorem dX8_count_242 : decode cX8_count 242 = .ok (.istore_n 2, 1) := by decide +kernel
theorem dX8_count_243 : decode cX8_count 243 = .ok (.iinc 3 1, 3) := by decide +kernel
theorem dX8_count_246 : decode cX8_count 246 = .ok (.goto (-62), 3) := by decide +kernel
theorem dX8_count_249 : decode cX8_count 249 = .ok (.iload_n 2, 1) := by decide +kernel
theorem dX8_count_250 : decode cX8_count 250 = .ok (.ireturn, 1) := by decide +kernel
theorem dX8_count_251 : decode cX8_count 251 = .ok (.aload_n 0, 1) := by decide +kernel
theorem dX8_count_252 : decode cX8_count 252 = .ok (.getfield 32, 3) := by decide +kernel
theorem dX8_count_255 : decode cX8_count 255 = .ok (.ireturn, 1) := by decide +kernel
theorem dX8_count_256 : decode cX8_count 256 = .ok (.aload_n 0, 1) := by decide +kernel
theorem dX8_count_257 : decode cX8_count 257 = .ok (.getfield 36, 3) := by decide +kernel
theorem dX8_count_260 : decode cX8_count 260 = .ok (.ireturn, 1) := by decide +kernel
theorem dX8_count_261 : decode cX8_count 261 = .ok (.aload_n 0, 1) := by decide +kernel
theorem dX8_count_262 : decode cX8_count 262 = .ok (.getfield 39, 3) := by decide +kernel
theorem dX8_count_265 : decode cX8_count 265 = .ok (.ireturn, 1) := by decide +kernel
theorem dX8_count_266 : decode cX8_count 266 = .ok (.aload_n 0, 1) := by decide +kernel
theorem dX8_count_267 : decode cX8_count 267 = .ok (.getfield 117, 3) := by decide +kernel
theorem dX8_count_270 : decode cX8_count 270 = .ok (.ireturn, 1) := by decide +kernel
theorem dX8_count_271 : decode cX8_count 271 = .ok (.aload_n 0, 1) := by decide +kernel
theorem dX8_count_272 : decode cX8_count 272 = .ok (.getfield 179, 3) := by decide +kernel
theorem dX8_count_275 : decode cX8_count 275 = .ok (.ireturn, 1) := by decide +kernel
theorem dX8_count_276 : decode cX8_count 276 = .ok (.iconst (-1), 1) := by decide +kernel
theorem dX8_count_277 : decode cX8_count 277 = .ok (.ireturn, 1) := by decide +kernel
theorem dJ6_bitCount_0f7a4_0 : decode cJ6_bitCount_0f7a4 0 = .ok (.iload_n 0, 1) := by decide +kernel
theorem dJ6_bitCount_0f7a4_1 : decode cJ6_bitCount_0f7a4 1 = .ok (.iload_n 0, 1) := by decide +kernel
theorem dJ6_bitCount_0f7a4_2 : decode cJ6_bitCount_0f7a4 2 = .ok (.iconst 1, 1) := by decide +kernel
theorem dJ6_bitCount_0f7a4_3 : decode cJ6_bitCount_0f7a4 3 = .ok (.iushr, 1) := by decide +kernel
theorem dJ6_bitCount_0f7a4_4 : decode cJ6_bitCount_0f7a4 4 = .ok (.ldc_w 265, 3) := by decide +kernel
theorem dJ6_bitCount_0f7a4_7 : decode cJ6_bitCount_0f7a4 7 = .ok (.iand, 1) := by decide +kernel
theorem dJ6_bitCount_0f7a4_8 : decode cJ6_bitCount_0f7a4 8 = .ok (.isub, 1) := by decide +kernel
theorem dJ6_bitCount_0f7a4_9 : decode cJ6_bitCount_0f7a4 9 = .ok (.istore_n 0, 1) := by decide +kernel
theorem dJ6_bitCount_0f7a4_10 : decode cJ6_bitCount_0f7a4 10 = .ok (.iload_n 0, 1) := by decide +kernel
theorem dJ6_bitCount_0f7a4_11 : decode cJ6_bitCount_0f7a4 11 = .ok (.ldc_w 266, 3) := by decide +kernel
theorem dJ6_bitCount_0f7a4_14 : decode cJ6_bitCount_0f7a4 14 = .ok (.iand, 1) := by decide +kernel
theorem dJ6_bitCount_0f7a4_15 : decode cJ6_bitCount_0f7a4 15 = .ok (.iload_n 0, 1) := by decide +kernel
theorem dJ6_bitCount_0f7a4_16 : decode cJ6_bitCount_0f7a4 16 = .ok (.iconst 2, 1) := by decide +kernel
theorem dJ6_bitCount_0f7a4_17 : decode cJ6_bitCount_0f7a4 17 = .ok (.iushr, 1) := by decide +kernel
theorem dJ6_bitCount_0f7a4_18 : decode cJ6_bitCount_0f7a4 18 = .ok (.ldc_w 266, 3) := by decide +kernel
theorem dJ6_bitCount_0f7a4_21 : decode cJ6_bitCount_0f7a4 21 = .ok (.iand, 1) := by decide +kernel
theorem dJ6_bitCount_0f7a4_22 : decode cJ6_bitCount_0f7a4 22 = .ok (.iadd, 1) := by decide +kernel
theorem dJ6_bitCount_0f7a4_23 : decode cJ6_bitCount_0f7a4 23 = .ok (.istore_n 0, 1) := by decide +kernel
theorem dJ6_bitCount_0f7a4_24 : decode cJ6_bitCount_0f7a4 24 = .ok (.iload_n 0, 1) := by decide +kernel
theorem dJ6_bitCount_0f7a4_25 : decode cJ6_bitCount_0f7a4 25 = .ok (.iload_n 0, 1) := by decide +kernel
theorem dJ6_bitCount_0f7a4_26 : decode cJ6_bitCount_0f7a4 26 = .ok (.iconst 4, 1) := by decide +kernel
theorem dJ6_bitCount_0f7a4_27 : decode cJ6_bitCount_0f7a4 27 = .ok (.iushr, 1) := by decide +kernel
theorem dJ6_bitCount_0f7a4_28 : decode cJ6_bitCount_0f7a4 28 = .ok (.iadd, 1) := by decide +kernel
theorem dJ6_bitCount_0f7a4_29 : decode cJ6_bitCount_0f7a4 29 = .ok (.ldc_w 267, 3) := by decide +kernel
theorem dJ6_bitCount_0f7a4_32 : decode cJ6_bitCount_0f7a4 32 = .ok (.iand, 1) := by decide +kernel
theorem dJ6_bitCount_0f7a4_33 : decode cJ6_bitCount_0f7a4 33 = .ok (.istore_n 0, 1) := by decide +kernel
theorem dJ6_bitCount_0f7a4_34 : decode cJ6_bitCount_0f7a4 34 = .ok (.iload_n 0, 1) := by decide +kernel
theorem dJ6_bitCount_0f7a4_35 : decode cJ6_bitCount_0f7a4 35 = .ok (.iload_n 0, 1) := by decide +kernel
theorem dJ6_bitCount_0f7a4_36 : decode cJ6_bitCount_0f7a4 36 = .ok (.bipush 8, 2) := by decide +kernel
theorem dJ6_bitCount_0f7a4_38 : decode cJ6_bitCount_0f7a4 38 = .ok (.iushr, 1) := by decide +kernel
theorem dJ6_bitCount_0f7a4_39 : decode cJ6_bitCount_0f7a4 39 = .ok (.iadd, 1) := by decide +kernel
theorem dJ6_bitCount_0f7a4_40 : decode cJ6_bitCount_0f7a4 40 = .ok (.istore_n 0, 1) := by decide +kernel
theorem dJ6_bitCount_0f7a4_41 : decode cJ6_bitCount_0f7a4 41 = .ok (.iload_n 0, 1) := by decide +kernel
theorem dJ6_bitCount_0f7a4_42 : decode cJ6_bitCount_0f7a4 42 = .ok (.iload_n 0, 1) := by decide +kernel
theorem dJ6_bitCount_0f7a4_43 : decode cJ6_bitCount_0f7a4 43 = .ok (.bipush 16, 2) := by decide +kernel
theorem dJ6_bitCount_0f7a4_45 : decode cJ6_bitCount_0f7a4 45 = .ok (.iushr, 1) := by decide +kernel
theorem dJ6_bitCount_0f7a4_46 : decode cJ6_bitCount_0f7a4 46 = .ok (.iadd, 1) := by decide +kernel
theorem dJ6_bitCount_0f7a4_47 : decode cJ6_bitCount_0f7a4 47 = .ok (.istore_n 0, 1) := by decide +kernel
theorem dJ6_bitCount_0f7a4_48 : decode cJ6_bitCount_0f7a4 48 = .ok (.iload_n 0, 1) := by decide +kernel
theorem dJ6_bitCount_0f7a4_49 : decode cJ6_bitCount_0f7a4 49 = .ok (.bipush 63, 2) := by decide +kernel
theorem dJ6_bitCount_0f7a4_51 : decode cJ6_bitCount_0f7a4 51 = .ok (.iand, 1) := by decide +kernel
theorem dJ6_bitCount_0f7a4_52 : decode cJ6_bitCount_0f7a4 52 = .ok (.ireturn, 1) := by decide +kernel
theorem dJ13_bitCount_95d88_0 : decode cJ13_bitCount_95d88 0 = .ok (.lload_n 0, 1) := by decide +kernel
theorem dJ13_bitCount_95d88_1 : decode cJ13_bitCount_95d88 1 = .ok (.lload_n 0, 1) := by decide +kernel
theorem dJ13_bitCount_95d88_2 : decode cJ13_bitCount_95d88 2 = .ok (.iconst 1, 1) := by decide +kernel
theorem dJ13_bitCount_95d88_3 : decode cJ13_bitCount_95d88 3 = .ok (.lushr, 1) := by decide +kernel
theorem dJ13_bitCount_95d88_4 : decode cJ13_bitCount_95d88 4 = .ok (.ldc2_w 314, 3) := by decide +kernel
theorem dJ13_bitCount_95d88_7 : decode cJ13_bitCount_95d88 7 = .ok (.land, 1) := by decide +kernel
theorem dJ13_bitCount_95d88_8 : decode cJ13_bitCount_95d88 8 = .ok (.lsub, 1) := by decide +kernel
theorem dJ13_bitCount_95d88_9 : decode cJ13_bitCount_95d88 9 = .ok (.lstore_n 0, 1) := by decide +kernel
theorem dJ13_bitCount_95d88_10 : decode cJ13_bitCount_95d88 10 = .ok (.lload_n 0, 1) := by decide +kernel
theorem dJ13_bitCount_95d88_11 : decode cJ13_bitCount_95d88 11 = .ok (.ldc2_w 316, 3) := by decide +kernel
theorem dJ13_bitCount_95d88_14 : decode cJ13_bitCount_95d88 14 = .ok (.land, 1) := by decide +kernel
theorem dJ13_bitCount_95d88_15 : decode cJ13_bitCount_95d88 15 = .ok (.lload_n 0, 1) := by decide +kernel
theorem dJ13_bitCount_95d88_16 : decode cJ13_bitCount_95d88 16 = .ok (.iconst 2, 1) := by decide +kernel
theorem dJ13_bitCount_95d88_17 : decode cJ13_bitCount_95d88 17 = .ok (.lushr, 1) := by decide +kernel
theorem dJ13_bitCount_95d88_18 : decode cJ13_bitCount_95d88 18 = .ok (.ldc2_w 316, 3) := by decide +kernel
theorem dJ13_bitCount_95d88_21 : decode cJ13_bitCount_95d88 21 = .ok (.land, 1) := by decide +kernel
theorem dJ13_bitCount_95d88_22 : decode cJ13_bitCount_95d88 22 = .ok (.ladd, 1) := by decide +kernel
theorem dJ13_bitCount_95d88_23 : decode cJ13_bitCount_95d88 23 = .ok (.lstore_n 0, 1) := by decide +kernel
theorem dJ13_bitCount_95d88_24 : decode cJ13_bitCount_95d88 24 = .ok (.lload_n 0, 1) := by decide +kernel
theorem dJ13_bitCount_95d88_25 : decode cJ13_bitCount_95d88 25 = .ok (.lload_n 0, 1) := by decide +kernel
theorem dJ13_bitCount_95d88_26 : decode cJ13_bitCount_95d88 26 = .ok (.iconst 4, 1) := by decide +kernel
theorem dJ13_bitCount_95d88_27 : decode cJ13_bitCount_95d88 27 = .ok (.lushr, 1) := by decide +kernel
theorem dJ13_bitCount_95d88_28 : decode cJ13_bitCount_95d88 28 = .ok (.ladd, 1) := by decide +kernel
theorem dJ13_bitCount_95d88_29 : decode cJ13_bitCount_95d88 29 = .ok (.ldc2_w 318, 3) := by decide +kernel
theorem dJ13_bitCount_95d88_32 : decode cJ13_bitCount_95d88 32 = .ok (.land, 1) := by decide +kernel
theorem dJ13_bitCount_95d88_33 : decode cJ13_bitCount_95d88 33 = .ok (.lstore_n 0, 1) := by decide +kernel
theorem dJ13_bitCount_95d88_34 : decode cJ13_bitCount_95d88 34 = .ok (.lload_n 0, 1) := by decide +kernel
theorem dJ13_bitCount_95d88_35 : decode cJ13_bitCount_95d88 35 = .ok (.lload_n 0, 1) := by decide +kernel
theorem dJ13_bitCount_95d88_36 : decode cJ13_bitCount_95d88 36 = .ok (.bipush 8, 2) := by decide +kernel
theorem dJ13_bitCount_95d88_38 : decode cJ13_bitCount_95d88 38 = .ok (.lushr, 1) := by decide +kernel
theorem dJ13_bitCount_95d88_39 : decode cJ13_bitCount_95d88 39 = .ok (.ladd, 1) := by decide +kernel
theorem dJ13_bitCount_95d88_40 : decode cJ13_bitCount_95d88 40 = .ok (.lstore_n 0, 1) := by decide +kernel
theorem dJ13_bitCount_95d88_41 : decode cJ13_bitCount_95d88 41 = .ok (.lload_n 0, 1) := by decide +kernel
theorem dJ13_bitCount_95d88_42 : decode cJ13_bitCount_95d88 42 = .ok (.lload_n 0, 1) := by decide +kernel
theorem dJ13_bitCount_95d88_43 : decode cJ13_bitCount_95d88 43 = .ok (.bipush 16, 2) := by decide +kernel
theorem dJ13_bitCount_95d88_45 : decode cJ13_bitCount_95d88 45 = .ok (.lushr, 1) := by decide +kernel
theorem dJ13_bitCount_95d88_46 : decode cJ13_bitCount_95d88 46 = .ok (.ladd, 1) := by decide +kernel
theorem dJ13_bitCount_95d88_47 : decode cJ13_bitCount_95d88 47 = .ok (.lstore_n 0, 1) := by decide +kernel
theorem dJ13_bitCount_95d88_48 : decode cJ13_bitCount_95d88 48 = .ok (.lload_n 0, 1) := by decide +kernel
theorem dJ13_bitCount_95d88_49 : decode cJ13_bitCount_95d88 49 = .ok (.lload_n 0, 1) := by decide +kernel
theorem dJ13_bitCount_95d88_50 : decode cJ13_bitCount_95d88 50 = .ok (.bipush 32, 2) := by decide +kernel
theorem dJ13_bitCount_95d88_52 : decode cJ13_bitCount_95d88 52 = .ok (.lushr, 1) := by decide +kernel
theorem dJ13_bitCount_95d88_53 : decode cJ13_bitCount_95d88 53 = .ok (.ladd, 1) := by decide +kernel
theorem dJ13_bitCount_95d88_54 : decode cJ13_bitCount_95d88 54 = .ok (.lstore_n 0, 1) := by decide +kernel
theorem dJ13_bitCount_95d88_55 : decode cJ13_bitCount_95d88 55 = .ok (.lload_n 0, 1) := by decide +kernel
theorem dJ13_bitCount_95d88_56 : decode cJ13_bitCount_95d88 56 = .ok (.l2i, 1) := by decide +kernel
theorem dJ13_bitCount_95d88_57 : decode cJ13_bitCount_95d88 57 = .ok (.bipush 127, 2) := by decide +kernel
theorem dJ13_bitCount_95d88_59 : decode cJ13_bitCount_95d88 59 = .ok (.iand, 1) := by decide +kernel
theorem dJ13_bitCount_95d88_60 : decode cJ13_bitCount_95d88 60 = .ok (.ireturn, 1) := by decide +kernel
theorem dJ9_min_7cf53_0 : decode cJ9_min_7cf53 0 = .ok (.iload_n 0, 1) := by decide +kernel
theorem dJ9_min_7cf53_1 : decode cJ9_min_7cf53 1 = .ok (.iload_n 1, 1) := by decide +kernel
theorem dJ9_min_7cf53_2 : decode cJ9_min_7cf53 2 = .ok (.if_icmp .gt 7, 3) := by decide +kernel
theorem dJ9_min_7cf53_5 : decode cJ9_min_7cf53 5 = .ok (.iload_n 0, 1) := by decide +kernel
theorem dJ9_min_7cf53_6 : decode cJ9_min_7cf53 6 = .ok (.goto 4, 3) := by decide +kernel
theorem dJ9_min_7cf53_9 : decode cJ9_min_7cf53 9 = .ok (.iload_n 1, 1) := by decide +kernel
theorem dJ9_min_7cf53_10 : decode cJ9_min_7cf53 10 = .ok (.ireturn, 1) := by decide +kernel
theorem dJ9_min_f86c9_0 : decode cJ9_min_f86c9 0 = .ok (.lload_n 0, 1) := by decide +kernel
theorem dJ9_min_f86c9_1 : decode cJ9_min_f86c9 1 = .ok (.lload_n 2, 1) := by decide +kernel
theorem dJ9_min_f86c9_2 : decode cJ9_min_f86c9 2 = .ok (.lcmp, 1) := by decide +kernel
theorem dJ9_min_f86c9_3 : decode cJ9_min_f86c9 3 = .ok (.ifCond .gt 7, 3) := by decide +kernel
theorem dJ9_min_f86c9_6 : decode cJ9_min_f86c9 6 = .ok (.lload_n 0, 1) := by decide +kernel
theorem dJ9_min_f86c9_7 : decode cJ9_min_f86c9 7 = .ok (.goto 4, 3) := by decide +kernel
theorem dJ9_min_f86c9_10 : decode cJ9_min_f86c9 10 = .ok (.lload_n 2, 1) := by decide +kernel
theorem dJ9_min_f86c9_11 : decode cJ9_min_f86c9 11 = .ok (.lreturn, 1) := by decide +kernel
theorem dL_pair_0 : decode cL_pair 0 = .ok (.aload_n 3, 1) := by decide +kernel
theorem dL_pair_1 : decode cL_pair 1 = .ok (.iconst 0, 1) := by decide +kernel
theorem dL_pair_2 : decode cL_pair 2 = .ok (.aload_n 0, 1) := by decide +kernel
theorem dL_pair_3 : decode cL_pair 3 = .ok (.iload_n 1, 1) := by decide +kernel
theorem dL_pair_4 : decode cL_pair 4 = .ok (.iload_n 2, 1) := by decide +kernel
theorem dL_pair_5 : decode cL_pair 5 = .ok (.invokevirtual 7, 3) := by decide +kernel
theorem dL_pair_8 : decode cL_pair 8 = .ok (.i2l, 1) := by decide +kernel
theorem dL_pair_9 : decode cL_pair 9 = .ok (.lastore, 1) := by decide +kernel
theorem dL_pair_10 : decode cL_pair 10 = .ok (.goto 7, 3) := by decide +kernel
theorem dL_pair_13 : decode cL_pair 13 = .ok (.astore 4, 2) := by decide +kernel
theorem dL_pair_15 : decode cL_pair 15 = .ok (.iconst 1, 1) := by decide +kernel
theorem dL_pair_16 : decode cL_pair 16 = .ok (.ireturn, 1) := by decide +kernel
theorem dL_pair_17 : decode cL_pair 17 = .ok (.iconst 0, 1) := by decide +kernel
theorem dL_pair_18 : decode cL_pair 18 = .ok (.ireturn, 1) := by decide +kernel
theorem dL_law_0 : decode cL_law 0 = .ok (.new 8, 3) := by decide +kernel
theorem dL_law_3 : decode cL_law 3 = .ok (.dup, 1) := by decide +kernel
theorem dL_law_4 : decode cL_law 4 = .ok (.invokespecial 15, 3) := by decide +kernel
theorem dL_law_7 : decode cL_law 7 = .ok (.astore_n 1, 1) := by decide +kernel
theorem dL_law_8 : decode cL_law 8 = .ok (.new 16, 3) := by decide +kernel
theorem dL_law_11 : decode cL_law 11 = .ok (.dup, 1) := by decide +kernel
theorem dL_law_12 : decode cL_law 12 = .ok (.invokespecial 18, 3) := by decide +kernel
theorem dL_law_15 : decode cL_law 15 = .ok (.astore_n 2, 1) := by decide +kernel
theorem dL_law_16 : decode cL_law 16 = .ok (.iconst 1, 1) := by decide +kernel
theorem dL_law_17 : decode cL_law 17 = .ok (.newarray .long, 2) := by decide +kernel
theorem dL_law_19 : decode cL_law 19 = .ok (.astore_n 3, 1) := by decide +kernel
theorem dL_law_20 : decode cL_law 20 = .ok (.iconst 0, 1) := by decide +kernel
theorem dL_law_21 : decode cL_law 21 = .ok (.istore 4, 2) := by decide +kernel
theorem dL_law_23 : decode cL_law 23 = .ok (.iload 4, 2) := by decide +kernel
theorem dL_law_25 : decode cL_law 25 = .ok (.aload_n 0, 1) := by decide +kernel
theorem dL_law_26 : decode cL_law 26 = .ok (.arraylength, 1) := by decide +kernel
theorem dL_law_27 : decode cL_law 27 = .ok (.bipush 6, 2) := by decide +kernel
theorem dL_law_29 : decode cL_law 29 = .ok (.isub, 1) := by decide +kernel
theorem dL_law_30 : decode cL_law 30 = .ok (.if_icmp .gt 911, 3) := by decide +kernel
theorem dL_law_33 : decode cL_law 33 = .ok (.aload_n 0, 1) := by decide +kernel
theorem dL_law_34 : decode cL_law 34 = .ok (.iload 4, 2) := by decide +kernel
theorem dL_law_36 : decode cL_law 36 = .ok (.iaload, 1) := by decide +kernel
theorem dL_law_37 : decode cL_law 37 = .ok (.bipush 31, 2) := by decide +kernel
theorem dL_law_39 : decode cL_law 39 = .ok (.iand, 1) := by decide +kernel
theorem dL_law_40 : decode cL_law 40 = .ok (.tableswitch 895 0 22 #[108, 121, 146, 183, 220, 257, 330, 355, 392, 441, 454, 479, 516, 553, 603, 640, 653, 721, 746, 771, 796, 833, 870], 108) := by decide +kernel
theorem dL_law_148 : decode cL_law 148 = .ok (.aload_n 1, 1) := by decide +kernel
theorem dL_law_149 : decode cL_law 149 = .ok (.invokevirtual 19, 3) := by decide +kernel
theorem dL_law_152 : decode cL_law 152 = .ok (.aload_n 2, 1) := by decide +kernel
theorem dL_law_153 : decode cL_law 153 = .ok (.invokevirtual 23, 3) := by decide +kernel
theorem dL_law_156 : decode cL_law 156 = .ok (.if_icmp .eq 779, 3) := by decide +kernel
theorem dL_law_159 : decode cL_law 159 = .ok (.iconst 0, 1) := by decide +kernel
theorem dL_law_160 : decode cL_law 160 = .ok (.ireturn, 1) := by decide +kernel
theorem dL_law_161 : decode cL_law 161 = .ok (.aload_n 1, 1) := by decide +kernel
theorem dL_law_162 : decode cL_law 162 = .ok (.aload_n 0, 1) := by decide +kernel
theorem dL_law_163 : decode cL_law 163 = .ok (.iload 4, 2) := by decide +kernel
theorem dL_law_165 : decode cL_law 165 = .ok (.iconst 1, 1) := by decide +kernel
theorem dL_law_166 : decode cL_law 166 = .ok (.iadd, 1) := by decide +kernel
theorem dL_law_167 : decode cL_law 167 = .ok (.iaload, 1) := by decide +kernel
theorem dL_law_168 : decode cL_law 168 = .ok (.invokevirtual 24, 3) := by decide +kernel
theorem dL_law_171 : decode cL_law 171 = .ok (.aload_n 2, 1) := by decide +kernel
theorem dL_law_172 : decode cL_law 172 = .ok (.aload_n 0, 1) := by decide +kernel
theorem dL_law_173 : decode cL_law 173 = .ok (.iload 4, 2) := by decide +kernel
theorem dL_law_175 : decode cL_law 175 = .ok (.iconst 1, 1) := by decide +kernel
theorem dL_law_176 : decode cL_law 176 = .ok (.iadd, 1) := by decide +kernel
theorem dL_law_177 : decode cL_law 177 = .ok (.iaload, 1) := by decide +kernel
theorem dL_law_178 : decode cL_law 178 = .ok (.invokevirtual 28, 3) := by decide +kernel
theorem dL_law_181 : decode cL_law 181 = .ok (.if_icmp .eq 754, 3) := by decide +kernel
theorem dL_law_184 : decode cL_law 184 = .ok (.iconst 0, 1) := by decide +kernel
theorem dL_law_185 : decode cL_law 185 = .ok (.ireturn, 1) := by decide +kernel
theorem dL_law_186 : decode cL_law 186 = .ok (.aload_n 1, 1) := by decide +kernel
theorem dL_law_187 : decode cL_law 187 = .ok (.aload_n 0, 1) := by decide +kernel
theorem dL_law_188 : decode cL_law 188 = .ok (.iload 4, 2) := by decide +kernel
theorem dL_law_190 : decode cL_law 190 = .ok (.iconst 1, 1) := by decide +kernel
theorem dL_law_191 : decode cL_law 191 = .ok (.iadd, 1) := by decide +kernel
theorem dL_law_192 : decode cL_law 192 = .ok (.iaload, 1) := by decide +kernel
theorem dL_law_193 : decode cL_law 193 = .ok (.aload_n 0, 1) := by decide +kernel
theorem dL_law_194 : decode cL_law 194 = .ok (.iload 4, 2) := by decide +kernel
theorem dL_law_196 : decode cL_law 196 = .ok (.iconst 2, 1) := by decide +kernel
theorem dL_law_197 : decode cL_law 197 = .ok (.iadd, 1) := by decide +kernel
theorem dL_law_198 : decode cL_law 198 = .ok (.iaload, 1) := by decide +kernel
theorem dL_law_199 : decode cL_law 199 = .ok (.invokevirtual 29, 3) := by decide +kernel
theorem dL_law_202 : decode cL_law 202 = .ok (.aload_n 2, 1) := by decide +kernel
theorem dL_law_203 : decode cL_law 203 = .ok (.aload_n 0, 1) := by decide +kernel
theorem dL_law_204 : decode cL_law 204 = .ok (.iload 4, 2) := by decide +kernel
theorem dL_law_206 : decode cL_law 206 = .ok (.iconst 1, 1) := by decide +kernel
theorem dL_law_207 : decode cL_law 207 = .ok (.iadd, 1) := by decide +kernel
theorem dL_law_208 : decode cL_law 208 = .ok (.iaload, 1) := by decide +kernel
theorem dL_law_209 : decode cL_law 209 = .ok (.aload_n 0, 1) := by decide +kernel
theorem dL_law_210 : decode cL_law 210 = .ok (.iload 4, 2) := by decide +kernel
theorem dL_law_212 : decode cL_law 212 = .ok (.iconst 2, 1) := by decide +kernel
theorem dL_law_213 : decode cL_law 213 = .ok (.iadd, 1) := by decide +kernel
theorem dL_law_214 : decode cL_law 214 = .ok (.iaload, 1) := by decide +kernel
theorem dL_law_215 : decode cL_law 215 = .ok (.invokevirtual 33, 3) := by decide +kernel
theorem dL_law_218 : decode cL_law 218 = .ok (.if_icmp .eq 717, 3) := by decide +kernel
theorem dL_law_221 : decode cL_law 221 = .ok (.iconst 0, 1) := by decide +kernel
theorem dL_law_222 : decode cL_law 222 = .ok (.ireturn, 1) := by decide +kernel
theorem dL_law_223 : decode cL_law 223 = .ok (.aload_n 1, 1) := by decide +kernel
theorem dL_law_224 : decode cL_law 224 = .ok (.aload_n 0, 1) := by decide +kernel
theorem dL_law_225 : decode cL_law 225 = .ok (.iload 4, 2) := by decide +kernel
theorem dL_law_227 : decode cL_law 227 = .ok (.iconst 1, 1) := by decide +kernel
theorem dL_law_228 : decode cL_law 228 = .ok (.iadd, 1) := by decide +kernel
theorem dL_law_229 : decode cL_law 229 = .ok (.iaload, 1) := by decide +kernel
theorem dL_law_230 : decode cL_law 230 = .ok (.aload_n 0, 1) := by decide +kernel
theorem dL_law_231 : decode cL_law 231 = .ok (.iload 4, 2) := by decide +kernel
theorem dL_law_233 : decode cL_law 233 = .ok (.iconst 2, 1) := by decide +kernel
theorem dL_law_234 : decode cL_law 234 = .ok (.iadd, 1) := by decide +kernel
theorem dL_law_235 : decode cL_law 235 = .ok (.iaload, 1) := by decide +kernel
theorem dL_law_236 : decode cL_law 236 = .ok (.invokevirtual 34, 3) := by decide +kernel
theorem dL_law_239 : decode cL_law 239 = .ok (.aload_n 2, 1) := by decide +kernel
theorem dL_law_240 : decode cL_law 240 = .ok (.aload_n 0, 1) := by decide +kernel
theorem dL_law_241 : decode cL_law 241 = .ok (.iload 4, 2) := by decide +kernel
theorem dL_law_243 : decode cL_law 243 = .ok (.iconst 1, 1) := by decide +kernel
theorem dL_law_244 : decode cL_law 244 = .ok (.iadd, 1) := by decide +kernel
theorem dL_law_245 : decode cL_law 245 = .ok (.iaload, 1) := by decide +kernel
theorem dL_law_246 : decode cL_law 246 = .ok (.aload_n 0, 1) := by decide +kernel
theorem dL_law_247 : decode cL_law 247 = .ok (.iload 4, 2) := by decide +kernel
theorem dL_law_249 : decode cL_law 249 = .ok (.iconst 2, 1) := by decide +kernel
theorem dL_law_250 : decode cL_law 250 = .ok (.iadd, 1) := by decide +kernel
theorem dL_law_251 : decode cL_law 251 = .ok (.iaload, 1) := by decide +kernel
theorem dL_law_252 : decode cL_law 252 = .ok (.invokevirtual 37, 3) := by decide +kernel
theorem dL_law_255 : decode cL_law 255 = .ok (.if_icmp .eq 680, 3) := by decide +kernel
theorem dL_law_258 : decode cL_law 258 = .ok (.iconst 0, 1) := by decide +kernel
theorem dL_law_259 : decode cL_law 259 = .ok (.ireturn, 1) := by decide +kernel
theorem dL_law_260 : decode cL_law 260 = .ok (.aload_n 1, 1) := by decide +kernel
theorem dL_law_261 : decode cL_law 261 = .ok (.aload_n 0, 1) := by decide +kernel
theorem dL_law_262 : decode cL_law 262 = .ok (.iload 4, 2) := by decide +kernel
theorem dL_law_264 : decode cL_law 264 = .ok (.iconst 1, 1) := by decide +kernel
theorem dL_law_265 : decode cL_law 265 = .ok (.iadd, 1) := by decide +kernel
theorem dL_law_266 : decode cL_law 266 = .ok (.iaload, 1) := by decide +kernel
theorem dL_law_267 : decode cL_law 267 = .ok (.aload_n 0, 1) := by decide +kernel
theorem dL_law_268 : decode cL_law 268 = .ok (.iload 4, 2) := by decide +kernel
theorem dL_law_270 : decode cL_law 270 = .ok (.iconst 2, 1) := by decide +kernel
theorem dL_law_271 : decode cL_law 271 = .ok (.iadd, 1) := by decide +kernel
theorem dL_law_272 : decode cL_law 272 = .ok (.iaload, 1) := by decide +kernel
theorem dL_law_273 : decode cL_law 273 = .ok (.invokevirtual 38, 3) := by decide +kernel
theorem dL_law_276 : decode cL_law 276 = .ok (.aload_n 2, 1) := by decide +kernel
theorem dL_law_277 : decode cL_law 277 = .ok (.aload_n 0, 1) := by decide +kernel
theorem dL_law_278 : decode cL_law 278 = .ok (.iload 4, 2) := by decide +kernel
theorem dL_law_280 : decode cL_law 280 = .ok (.iconst 1, 1) := by decide +kernel
theorem dL_law_281 : decode cL_law 281 = .ok (.iadd, 1) := by decide +kernel
theorem dL_law_282 : decode cL_law 282 = .ok (.iaload, 1) := by decide +kernel
theorem dL_law_283 : decode cL_law 283 = .ok (.aload_n 0, 1) := by decide +kernel
theorem dL_law_284 : decode cL_law 284 = .ok (.iload 4, 2) := by decide +kernel
theorem dL_law_286 : decode cL_law 286 = .ok (.iconst 2, 1) := by decide +kernel
theorem dL_law_287 : decode cL_law 287 = .ok (.iadd, 1) := by decide +kernel
theorem dL_law_288 : decode cL_law 288 = .ok (.iaload, 1) := by decide +kernel
theorem dL_law_289 : decode cL_law 289 = .ok (.invokevirtual 41, 3) := by decide +kernel
theorem dL_law_292 : decode cL_law 292 = .ok (.if_icmp .eq 643, 3) := by decide +kernel
theorem dL_law_295 : decode cL_law 295 = .ok (.iconst 0, 1) := by decide +kernel
theorem dL_law_296 : decode cL_law 296 = .ok (.ireturn, 1) := by decide +kernel
theorem dL_law_297 : decode cL_law 297 = .ok (.aload_n 1, 1) := by decide +kernel
theorem dL_law_298 : decode cL_law 298 = .ok (.aload_n 0, 1) := by decide +kernel
theorem dL_law_299 : decode cL_law 299 = .ok (.iload 4, 2) := by decide +kernel
theorem dL_law_301 : decode cL_law 301 = .ok (.iconst 1, 1) := by decide +kernel
theorem dL_law_302 : decode cL_law 302 = .ok (.iadd, 1) := by decide +kernel
theorem dL_law_303 : decode cL_law 303 = .ok (.iaload, 1) := by decide +kernel
theorem dL_law_304 : decode cL_law 304 = .ok (.aload_n 0, 1) := by decide +kernel
theorem dL_law_305 : decode cL_law 305 = .ok (.iload 4, 2) := by decide +kernel
theorem dL_law_307 : decode cL_law 307 = .ok (.iconst 2, 1) := by decide +kernel
theorem dL_law_308 : decode cL_law 308 = .ok (.iadd, 1) := by decide +kernel
theorem dL_law_309 : decode cL_law 309 = .ok (.iaload, 1) := by decide +kernel
theorem dL_law_310 : decode cL_law 310 = .ok (.aload_n 0, 1) := by decide +kernel
theorem dL_law_311 : decode cL_law 311 = .ok (.iload 4, 2) := by decide +kernel
theorem dL_law_313 : decode cL_law 313 = .ok (.iconst 3, 1) := by decide +kernel
theorem dL_law_314 : decode cL_law 314 = .ok (.iadd, 1) := by decide +kernel
theorem dL_law_315 : decode cL_law 315 = .ok (.iaload, 1) := by decide +kernel
theorem dL_law_316 : decode cL_law 316 = .ok (.aload_n 0, 1) := by decide +kernel
theorem dL_law_317 : decode cL_law 317 = .ok (.iload 4, 2) := by decide +kernel
theorem dL_law_319 : decode cL_law 319 = .ok (.iconst 4, 1) := by decide +kernel
theorem dL_law_320 : decode cL_law 320 = .ok (.iadd, 1) := by decide +kernel
theorem dL_law_321 : decode cL_law 321 = .ok (.iaload, 1) := by decide +kernel
theorem dL_law_322 : decode cL_law 322 = .ok (.aload_n 0, 1) := by decide +kernel
theorem dL_law_323 : decode cL_law 323 = .ok (.iload 4, 2) := by decide +kernel
theorem dL_law_325 : decode cL_law 325 = .ok (.iconst 5, 1) := by decide +kernel
theorem dL_law_326 : decode cL_law 326 = .ok (.iadd, 1) := by decide +kernel
theorem dL_law_327 : decode cL_law 327 = .ok (.iaload, 1) := by decide +kernel
theorem dL_law_328 : decode cL_law 328 = .ok (.invokevirtual 42, 3) := by decide +kernel
theorem dL_law_331 : decode cL_law 331 = .ok (.aload_n 2, 1) := by decide +kernel
theorem dL_law_332 : decode cL_law 332 = .ok (.aload_n 0, 1) := by decide +kernel
theorem dL_law_333 : decode cL_law 333 = .ok (.iload 4, 2) := by decide +kernel
theorem dL_law_335 : decode cL_law 335 = .ok (.iconst 1, 1) := by decide +kernel
theorem dL_law_336 : decode cL_law 336 = .ok (.iadd, 1) := by decide +kernel
theorem dL_law_337 : decode cL_law 337 = .ok (.iaload, 1) := by decide +kernel
theorem dL_law_338 : decode cL_law 338 = .ok (.aload_n 0, 1) := by decide +kernel
theorem dL_law_339 : decode cL_law 339 = .ok (.iload 4, 2) := by decide +kernel
theorem dL_law_341 : decode cL_law 341 = .ok (.iconst 2, 1) := by decide +kernel
theorem dL_law_342 : decode cL_law 342 = .ok (.iadd, 1) := by decide +kernel
