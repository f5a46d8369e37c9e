theorem dX9_bakeFrom_99 : decode cX9_bakeFrom 99 = .ok (.iload_n 1, 1) := by decide +kernel
theorem dX9_bakeFrom_100 : decode cX9_bakeFrom 100 = .ok (.iaload, 1) := by decide +kernel
theorem dX9_bakeFrom_101 : decode cX9_bakeFrom 101 = .ok (.if_icmp .lt 66, 3) := by decide +kernel
theorem dX9_bakeFrom_104 : decode cX9_bakeFrom 104 = .ok (.aload_n 0, 1) := by decide +kernel
theorem dX9_bakeFrom_105 : decode cX9_bakeFrom 105 = .ok (.getfield 9, 3) := by decide +kernel
theorem dX9_bakeFrom_108 : decode cX9_bakeFrom 108 = .ok (.iload 5, 2) := by decide +kernel
theorem dX9_bakeFrom_110 : decode cX9_bakeFrom 110 = .ok (.dup2, 1) := by decide +kernel
theorem dX9_bakeFrom_111 : decode cX9_bakeFrom 111 = .ok (.iaload, 1) := by decide +kernel
theorem dX9_bakeFrom_112 : decode cX9_bakeFrom 112 = .ok (.aload_n 0, 1) := by decide +kernel
theorem dX9_bakeFrom_113 : decode cX9_bakeFrom 113 = .ok (.getfield 21, 3) := by decide +kernel
theorem dX9_bakeFrom_116 : decode cX9_bakeFrom 116 = .ok (.getfield 74, 3) := by decide +kernel
theorem dX9_bakeFrom_119 : decode cX9_bakeFrom 119 = .ok (.iload_n 1, 1) := by decide +kernel
theorem dX9_bakeFrom_120 : decode cX9_bakeFrom 120 = .ok (.iaload, 1) := by decide +kernel
theorem dX9_bakeFrom_121 : decode cX9_bakeFrom 121 = .ok (.isub, 1) := by decide +kernel
theorem dX9_bakeFrom_122 : decode cX9_bakeFrom 122 = .ok (.iastore, 1) := by decide +kernel
theorem dX9_bakeFrom_123 : decode cX9_bakeFrom 123 = .ok (.aload_n 0, 1) := by decide +kernel
theorem dX9_bakeFrom_124 : decode cX9_bakeFrom 124 = .ok (.getfield 15, 3) := by decide +kernel
theorem dX9_bakeFrom_127 : decode cX9_bakeFrom 127 = .ok (.iload_n 1, 1) := by decide +kernel
theorem dX9_bakeFrom_128 : decode cX9_bakeFrom 128 = .ok (.iload 4, 2) := by decide +kernel
theorem dX9_bakeFrom_130 : decode cX9_bakeFrom 130 = .ok (.iastore, 1) := by decide +kernel
theorem dX9_bakeFrom_131 : decode cX9_bakeFrom 131 = .ok (.aload_n 0, 1) := by decide +kernel
theorem dX9_bakeFrom_132 : decode cX9_bakeFrom 132 = .ok (.iload_n 1, 1) := by decide +kernel
theorem dX9_bakeFrom_133 : decode cX9_bakeFrom 133 = .ok (.iconst 1, 1) := by decide +kernel
theorem dX9_bakeFrom_134 : decode cX9_bakeFrom 134 = .ok (.iadd, 1) := by decide +kernel
theorem dX9_bakeFrom_135 : decode cX9_bakeFrom 135 = .ok (.aload_n 0, 1) := by decide +kernel
theorem dX9_bakeFrom_136 : decode cX9_bakeFrom 136 = .ok (.getfield 21, 3) := by decide +kernel
theorem dX9_bakeFrom_139 : decode cX9_bakeFrom 139 = .ok (.iload_n 2, 1) := by decide +kernel
theorem dX9_bakeFrom_140 : decode cX9_bakeFrom 140 = .ok (.iload 4, 2) := by decide +kernel
theorem dX9_bakeFrom_142 : decode cX9_bakeFrom 142 = .ok (.invokevirtual 77, 3) := by decide +kernel
theorem dX9_bakeFrom_145 : decode cX9_bakeFrom 145 = .ok (.invokevirtual 86, 3) := by decide +kernel
theorem dX9_bakeFrom_148 : decode cX9_bakeFrom 148 = .ok (.aload_n 0, 1) := by decide +kernel
theorem dX9_bakeFrom_149 : decode cX9_bakeFrom 149 = .ok (.getfield 9, 3) := by decide +kernel
theorem dX9_bakeFrom_152 : decode cX9_bakeFrom 152 = .ok (.iload 5, 2) := by decide +kernel
theorem dX9_bakeFrom_154 : decode cX9_bakeFrom 154 = .ok (.dup2, 1) := by decide +kernel
theorem dX9_bakeFrom_155 : decode cX9_bakeFrom 155 = .ok (.iaload, 1) := by decide +kernel
theorem dX9_bakeFrom_156 : decode cX9_bakeFrom 156 = .ok (.aload_n 0, 1) := by decide +kernel
theorem dX9_bakeFrom_157 : decode cX9_bakeFrom 157 = .ok (.getfield 21, 3) := by decide +kernel
theorem dX9_bakeFrom_160 : decode cX9_bakeFrom 160 = .ok (.getfield 74, 3) := by decide +kernel
theorem dX9_bakeFrom_163 : decode cX9_bakeFrom 163 = .ok (.iload_n 1, 1) := by decide +kernel
theorem dX9_bakeFrom_164 : decode cX9_bakeFrom 164 = .ok (.iaload, 1) := by decide +kernel
theorem dX9_bakeFrom_165 : decode cX9_bakeFrom 165 = .ok (.iadd, 1) := by decide +kernel
theorem dX9_bakeFrom_166 : decode cX9_bakeFrom 166 = .ok (.iastore, 1) := by decide +kernel
theorem dX9_bakeFrom_167 : decode cX9_bakeFrom 167 = .ok (.iinc 4 1, 3) := by decide +kernel
theorem dX9_bakeFrom_170 : decode cX9_bakeFrom 170 = .ok (.goto (-113), 3) := by decide +kernel
theorem dX9_bakeFrom_173 : decode cX9_bakeFrom 173 = .ok (.return_, 1) := by decide +kernel
theorem dX9_foundDigits_0 : decode cX9_foundDigits 0 = .ok (.iconst 0, 1) := by decide +kernel
theorem dX9_foundDigits_1 : decode cX9_foundDigits 1 = .ok (.istore_n 1, 1) := by decide +kernel
theorem dX9_foundDigits_2 : decode cX9_foundDigits 2 = .ok (.iconst 0, 1) := by decide +kernel
theorem dX9_foundDigits_3 : decode cX9_foundDigits 3 = .ok (.istore_n 2, 1) := by decide +kernel
theorem dX9_foundDigits_4 : decode cX9_foundDigits 4 = .ok (.iload_n 2, 1) := by decide +kernel
theorem dX9_foundDigits_5 : decode cX9_foundDigits 5 = .ok (.aload_n 0, 1) := by decide +kernel
theorem dX9_foundDigits_6 : decode cX9_foundDigits 6 = .ok (.getfield 21, 3) := by decide +kernel
theorem dX9_foundDigits_9 : decode cX9_foundDigits 9 = .ok (.getfield 36, 3) := by decide +kernel
theorem dX9_foundDigits_12 : decode cX9_foundDigits 12 = .ok (.if_icmp .ge 21, 3) := by decide +kernel
theorem dX9_foundDigits_15 : decode cX9_foundDigits 15 = .ok (.iload_n 1, 1) := by decide +kernel
theorem dX9_foundDigits_16 : decode cX9_foundDigits 16 = .ok (.bipush 6, 2) := by decide +kernel
theorem dX9_foundDigits_18 : decode cX9_foundDigits 18 = .ok (.imul, 1) := by decide +kernel
theorem dX9_foundDigits_19 : decode cX9_foundDigits 19 = .ok (.aload_n 0, 1) := by decide +kernel
theorem dX9_foundDigits_20 : decode cX9_foundDigits 20 = .ok (.getfield 18, 3) := by decide +kernel
theorem dX9_foundDigits_23 : decode cX9_foundDigits 23 = .ok (.iload_n 2, 1) := by decide +kernel
theorem dX9_foundDigits_24 : decode cX9_foundDigits 24 = .ok (.iaload, 1) := by decide +kernel
theorem dX9_foundDigits_25 : decode cX9_foundDigits 25 = .ok (.iadd, 1) := by decide +kernel
theorem dX9_foundDigits_26 : decode cX9_foundDigits 26 = .ok (.istore_n 1, 1) := by decide +kernel
theorem dX9_foundDigits_27 : decode cX9_foundDigits 27 = .ok (.iinc 2 1, 3) := by decide +kernel
theorem dX9_foundDigits_30 : decode cX9_foundDigits 30 = .ok (.goto (-26), 3) := by decide +kernel
theorem dX9_foundDigits_33 : decode cX9_foundDigits 33 = .ok (.iload_n 1, 1) := by decide +kernel
theorem dX9_foundDigits_34 : decode cX9_foundDigits 34 = .ok (.ireturn, 1) := by decide +kernel
theorem dX8_init_0 : decode cX8_init 0 = .ok (.aload_n 0, 1) := by decide +kernel
theorem dX8_init_1 : decode cX8_init 1 = .ok (.invokespecial 3, 3) := by decide +kernel
theorem dX8_init_4 : decode cX8_init 4 = .ok (.aload_n 0, 1) := by decide +kernel
theorem dX8_init_5 : decode cX8_init 5 = .ok (.sipush 4096, 3) := by decide +kernel
theorem dX8_init_8 : decode cX8_init 8 = .ok (.newarray .int, 2) := by decide +kernel
theorem dX8_init_10 : decode cX8_init 10 = .ok (.putfield 9, 3) := by decide +kernel
theorem dX8_init_13 : decode cX8_init 13 = .ok (.aload_n 0, 1) := by decide +kernel
theorem dX8_init_14 : decode cX8_init 14 = .ok (.aload_n 1, 1) := by decide +kernel
theorem dX8_init_15 : decode cX8_init 15 = .ok (.putfield 15, 3) := by decide +kernel
theorem dX8_init_18 : decode cX8_init 18 = .ok (.return_, 1) := by decide +kernel
theorem dX8_outcome_0 : decode cX8_outcome 0 = .ok (.aload_n 0, 1) := by decide +kernel
theorem dX8_outcome_1 : decode cX8_outcome 1 = .ok (.iload_n 1, 1) := by decide +kernel
theorem dX8_outcome_2 : decode cX8_outcome 2 = .ok (.putfield 19, 3) := by decide +kernel
theorem dX8_outcome_5 : decode cX8_outcome 5 = .ok (.aload_n 0, 1) := by decide +kernel
theorem dX8_outcome_6 : decode cX8_outcome 6 = .ok (.getfield 9, 3) := by decide +kernel
theorem dX8_outcome_9 : decode cX8_outcome 9 = .ok (.ldc 23, 2) := by decide +kernel
theorem dX8_outcome_11 : decode cX8_outcome 11 = .ok (.invokestatic 24, 3) := by decide +kernel
theorem dX8_outcome_14 : decode cX8_outcome 14 = .ok (.aload_n 0, 1) := by decide +kernel
theorem dX8_outcome_15 : decode cX8_outcome 15 = .ok (.iconst 0, 1) := by decide +kernel
theorem dX8_outcome_16 : decode cX8_outcome 16 = .ok (.iconst 0, 1) := by decide +kernel
theorem dX8_outcome_17 : decode cX8_outcome 17 = .ok (.iconst 0, 1) := by decide +kernel
theorem dX8_outcome_18 : decode cX8_outcome 18 = .ok (.iconst 0, 1) := by decide +kernel
theorem dX8_outcome_19 : decode cX8_outcome 19 = .ok (.invokevirtual 30, 3) := by decide +kernel
theorem dX8_outcome_22 : decode cX8_outcome 22 = .ok (.ireturn, 1) := by decide +kernel
theorem dX8_outcomeFrom_0 : decode cX8_outcomeFrom 0 = .ok (.iload_n 1, 1) := by decide +kernel
theorem dX8_outcomeFrom_1 : decode cX8_outcomeFrom 1 = .ok (.bipush 32, 2) := by decide +kernel
theorem dX8_outcomeFrom_3 : decode cX8_outcomeFrom 3 = .ok (.imul, 1) := by decide +kernel
theorem dX8_outcomeFrom_4 : decode cX8_outcomeFrom 4 = .ok (.iload_n 2, 1) := by decide +kernel
theorem dX8_outcomeFrom_5 : decode cX8_outcomeFrom 5 = .ok (.iadd, 1) := by decide +kernel
theorem dX8_outcomeFrom_6 : decode cX8_outcomeFrom 6 = .ok (.iconst 2, 1) := by decide +kernel
theorem dX8_outcomeFrom_7 : decode cX8_outcomeFrom 7 = .ok (.imul, 1) := by decide +kernel
theorem dX8_outcomeFrom_8 : decode cX8_outcomeFrom 8 = .ok (.iload_n 3, 1) := by decide +kernel
theorem dX8_outcomeFrom_9 : decode cX8_outcomeFrom 9 = .ok (.iadd, 1) := by decide +kernel
theorem dX8_outcomeFrom_10 : decode cX8_outcomeFrom 10 = .ok (.istore 5, 2) := by decide +kernel
theorem dX8_outcomeFrom_12 : decode cX8_outcomeFrom 12 = .ok (.aload_n 0, 1) := by decide +kernel
theorem dX8_outcomeFrom_13 : decode cX8_outcomeFrom 13 = .ok (.getfield 9, 3) := by decide +kernel
theorem dX8_outcomeFrom_16 : decode cX8_outcomeFrom 16 = .ok (.iload 5, 2) := by decide +kernel
theorem dX8_outcomeFrom_18 : decode cX8_outcomeFrom 18 = .ok (.iaload, 1) := by decide +kernel
theorem dX8_outcomeFrom_19 : decode cX8_outcomeFrom 19 = .ok (.ldc 23, 2) := by decide +kernel
theorem dX8_outcomeFrom_21 : decode cX8_outcomeFrom 21 = .ok (.if_icmp .ne 49, 3) := by decide +kernel
theorem dX8_outcomeFrom_24 : decode cX8_outcomeFrom 24 = .ok (.aload_n 0, 1) := by decide +kernel
theorem dX8_outcomeFrom_25 : decode cX8_outcomeFrom 25 = .ok (.iload_n 1, 1) := by decide +kernel
theorem dX8_outcomeFrom_26 : decode cX8_outcomeFrom 26 = .ok (.iload_n 2, 1) := by decide +kernel
theorem dX8_outcomeFrom_27 : decode cX8_outcomeFrom 27 = .ok (.iload_n 3, 1) := by decide +kernel
theorem dX8_outcomeFrom_28 : decode cX8_outcomeFrom 28 = .ok (.invokevirtual 34, 3) := by decide +kernel
theorem dX8_outcomeFrom_31 : decode cX8_outcomeFrom 31 = .ok (.istore 6, 2) := by decide +kernel
theorem dX8_outcomeFrom_33 : decode cX8_outcomeFrom 33 = .ok (.iload 6, 2) := by decide +kernel
theorem dX8_outcomeFrom_35 : decode cX8_outcomeFrom 35 = .ok (.ldc 23, 2) := by decide +kernel
theorem dX8_outcomeFrom_37 : decode cX8_outcomeFrom 37 = .ok (.if_icmp .ne 24, 3) := by decide +kernel
theorem dX8_outcomeFrom_40 : decode cX8_outcomeFrom 40 = .ok (.iload 4, 2) := by decide +kernel
theorem dX8_outcomeFrom_42 : decode cX8_outcomeFrom 42 = .ok (.ifCond .eq 7, 3) := by decide +kernel
theorem dX8_outcomeFrom_45 : decode cX8_outcomeFrom 45 = .ok (.iconst 0, 1) := by decide +kernel
theorem dX8_outcomeFrom_46 : decode cX8_outcomeFrom 46 = .ok (.goto 13, 3) := by decide +kernel
theorem dX8_outcomeFrom_49 : decode cX8_outcomeFrom 49 = .ok (.aload_n 0, 1) := by decide +kernel
theorem dX8_outcomeFrom_50 : decode cX8_outcomeFrom 50 = .ok (.iload_n 1, 1) := by decide +kernel
theorem dX8_outcomeFrom_51 : decode cX8_outcomeFrom 51 = .ok (.iload_n 2, 1) := by decide +kernel
theorem dX8_outcomeFrom_52 : decode cX8_outcomeFrom 52 = .ok (.iconst 1, 1) := by decide +kernel
theorem dX8_outcomeFrom_53 : decode cX8_outcomeFrom 53 = .ok (.iload_n 3, 1) := by decide +kernel
theorem dX8_outcomeFrom_54 : decode cX8_outcomeFrom 54 = .ok (.isub, 1) := by decide +kernel
theorem dX8_outcomeFrom_55 : decode cX8_outcomeFrom 55 = .ok (.iconst 1, 1) := by decide +kernel
theorem dX8_outcomeFrom_56 : decode cX8_outcomeFrom 56 = .ok (.invokevirtual 30, 3) := by decide +kernel
theorem dX8_outcomeFrom_59 : decode cX8_outcomeFrom 59 = .ok (.istore 6, 2) := by decide +kernel
theorem dX8_outcomeFrom_61 : decode cX8_outcomeFrom 61 = .ok (.aload_n 0, 1) := by decide +kernel
theorem dX8_outcomeFrom_62 : decode cX8_outcomeFrom 62 = .ok (.getfield 9, 3) := by decide +kernel
theorem dX8_outcomeFrom_65 : decode cX8_outcomeFrom 65 = .ok (.iload 5, 2) := by decide +kernel
theorem dX8_outcomeFrom_67 : decode cX8_outcomeFrom 67 = .ok (.iload 6, 2) := by decide +kernel
theorem dX8_outcomeFrom_69 : decode cX8_outcomeFrom 69 = .ok (.iastore, 1) := by decide +kernel
theorem dX8_outcomeFrom_70 : decode cX8_outcomeFrom 70 = .ok (.aload_n 0, 1) := by decide +kernel
theorem dX8_outcomeFrom_71 : decode cX8_outcomeFrom 71 = .ok (.getfield 9, 3) := by decide +kernel
theorem dX8_outcomeFrom_74 : decode cX8_outcomeFrom 74 = .ok (.iload 5, 2) := by decide +kernel
theorem dX8_outcomeFrom_76 : decode cX8_outcomeFrom 76 = .ok (.iaload, 1) := by decide +kernel
theorem dX8_outcomeFrom_77 : decode cX8_outcomeFrom 77 = .ok (.ireturn, 1) := by decide +kernel
theorem dX8_sendBest_0 : decode cX8_sendBest 0 = .ok (.ldc 23, 2) := by decide +kernel
theorem dX8_sendBest_2 : decode cX8_sendBest 2 = .ok (.istore 4, 2) := by decide +kernel
theorem dX8_sendBest_4 : decode cX8_sendBest 4 = .ok (.iconst 0, 1) := by decide +kernel
theorem dX8_sendBest_5 : decode cX8_sendBest 5 = .ok (.istore 5, 2) := by decide +kernel
theorem dX8_sendBest_7 : decode cX8_sendBest 7 = .ok (.iload 5, 2) := by decide +kernel
theorem dX8_sendBest_9 : decode cX8_sendBest 9 = .ok (.aload_n 0, 1) := by decide +kernel
theorem dX8_sendBest_10 : decode cX8_sendBest 10 = .ok (.getfield 15, 3) := by decide +kernel
theorem dX8_sendBest_13 : decode cX8_sendBest 13 = .ok (.getfield 38, 3) := by decide +kernel
theorem dX8_sendBest_16 : decode cX8_sendBest 16 = .ok (.if_icmp .ge 181, 3) := by decide +kernel
theorem dX8_sendBest_19 : decode cX8_sendBest 19 = .ok (.iload_n 1, 1) := by decide +kernel
theorem dX8_sendBest_20 : decode cX8_sendBest 20 = .ok (.iload 5, 2) := by decide +kernel
theorem dX8_sendBest_22 : decode cX8_sendBest 22 = .ok (.invokestatic 43, 3) := by decide +kernel
theorem dX8_sendBest_25 : decode cX8_sendBest 25 = .ok (.ifCond .eq 7, 3) := by decide +kernel
theorem dX8_sendBest_28 : decode cX8_sendBest 28 = .ok (.iconst 0, 1) := by decide +kernel
theorem dX8_sendBest_29 : decode cX8_sendBest 29 = .ok (.goto 31, 3) := by decide +kernel
theorem dX8_sendBest_32 : decode cX8_sendBest 32 = .ok (.aload_n 0, 1) := by decide +kernel
theorem dX8_sendBest_33 : decode cX8_sendBest 33 = .ok (.getfield 15, 3) := by decide +kernel
theorem dX8_sendBest_36 : decode cX8_sendBest 36 = .ok (.iload 5, 2) := by decide +kernel
theorem dX8_sendBest_38 : decode cX8_sendBest 38 = .ok (.iload_n 2, 1) := by decide +kernel
theorem dX8_sendBest_39 : decode cX8_sendBest 39 = .ok (.invokevirtual 47, 3) := by decide +kernel
theorem dX8_sendBest_42 : decode cX8_sendBest 42 = .ok (.iload_n 3, 1) := by decide +kernel
theorem dX8_sendBest_43 : decode cX8_sendBest 43 = .ok (.ifCond .ne 10, 3) := by decide +kernel
theorem dX8_sendBest_46 : decode cX8_sendBest 46 = .ok (.aload_n 0, 1) := by decide +kernel
theorem dX8_sendBest_47 : decode cX8_sendBest 47 = .ok (.getfield 19, 3) := by decide +kernel
theorem dX8_sendBest_50 : decode cX8_sendBest 50 = .ok (.goto 9, 3) := by decide +kernel
theorem dX8_sendBest_53 : decode cX8_sendBest 53 = .ok (.aload_n 0, 1) := by decide +kernel
theorem dX8_sendBest_54 : decode cX8_sendBest 54 = .ok (.getfield 19, 3) := by decide +kernel
theorem dX8_sendBest_57 : decode cX8_sendBest 57 = .ok (.iconst (-1), 1) := by decide +kernel
theorem dX8_sendBest_58 : decode cX8_sendBest 58 = .ok (.ixor, 1) := by decide +kernel
theorem dX8_sendBest_59 : decode cX8_sendBest 59 = .ok (.iand, 1) := by decide +kernel
theorem dX8_sendBest_60 : decode cX8_sendBest 60 = .ok (.istore 6, 2) := by decide +kernel
theorem dX8_sendBest_62 : decode cX8_sendBest 62 = .ok (.iconst 0, 1) := by decide +kernel
theorem dX8_sendBest_63 : decode cX8_sendBest 63 = .ok (.istore 7, 2) := by decide +kernel
theorem dX8_sendBest_65 : decode cX8_sendBest 65 = .ok (.iload 7, 2) := by decide +kernel
theorem dX8_sendBest_67 : decode cX8_sendBest 67 = .ok (.iconst 5, 1) := by decide +kernel
theorem dX8_sendBest_68 : decode cX8_sendBest 68 = .ok (.if_icmp .ge 123, 3) := by decide +kernel
theorem dX8_sendBest_71 : decode cX8_sendBest 71 = .ok (.iload 6, 2) := by decide +kernel
theorem dX8_sendBest_73 : decode cX8_sendBest 73 = .ok (.iload 7, 2) := by decide +kernel
theorem dX8_sendBest_75 : decode cX8_sendBest 75 = .ok (.invokestatic 43, 3) := by decide +kernel
theorem dX8_sendBest_78 : decode cX8_sendBest 78 = .ok (.ifCond .eq 107, 3) := by decide +kernel
theorem dX8_sendBest_81 : decode cX8_sendBest 81 = .ok (.aload_n 0, 1) := by decide +kernel
theorem dX8_sendBest_82 : decode cX8_sendBest 82 = .ok (.iload_n 1, 1) := by decide +kernel
theorem dX8_sendBest_83 : decode cX8_sendBest 83 = .ok (.iconst 1, 1) := by decide +kernel
theorem dX8_sendBest_84 : decode cX8_sendBest 84 = .ok (.iload 5, 2) := by decide +kernel
theorem dX8_sendBest_86 : decode cX8_sendBest 86 = .ok (.ishl, 1) := by decide +kernel
theorem dX8_sendBest_87 : decode cX8_sendBest 87 = .ok (.ior, 1) := by decide +kernel
theorem dX8_sendBest_88 : decode cX8_sendBest 88 = .ok (.iload_n 2, 1) := by decide +kernel
theorem dX8_sendBest_89 : decode cX8_sendBest 89 = .ok (.iconst 1, 1) := by decide +kernel
theorem dX8_sendBest_90 : decode cX8_sendBest 90 = .ok (.iload 7, 2) := by decide +kernel
theorem dX8_sendBest_92 : decode cX8_sendBest 92 = .ok (.ishl, 1) := by decide +kernel
theorem dX8_sendBest_93 : decode cX8_sendBest 93 = .ok (.aload_n 0, 1) := by decide +kernel
theorem dX8_sendBest_94 : decode cX8_sendBest 94 = .ok (.getfield 15, 3) := by decide +kernel
theorem dX8_sendBest_97 : decode cX8_sendBest 97 = .ok (.getfield 51, 3) := by decide +kernel
theorem dX8_sendBest_100 : decode cX8_sendBest 100 = .ok (.iconst (-1), 1) := by decide +kernel
theorem dX8_sendBest_101 : decode cX8_sendBest 101 = .ok (.ixor, 1) := by decide +kernel
theorem dX8_sendBest_102 : decode cX8_sendBest 102 = .ok (.iand, 1) := by decide +kernel
theorem dX8_sendBest_103 : decode cX8_sendBest 103 = .ok (.ior, 1) := by decide +kernel
theorem dX8_sendBest_104 : decode cX8_sendBest 104 = .ok (.iconst 1, 1) := by decide +kernel
theorem dX8_sendBest_105 : decode cX8_sendBest 105 = .ok (.iload_n 3, 1) := by decide +kernel
theorem dX8_sendBest_106 : decode cX8_sendBest 106 = .ok (.isub, 1) := by decide +kernel
theorem dX8_sendBest_107 : decode cX8_sendBest 107 = .ok (.iconst 0, 1) := by decide +kernel
theorem dX8_sendBest_108 : decode cX8_sendBest 108 = .ok (.invokevirtual 30, 3) := by decide +kernel
theorem dX8_sendBest_111 : decode cX8_sendBest 111 = .ok (.istore 8, 2) := by decide +kernel
theorem dX8_sendBest_113 : decode cX8_sendBest 113 = .ok (.iload 8, 2) := by decide +kernel
theorem dX8_sendBest_115 : decode cX8_sendBest 115 = .ok (.iload_n 3, 1) := by decide +kernel
theorem dX8_sendBest_116 : decode cX8_sendBest 116 = .ok (.ifCond .ne 17, 3) := by decide +kernel
theorem dX8_sendBest_119 : decode cX8_sendBest 119 = .ok (.aload_n 0, 1) := by decide +kernel
theorem dX8_sendBest_120 : decode cX8_sendBest 120 = .ok (.getfield 15, 3) := by decide +kernel
theorem dX8_sendBest_123 : decode cX8_sendBest 123 = .ok (.iload 5, 2) := by decide +kernel
theorem dX8_sendBest_125 : decode cX8_sendBest 125 = .ok (.iload 7, 2) := by decide +kernel
theorem dX8_sendBest_127 : decode cX8_sendBest 127 = .ok (.invokevirtual 54, 3) := by decide +kernel
theorem dX8_sendBest_130 : decode cX8_sendBest 130 = .ok (.goto 15, 3) := by decide +kernel
theorem dX8_sendBest_133 : decode cX8_sendBest 133 = .ok (.aload_n 0, 1) := by decide +kernel
theorem dX8_sendBest_134 : decode cX8_sendBest 134 = .ok (.getfield 15, 3) := by decide +kernel
theorem dX8_sendBest_137 : decode cX8_sendBest 137 = .ok (.iload 5, 2) := by decide +kernel
theorem dX8_sendBest_139 : decode cX8_sendBest 139 = .ok (.iload 7, 2) := by decide +kernel
theorem dX8_sendBest_141 : decode cX8_sendBest 141 = .ok (.invokevirtual 54, 3) := by decide +kernel
theorem dX8_sendBest_144 : decode cX8_sendBest 144 = .ok (.ineg, 1) := by decide +kernel
theorem dX8_sendBest_145 : decode cX8_sendBest 145 = .ok (.iadd, 1) := by decide +kernel
theorem dX8_sendBest_146 : decode cX8_sendBest 146 = .ok (.istore 9, 2) := by decide +kernel
theorem dX8_sendBest_148 : decode cX8_sendBest 148 = .ok (.iload 4, 2) := by decide +kernel
theorem dX8_sendBest_150 : decode cX8_sendBest 150 = .ok (.ldc 23, 2) := by decide +kernel
theorem dX8_sendBest_152 : decode cX8_sendBest 152 = .ok (.if_icmp .eq 24, 3) := by decide +kernel
theorem dX8_sendBest_155 : decode cX8_sendBest 155 = .ok (.iload_n 3, 1) := by decide +kernel
theorem dX8_sendBest_156 : decode cX8_sendBest 156 = .ok (.ifCond .ne 13, 3) := by decide +kernel
theorem dX8_sendBest_159 : decode cX8_sendBest 159 = .ok (.iload 9, 2) := by decide +kernel
theorem dX8_sendBest_161 : decode cX8_sendBest 161 = .ok (.iload 4, 2) := by decide +kernel
theorem dX8_sendBest_163 : decode cX8_sendBest 163 = .ok (.if_icmp .le 18, 3) := by decide +kernel
theorem dX8_sendBest_166 : decode cX8_sendBest 166 = .ok (.goto 10, 3) := by decide +kernel
theorem dX8_sendBest_169 : decode cX8_sendBest 169 = .ok (.iload 9, 2) := by decide +kernel
theorem dX8_sendBest_171 : decode cX8_sendBest 171 = .ok (.iload 4, 2) := by decide +kernel
theorem dX8_sendBest_173 : decode cX8_sendBest 173 = .ok (.if_icmp .ge 8, 3) := by decide +kernel
theorem dX8_sendBest_176 : decode cX8_sendBest 176 = .ok (.iload 9, 2) := by decide +kernel
theorem dX8_sendBest_178 : decode cX8_sendBest 178 = .ok (.goto 5, 3) := by decide +kernel
theorem dX8_sendBest_181 : decode cX8_sendBest 181 = .ok (.iload 4, 2) := by decide +kernel
theorem dX8_sendBest_183 : decode cX8_sendBest 183 = .ok (.istore 4, 2) := by decide +kernel
theorem dX8_sendBest_185 : decode cX8_sendBest 185 = .ok (.iinc 7 1, 3) := by decide +kernel
theorem dX8_sendBest_188 : decode cX8_sendBest 188 = .ok (.goto (-123), 3) := by decide +kernel
theorem dX8_sendBest_191 : decode cX8_sendBest 191 = .ok (.iinc 5 1, 3) := by decide +kernel
theorem dX8_sendBest_194 : decode cX8_sendBest 194 = .ok (.goto (-187), 3) := by decide +kernel
theorem dX8_sendBest_197 : decode cX8_sendBest 197 = .ok (.iload 4, 2) := by decide +kernel
theorem dX8_sendBest_199 : decode cX8_sendBest 199 = .ok (.ireturn, 1) := by decide +kernel
theorem dX4_init_0 : decode cX4_init 0 = .ok (.aload_n 0, 1) := by decide +kernel
theorem dX4_init_1 : decode cX4_init 1 = .ok (.invokespecial 3, 3) := by decide +kernel
theorem dX4_init_4 : decode cX4_init 4 = .ok (.aload_n 0, 1) := by decide +kernel
theorem dX4_init_5 : decode cX4_init 5 = .ok (.bipush 8, 2) := by decide +kernel
theorem dX4_init_7 : decode cX4_init 7 = .ok (.newarray .int, 2) := by decide +kernel
theorem dX4_init_9 : decode cX4_init 9 = .ok (.putfield 9, 3) := by decide +kernel
theorem dX4_init_12 : decode cX4_init 12 = .ok (.aload_n 0, 1) := by decide +kernel
theorem dX4_init_13 : decode cX4_init 13 = .ok (.iconst 1, 1) := by decide +kernel
theorem dX4_init_14 : decode cX4_init 14 = .ok (.putfield 15, 3) := by decide +kernel
theorem dX4_init_17 : decode cX4_init 17 = .ok (.aload_n 0, 1) := by decide +kernel
theorem dX4_init_18 : decode cX4_init 18 = .ok (.aload_n 1, 1) := by decide +kernel
theorem dX4_init_19 : decode cX4_init 19 = .ok (.putfield 19, 3) := by decide +kernel
theorem dX4_init_22 : decode cX4_init 22 = .ok (.return_, 1) := by decide +kernel
theorem dX4_take_0 : decode cX4_take 0 = .ok (.aload_n 0, 1) := by decide +kernel
theorem dX4_take_1 : decode cX4_take 1 = .ok (.iload_n 3, 1) := by decide +kernel
theorem dX4_take_2 : decode cX4_take 2 = .ok (.putfield 15, 3) := by decide +kernel
theorem dX4_take_5 : decode cX4_take 5 = .ok (.iconst 0, 1) := by decide +kernel
theorem dX4_take_6 : decode cX4_take 6 = .ok (.istore 4, 2) := by decide +kernel
theorem dX4_take_8 : decode cX4_take 8 = .ok (.iload 4, 2) := by decide +kernel
theorem dX4_take_10 : decode cX4_take 10 = .ok (.iload_n 3, 1) := by decide +kernel
theorem dX4_take_11 : decode cX4_take 11 = .ok (.if_icmp .ge 45, 3) := by decide +kernel
theorem dX4_take_14 : decode cX4_take 14 = .ok (.aload_n 0, 1) := by decide +kernel
theorem dX4_take_15 : decode cX4_take 15 = .ok (.getfield 9, 3) := by decide +kernel
theorem dX4_take_18 : decode cX4_take 18 = .ok (.iload 4, 2) := by decide +kernel
theorem dX4_take_20 : decode cX4_take 20 = .ok (.aload_n 1, 1) := by decide +kernel
theorem dX4_take_21 : decode cX4_take 21 = .ok (.iload_n 2, 1) := by decide +kernel
theorem dX4_take_22 : decode cX4_take 22 = .ok (.iload 4, 2) := by decide +kernel
theorem dX4_take_24 : decode cX4_take 24 = .ok (.iadd, 1) := by decide +kernel
theorem dX4_take_25 : decode cX4_take 25 = .ok (.bipush 6, 2) := by decide +kernel
theorem dX4_take_27 : decode cX4_take 27 = .ok (.invokevirtual 23, 3) := by decide +kernel
theorem dX4_take_30 : decode cX4_take 30 = .ok (.iastore, 1) := by decide +kernel
theorem dX4_take_31 : decode cX4_take 31 = .ok (.aload_n 0, 1) := by decide +kernel
theorem dX4_take_32 : decode cX4_take 32 = .ok (.getfield 19, 3) := by decide +kernel
theorem dX4_take_35 : decode cX4_take 35 = .ok (.aload_n 0, 1) := by decide +kernel
theorem dX4_take_36 : decode cX4_take 36 = .ok (.getfield 9, 3) := by decide +kernel
theorem dX4_take_39 : decode cX4_take 39 = .ok (.iload 4, 2) := by decide +kernel
theorem dX4_take_41 : decode cX4_take 41 = .ok (.iaload, 1) := by decide +kernel
theorem dX4_take_42 : decode cX4_take 42 = .ok (.invokevirtual 29, 3) := by decide +kernel
theorem dX4_take_45 : decode cX4_take 45 = .ok (.ifCond .ne 5, 3) := by decide +kernel
theorem dX4_take_48 : decode cX4_take 48 = .ok (.iconst 0, 1) := by decide +kernel
theorem dX4_take_49 : decode cX4_take 49 = .ok (.ireturn, 1) := by decide +kernel
theorem dX4_take_50 : decode cX4_take 50 = .ok (.iinc 4 1, 3) := by decide +kernel
theorem dX4_take_53 : decode cX4_take 53 = .ok (.goto (-45), 3) := by decide +kernel
theorem dX4_take_56 : decode cX4_take 56 = .ok (.iconst 1, 1) := by decide +kernel
theorem dX4_take_57 : decode cX4_take 57 = .ok (.ireturn, 1) := by decide +kernel
theorem dX4_valueOfYears_0 : decode cX4_valueOfYears 0 = .ok (.iconst 0, 1) := by decide +kernel
theorem dX4_valueOfYears_1 : decode cX4_valueOfYears 1 = .ok (.istore_n 2, 1) := by decide +kernel
theorem dX4_valueOfYears_2 : decode cX4_valueOfYears 2 = .ok (.iconst 1, 1) := by decide +kernel
theorem dX4_valueOfYears_3 : decode cX4_valueOfYears 3 = .ok (.istore_n 3, 1) := by decide +kernel
theorem dX4_valueOfYears_4 : decode cX4_valueOfYears 4 = .ok (.iload_n 3, 1) := by decide +kernel
theorem dX4_valueOfYears_5 : decode cX4_valueOfYears 5 = .ok (.iload_n 1, 1) := by decide +kernel
theorem dX4_valueOfYears_6 : decode cX4_valueOfYears 6 = .ok (.if_icmp .gt 40, 3) := by decide +kernel
theorem dX4_valueOfYears_9 : decode cX4_valueOfYears 9 = .ok (.iconst 0, 1) := by decide +kernel
theorem dX4_valueOfYears_10 : decode cX4_valueOfYears 10 = .ok (.istore 4, 2) := by decide +kernel
theorem dX4_valueOfYears_12 : decode cX4_valueOfYears 12 = .ok (.iload 4, 2) := by decide +kernel
theorem dX4_valueOfYears_14 : decode cX4_valueOfYears 14 = .ok (.aload_n 0, 1) := by decide +kernel
theorem dX4_valueOfYears_15 : decode cX4_valueOfYears 15 = .ok (.getfield 19, 3) := by decide +kernel
theorem dX4_valueOfYears_18 : decode cX4_valueOfYears 18 = .ok (.getfield 35, 3) := by decide +kernel
theorem dX4_valueOfYears_21 : decode cX4_valueOfYears 21 = .ok (.if_icmp .ge 19, 3) := by decide +kernel
theorem dX4_valueOfYears_24 : decode cX4_valueOfYears 24 = .ok (.iload_n 2, 1) := by decide +kernel
theorem dX4_valueOfYears_25 : decode cX4_valueOfYears 25 = .ok (.aload_n 0, 1) := by decide +kernel
theorem dX4_valueOfYears_26 : decode cX4_valueOfYears 26 = .ok (.iload 4, 2) := by decide +kernel
theorem dX4_valueOfYears_28 : decode cX4_valueOfYears 28 = .ok (.iload_n 3, 1) := by decide +kernel
theorem dX4_valueOfYears_29 : decode cX4_valueOfYears 29 = .ok (.invokevirtual 38, 3) := by decide +kernel
theorem dX4_valueOfYears_32 : decode cX4_valueOfYears 32 = .ok (.iadd, 1) := by decide +kernel
theorem dX4_valueOfYears_33 : decode cX4_valueOfYears 33 = .ok (.istore_n 2, 1) := by decide +kernel
theorem dX4_valueOfYears_34 : decode cX4_valueOfYears 34 = .ok (.iinc 4 1, 3) := by decide +kernel
theorem dX4_valueOfYears_37 : decode cX4_valueOfYears 37 = .ok (.goto (-25), 3) := by decide +kernel
theorem dX4_valueOfYears_40 : decode cX4_valueOfYears 40 = .ok (.iinc 3 1, 3) := by decide +kernel
theorem dX4_valueOfYears_43 : decode cX4_valueOfYears 43 = .ok (.goto (-39), 3) := by decide +kernel
theorem dX4_valueOfYears_46 : decode cX4_valueOfYears 46 = .ok (.iload_n 2, 1) := by decide +kernel
theorem dX4_valueOfYears_47 : decode cX4_valueOfYears 47 = .ok (.ireturn, 1) := by decide +kernel
theorem dX4_valueBehind_0 : decode cX4_valueBehind 0 = .ok (.aload_n 0, 1) := by decide +kernel
theorem dX4_valueBehind_1 : decode cX4_valueBehind 1 = .ok (.getfield 19, 3) := by decide +kernel
theorem dX4_valueBehind_4 : decode cX4_valueBehind 4 = .ok (.getfield 41, 3) := by decide +kernel
theorem dX4_valueBehind_7 : decode cX4_valueBehind 7 = .ok (.iload_n 1, 1) := by decide +kernel
theorem dX4_valueBehind_8 : decode cX4_valueBehind 8 = .ok (.aaload, 1) := by decide +kernel
theorem dX4_valueBehind_9 : decode cX4_valueBehind 9 = .ok (.getfield 45, 3) := by decide +kernel
theorem dX4_valueBehind_12 : decode cX4_valueBehind 12 = .ok (.istore_n 3, 1) := by decide +kernel
theorem dX4_valueBehind_13 : decode cX4_valueBehind 13 = .ok (.iload_n 3, 1) := by decide +kernel
theorem dX4_valueBehind_14 : decode cX4_valueBehind 14 = .ok (.aload_n 0, 1) := by decide +kernel
theorem dX4_valueBehind_15 : decode cX4_valueBehind 15 = .ok (.iload_n 1, 1) := by decide +kernel
theorem dX4_valueBehind_16 : decode cX4_valueBehind 16 = .ok (.iload_n 2, 1) := by decide +kernel
theorem dX4_valueBehind_17 : decode cX4_valueBehind 17 = .ok (.invokevirtual 50, 3) := by decide +kernel
theorem dX4_valueBehind_20 : decode cX4_valueBehind 20 = .ok (.invokestatic 54, 3) := by decide +kernel
theorem dX4_valueBehind_23 : decode cX4_valueBehind 23 = .ok (.istore 4, 2) := by decide +kernel
theorem dX4_valueBehind_25 : decode cX4_valueBehind 25 = .ok (.iload_n 3, 1) := by decide +kernel
theorem dX4_valueBehind_26 : decode cX4_valueBehind 26 = .ok (.aload_n 0, 1) := by decide +kernel
theorem dX4_valueBehind_27 : decode cX4_valueBehind 27 = .ok (.iload_n 1, 1) := by decide +kernel
theorem dX4_valueBehind_28 : decode cX4_valueBehind 28 = .ok (.iload_n 2, 1) := by decide +kernel
theorem dX4_valueBehind_29 : decode cX4_valueBehind 29 = .ok (.invokevirtual 58, 3) := by decide +kernel
theorem dX4_valueBehind_32 : decode cX4_valueBehind 32 = .ok (.invokestatic 61, 3) := by decide +kernel
theorem dX4_valueBehind_35 : decode cX4_valueBehind 35 = .ok (.istore 5, 2) := by decide +kernel
theorem dX4_valueBehind_37 : decode cX4_valueBehind 37 = .ok (.iload 4, 2) := by decide +kernel
theorem dX4_valueBehind_39 : decode cX4_valueBehind 39 = .ok (.aload_n 0, 1) := by decide +kernel
theorem dX4_valueBehind_40 : decode cX4_valueBehind 40 = .ok (.getfield 19, 3) := by decide +kernel
theorem dX4_valueBehind_43 : decode cX4_valueBehind 43 = .ok (.aload_n 0, 1) := by decide +kernel
theorem dX4_valueBehind_44 : decode cX4_valueBehind 44 = .ok (.iload_n 1, 1) := by decide +kernel
theorem dX4_valueBehind_45 : decode cX4_valueBehind 45 = .ok (.iload_n 2, 1) := by decide +kernel
theorem dX4_valueBehind_46 : decode cX4_valueBehind 46 = .ok (.invokevirtual 64, 3) := by decide +kernel
theorem dX4_valueBehind_49 : decode cX4_valueBehind 49 = .ok (.invokevirtual 67, 3) := by decide +kernel
theorem dX4_valueBehind_52 : decode cX4_valueBehind 52 = .ok (.imul, 1) := by decide +kernel
theorem dX4_valueBehind_53 : decode cX4_valueBehind 53 = .ok (.iload 5, 2) := by decide +kernel
theorem dX4_valueBehind_55 : decode cX4_valueBehind 55 = .ok (.aload_n 0, 1) := by decide +kernel
theorem dX4_valueBehind_56 : decode cX4_valueBehind 56 = .ok (.getfield 19, 3) := by decide +kernel
theorem dX4_valueBehind_59 : decode cX4_valueBehind 59 = .ok (.aload_n 0, 1) := by decide +kernel
theorem dX4_valueBehind_60 : decode cX4_valueBehind 60 = .ok (.iload_n 1, 1) := by decide +kernel
theorem dX4_valueBehind_61 : decode cX4_valueBehind 61 = .ok (.iload_n 2, 1) := by decide +kernel
theorem dX4_valueBehind_62 : decode cX4_valueBehind 62 = .ok (.invokevirtual 71, 3) := by decide +kernel
theorem dX4_valueBehind_65 : decode cX4_valueBehind 65 = .ok (.invokevirtual 67, 3) := by decide +kernel
theorem dX4_valueBehind_68 : decode cX4_valueBehind 68 = .ok (.imul, 1) := by decide +kernel
theorem dX4_valueBehind_69 : decode cX4_valueBehind 69 = .ok (.iadd, 1) := by decide +kernel
theorem dX4_valueBehind_70 : decode cX4_valueBehind 70 = .ok (.ireturn, 1) := by decide +kernel
theorem dX4_lastBehind_0 : decode cX4_lastBehind 0 = .ok (.iload_n 2, 1) := by decide +kernel
theorem dX4_lastBehind_1 : decode cX4_lastBehind 1 = .ok (.ifCond .ne 18, 3) := by decide +kernel
theorem dX4_lastBehind_4 : decode cX4_lastBehind 4 = .ok (.aload_n 0, 1) := by decide +kernel
theorem dX4_lastBehind_5 : decode cX4_lastBehind 5 = .ok (.getfield 19, 3) := by decide +kernel
theorem dX4_lastBehind_8 : decode cX4_lastBehind 8 = .ok (.getfield 41, 3) := by decide +kernel
theorem dX4_lastBehind_11 : decode cX4_lastBehind 11 = .ok (.iload_n 1, 1) := by decide +kernel
theorem dX4_lastBehind_12 : decode cX4_lastBehind 12 = .ok (.aaload, 1) := by decide +kernel
theorem dX4_lastBehind_13 : decode cX4_lastBehind 13 = .ok (.getfield 74, 3) := by decide +kernel
theorem dX4_lastBehind_16 : decode cX4_lastBehind 16 = .ok (.goto 18, 3) := by decide +kernel
theorem dX4_lastBehind_19 : decode cX4_lastBehind 19 = .ok (.aload_n 0, 1) := by decide +kernel
theorem dX4_lastBehind_20 : decode cX4_lastBehind 20 = .ok (.getfield 9, 3) := by decide +kernel
theorem dX4_lastBehind_23 : decode cX4_lastBehind 23 = .ok (.iload_n 2, 1) := by decide +kernel
theorem dX4_lastBehind_24 : decode cX4_lastBehind 24 = .ok (.iconst 1, 1) := by decide +kernel
theorem dX4_lastBehind_25 : decode cX4_lastBehind 25 = .ok (.isub, 1) := by decide +kernel
theorem dX4_lastBehind_26 : decode cX4_lastBehind 26 = .ok (.iload_n 1, 1) := by decide +kernel
theorem dX4_lastBehind_27 : decode cX4_lastBehind 27 = .ok (.iadd, 1) := by decide +kernel
theorem dX4_lastBehind_28 : decode cX4_lastBehind 28 = .ok (.aload_n 0, 1) := by decide +kernel
theorem dX4_lastBehind_29 : decode cX4_lastBehind 29 = .ok (.getfield 15, 3) := by decide +kernel
theorem dX4_lastBehind_32 : decode cX4_lastBehind 32 = .ok (.irem, 1) := by decide +kernel
theorem dX4_lastBehind_33 : decode cX4_lastBehind 33 = .ok (.iaload, 1) := by decide +kernel
theorem dX4_lastBehind_34 : decode cX4_lastBehind 34 = .ok (.ireturn, 1) := by decide +kernel
theorem dX4_beforeBehind_0 : decode cX4_beforeBehind 0 = .ok (.iload_n 2, 1) := by decide +kernel
theorem dX4_beforeBehind_1 : decode cX4_beforeBehind 1 = .ok (.ifCond .ne 18, 3) := by decide +kernel
theorem dX4_beforeBehind_4 : decode cX4_beforeBehind 4 = .ok (.aload_n 0, 1) := by decide +kernel
theorem dX4_beforeBehind_5 : decode cX4_beforeBehind 5 = .ok (.getfield 19, 3) := by decide +kernel
theorem dX4_beforeBehind_8 : decode cX4_beforeBehind 8 = .ok (.getfield 41, 3) := by decide +kernel
theorem dX4_beforeBehind_11 : decode cX4_beforeBehind 11 = .ok (.iload_n 1, 1) := by decide +kernel
theorem dX4_beforeBehind_12 : decode cX4_beforeBehind 12 = .ok (.aaload, 1) := by decide +kernel
theorem dX4_beforeBehind_13 : decode cX4_beforeBehind 13 = .ok (.getfield 77, 3) := by decide +kernel
theorem dX4_beforeBehind_16 : decode cX4_beforeBehind 16 = .ok (.goto 11, 3) := by decide +kernel
theorem dX4_beforeBehind_19 : decode cX4_beforeBehind 19 = .ok (.aload_n 0, 1) := by decide +kernel
theorem dX4_beforeBehind_20 : decode cX4_beforeBehind 20 = .ok (.iload_n 1, 1) := by decide +kernel
theorem dX4_beforeBehind_21 : decode cX4_beforeBehind 21 = .ok (.iload_n 2, 1) := by decide +kernel
theorem dX4_beforeBehind_22 : decode cX4_beforeBehind 22 = .ok (.iconst 1, 1) := by decide +kernel
theorem dX4_beforeBehind_23 : decode cX4_beforeBehind 23 = .ok (.isub, 1) := by decide +kernel
theorem dX4_beforeBehind_24 : decode cX4_beforeBehind 24 = .ok (.invokevirtual 64, 3) := by decide +kernel
theorem dX4_beforeBehind_27 : decode cX4_beforeBehind 27 = .ok (.ireturn, 1) := by decide +kernel
theorem dX4_lastFellBehind_0 : decode cX4_lastFellBehind 0 = .ok (.iload_n 2, 1) := by decide +kernel
theorem dX4_lastFellBehind_1 : decode cX4_lastFellBehind 1 = .ok (.ifCond .ne 22, 3) := by decide +kernel
theorem dX4_lastFellBehind_4 : decode cX4_lastFellBehind 4 = .ok (.aload_n 0, 1) := by decide +kernel
theorem dX4_lastFellBehind_5 : decode cX4_lastFellBehind 5 = .ok (.getfield 19, 3) := by decide +kernel
theorem dX4_lastFellBehind_8 : decode cX4_lastFellBehind 8 = .ok (.getfield 41, 3) := by decide +kernel
theorem dX4_lastFellBehind_11 : decode cX4_lastFellBehind 11 = .ok (.iload_n 1, 1) := by decide +kernel
theorem dX4_lastFellBehind_12 : decode cX4_lastFellBehind 12 = .ok (.aaload, 1) := by decide +kernel
theorem dX4_lastFellBehind_13 : decode cX4_lastFellBehind 13 = .ok (.getfield 80, 3) := by decide +kernel
theorem dX4_lastFellBehind_16 : decode cX4_lastFellBehind 16 = .ok (.ifCond .eq 7, 3) := by decide +kernel
theorem dX4_lastFellBehind_19 : decode cX4_lastFellBehind 19 = .ok (.iconst 1, 1) := by decide +kernel
theorem dX4_lastFellBehind_20 : decode cX4_lastFellBehind 20 = .ok (.goto 4, 3) := by decide +kernel
theorem dX4_lastFellBehind_23 : decode cX4_lastFellBehind 23 = .ok (.iconst 0, 1) := by decide +kernel
theorem dX4_lastFellBehind_24 : decode cX4_lastFellBehind 24 = .ok (.ireturn, 1) := by decide +kernel
theorem dX4_beforeFellBehind_0 : decode cX4_beforeFellBehind 0 = .ok (.iload_n 2, 1) := by decide +kernel
theorem dX4_beforeFellBehind_1 : decode cX4_beforeFellBehind 1 = .ok (.ifCond .ne 18, 3) := by decide +kernel
theorem dX4_beforeFellBehind_4 : decode cX4_beforeFellBehind 4 = .ok (.aload_n 0, 1) := by decide +kernel
theorem dX4_beforeFellBehind_5 : decode cX4_beforeFellBehind 5 = .ok (.getfield 19, 3) := by decide +kernel
theorem dX4_beforeFellBehind_8 : decode cX4_beforeFellBehind 8 = .ok (.getfield 41, 3) := by decide +kernel
theorem dX4_beforeFellBehind_11 : decode cX4_beforeFellBehind 11 = .ok (.iload_n 1, 1) := by decide +kernel
theorem dX4_beforeFellBehind_12 : decode cX4_beforeFellBehind 12 = .ok (.aaload, 1) := by decide +kernel
theorem dX4_beforeFellBehind_13 : decode cX4_beforeFellBehind 13 = .ok (.getfield 84, 3) := by decide +kernel
theorem dX4_beforeFellBehind_16 : decode cX4_beforeFellBehind 16 = .ok (.goto 11, 3) := by decide +kernel
theorem dX4_beforeFellBehind_19 : decode cX4_beforeFellBehind 19 = .ok (.aload_n 0, 1) := by decide +kernel
theorem dX4_beforeFellBehind_20 : decode cX4_beforeFellBehind 20 = .ok (.iload_n 1, 1) := by decide +kernel
theorem dX4_beforeFellBehind_21 : decode cX4_beforeFellBehind 21 = .ok (.iload_n 2, 1) := by decide +kernel
theorem dX4_beforeFellBehind_22 : decode cX4_beforeFellBehind 22 = .ok (.iconst 1, 1) := by decide +kernel
theorem dX4_beforeFellBehind_23 : decode cX4_beforeFellBehind 23 = .ok (.isub, 1) := by decide +kernel
theorem dX4_beforeFellBehind_24 : decode cX4_beforeFellBehind 24 = .ok (.invokevirtual 50, 3) := by decide +kernel
theorem dX4_beforeFellBehind_27 : decode cX4_beforeFellBehind 27 = .ok (.ireturn, 1) := by decide +kernel
theorem dX4_findAgain_0 : decode cX4_findAgain 0 = .ok (.iconst 1, 1) := by decide +kernel
theorem dX4_findAgain_1 : decode cX4_findAgain 1 = .ok (.istore_n 1, 1) := by decide +kernel
theorem dX4_findAgain_2 : decode cX4_findAgain 2 = .ok (.iload_n 1, 1) := by decide +kernel
theorem dX4_findAgain_3 : decode cX4_findAgain 3 = .ok (.sipush 200, 3) := by decide +kernel
theorem dX4_findAgain_6 : decode cX4_findAgain 6 = .ok (.if_icmp .gt 53, 3) := by decide +kernel
theorem dX4_findAgain_9 : decode cX4_findAgain 9 = .ok (.iload_n 1, 1) := by decide +kernel
theorem dX4_findAgain_10 : decode cX4_findAgain 10 = .ok (.aload_n 0, 1) := by decide +kernel
theorem dX4_findAgain_11 : decode cX4_findAgain 11 = .ok (.getfield 15, 3) := by decide +kernel
theorem dX4_findAgain_14 : decode cX4_findAgain 14 = .ok (.isub, 1) := by decide +kernel
theorem dX4_findAgain_15 : decode cX4_findAgain 15 = .ok (.istore_n 2, 1) := by decide +kernel
theorem dX4_findAgain_16 : decode cX4_findAgain 16 = .ok (.iload_n 2, 1) := by decide +kernel
theorem dX4_findAgain_17 : decode cX4_findAgain 17 = .ok (.ifCond .lt 36, 3) := by decide +kernel
theorem dX4_findAgain_20 : decode cX4_findAgain 20 = .ok (.aload_n 0, 1) := by decide +kernel
theorem dX4_findAgain_21 : decode cX4_findAgain 21 = .ok (.iload_n 2, 1) := by decide +kernel
theorem dX4_findAgain_22 : decode cX4_findAgain 22 = .ok (.iload_n 1, 1) := by decide +kernel
theorem dX4_findAgain_23 : decode cX4_findAgain 23 = .ok (.invokevirtual 87, 3) := by decide +kernel
theorem dX4_findAgain_26 : decode cX4_findAgain 26 = .ok (.ifCond .eq 17, 3) := by decide +kernel
theorem dX4_findAgain_29 : decode cX4_findAgain 29 = .ok (.aload_n 0, 1) := by decide +kernel
theorem dX4_findAgain_30 : decode cX4_findAgain 30 = .ok (.iload_n 1, 1) := by decide +kernel
theorem dX4_findAgain_31 : decode cX4_findAgain 31 = .ok (.putfield 90, 3) := by decide +kernel
theorem dX4_findAgain_34 : decode cX4_findAgain 34 = .ok (.aload_n 0, 1) := by decide +kernel
theorem dX4_findAgain_35 : decode cX4_findAgain 35 = .ok (.iload_n 1, 1) := by decide +kernel
theorem dX4_findAgain_36 : decode cX4_findAgain 36 = .ok (.iload_n 2, 1) := by decide +kernel
theorem dX4_findAgain_37 : decode cX4_findAgain 37 = .ok (.isub, 1) := by decide +kernel
theorem dX4_findAgain_38 : decode cX4_findAgain 38 = .ok (.putfield 93, 3) := by decide +kernel
theorem dX4_findAgain_41 : decode cX4_findAgain 41 = .ok (.iconst 1, 1) := by decide +kernel
theorem dX4_findAgain_42 : decode cX4_findAgain 42 = .ok (.ireturn, 1) := by decide +kernel
theorem dX4_findAgain_43 : decode cX4_findAgain 43 = .ok (.iload_n 2, 1) := by decide +kernel
theorem dX4_findAgain_44 : decode cX4_findAgain 44 = .ok (.aload_n 0, 1) := by decide +kernel
theorem dX4_findAgain_45 : decode cX4_findAgain 45 = .ok (.getfield 15, 3) := by decide +kernel
theorem dX4_findAgain_48 : decode cX4_findAgain 48 = .ok (.isub, 1) := by decide +kernel
theorem dX4_findAgain_49 : decode cX4_findAgain 49 = .ok (.istore_n 2, 1) := by decide +kernel
theorem dX4_findAgain_50 : decode cX4_findAgain 50 = .ok (.goto (-34), 3) := by decide +kernel
theorem dX4_findAgain_53 : decode cX4_findAgain 53 = .ok (.iinc 1 1, 3) := by decide +kernel
theorem dX4_findAgain_56 : decode cX4_findAgain 56 = .ok (.goto (-54), 3) := by decide +kernel
theorem dX4_findAgain_59 : decode cX4_findAgain 59 = .ok (.iconst 0, 1) := by decide +kernel
theorem dX4_findAgain_60 : decode cX4_findAgain 60 = .ok (.ireturn, 1) := by decide +kernel
theorem dX4_areAlike_0 : decode cX4_areAlike 0 = .ok (.iconst 0, 1) := by decide +kernel
theorem dX4_areAlike_1 : decode cX4_areAlike 1 = .ok (.istore_n 3, 1) := by decide +kernel
theorem dX4_areAlike_2 : decode cX4_areAlike 2 = .ok (.iload_n 3, 1) := by decide +kernel
theorem dX4_areAlike_3 : decode cX4_areAlike 3 = .ok (.aload_n 0, 1) := by decide +kernel
theorem dX4_areAlike_4 : decode cX4_areAlike 4 = .ok (.getfield 19, 3) := by decide +kernel
theorem dX4_areAlike_7 : decode cX4_areAlike 7 = .ok (.getfield 35, 3) := by decide +kernel
theorem dX4_areAlike_10 : decode cX4_areAlike 10 = .ok (.if_icmp .ge 71, 3) := by decide +kernel
theorem dX4_areAlike_13 : decode cX4_areAlike 13 = .ok (.aload_n 0, 1) := by decide +kernel
theorem dX4_areAlike_14 : decode cX4_areAlike 14 = .ok (.iload_n 3, 1) := by decide +kernel
theorem dX4_areAlike_15 : decode cX4_areAlike 15 = .ok (.iload_n 1, 1) := by decide +kernel
theorem dX4_areAlike_16 : decode cX4_areAlike 16 = .ok (.invokevirtual 64, 3) := by decide +kernel
theorem dX4_areAlike_19 : decode cX4_areAlike 19 = .ok (.aload_n 0, 1) := by decide +kernel
theorem dX4_areAlike_20 : decode cX4_areAlike 20 = .ok (.iload_n 3, 1) := by decide +kernel
theorem dX4_areAlike_21 : decode cX4_areAlike 21 = .ok (.iload_n 2, 1) := by decide +kernel
theorem dX4_areAlike_22 : decode cX4_areAlike 22 = .ok (.invokevirtual 64, 3) := by decide +kernel
theorem dX4_areAlike_25 : decode cX4_areAlike 25 = .ok (.if_icmp .ne 48, 3) := by decide +kernel
theorem dX4_areAlike_28 : decode cX4_areAlike 28 = .ok (.aload_n 0, 1) := by decide +kernel
theorem dX4_areAlike_29 : decode cX4_areAlike 29 = .ok (.iload_n 3, 1) := by decide +kernel
theorem dX4_areAlike_30 : decode cX4_areAlike 30 = .ok (.iload_n 1, 1) := by decide +kernel
theorem dX4_areAlike_31 : decode cX4_areAlike 31 = .ok (.invokevirtual 71, 3) := by decide +kernel
theorem dX4_areAlike_34 : decode cX4_areAlike 34 = .ok (.aload_n 0, 1) := by decide +kernel
theorem dX4_areAlike_35 : decode cX4_areAlike 35 = .ok (.iload_n 3, 1) := by decide +kernel
theorem dX4_areAlike_36 : decode cX4_areAlike 36 = .ok (.iload_n 2, 1) := by decide +kernel
theorem dX4_areAlike_37 : decode cX4_areAlike 37 = .ok (.invokevirtual 71, 3) := by decide +kernel
theorem dX4_areAlike_40 : decode cX4_areAlike 40 = .ok (.if_icmp .ne 33, 3) := by decide +kernel
theorem dX4_areAlike_43 : decode cX4_areAlike 43 = .ok (.aload_n 0, 1) := by decide +kernel
theorem dX4_areAlike_44 : decode cX4_areAlike 44 = .ok (.iload_n 3, 1) := by decide +kernel
theorem dX4_areAlike_45 : decode cX4_areAlike 45 = .ok (.iload_n 1, 1) := by decide +kernel
theorem dX4_areAlike_46 : decode cX4_areAlike 46 = .ok (.invokevirtual 50, 3) := by decide +kernel
theorem dX4_areAlike_49 : decode cX4_areAlike 49 = .ok (.aload_n 0, 1) := by decide +kernel
theorem dX4_areAlike_50 : decode cX4_areAlike 50 = .ok (.iload_n 3, 1) := by decide +kernel
theorem dX4_areAlike_51 : decode cX4_areAlike 51 = .ok (.iload_n 2, 1) := by decide +kernel
theorem dX4_areAlike_52 : decode cX4_areAlike 52 = .ok (.invokevirtual 50, 3) := by decide +kernel
theorem dX4_areAlike_55 : decode cX4_areAlike 55 = .ok (.if_icmp .ne 18, 3) := by decide +kernel
theorem dX4_areAlike_58 : decode cX4_areAlike 58 = .ok (.aload_n 0, 1) := by decide +kernel
theorem dX4_areAlike_59 : decode cX4_areAlike 59 = .ok (.iload_n 3, 1) := by decide +kernel
theorem dX4_areAlike_60 : decode cX4_areAlike 60 = .ok (.iload_n 1, 1) := by decide +kernel
theorem dX4_areAlike_61 : decode cX4_areAlike 61 = .ok (.invokevirtual 58, 3) := by decide +kernel
theorem dX4_areAlike_64 : decode cX4_areAlike 64 = .ok (.aload_n 0, 1) := by decide +kernel
theorem dX4_areAlike_65 : decode cX4_areAlike 65 = .ok (.iload_n 3, 1) := by decide +kernel
theorem dX4_areAlike_66 : decode cX4_areAlike 66 = .ok (.iload_n 2, 1) := by decide +kernel
theorem dX4_areAlike_67 : decode cX4_areAlike 67 = .ok (.invokevirtual 58, 3) := by decide +kernel
theorem dX4_areAlike_70 : decode cX4_areAlike 70 = .ok (.if_icmp .eq 5, 3) := by decide +kernel
theorem dX4_areAlike_73 : decode cX4_areAlike 73 = .ok (.iconst 0, 1) := by decide +kernel
theorem dX4_areAlike_74 : decode cX4_areAlike 74 = .ok (.ireturn, 1) := by decide +kernel
theorem dX4_areAlike_75 : decode cX4_areAlike 75 = .ok (.iinc 3 1, 3) := by decide +kernel
theorem dX4_areAlike_78 : decode cX4_areAlike 78 = .ok (.goto (-76), 3) := by decide +kernel
theorem dX4_areAlike_81 : decode cX4_areAlike 81 = .ok (.iconst 1, 1) := by decide +kernel
theorem dX4_areAlike_82 : decode cX4_areAlike 82 = .ok (.ireturn, 1) := by decide +kernel
theorem dX10_init_0 : decode cX10_init 0 = .ok (.aload_n 0, 1) := by decide +kernel
theorem dX10_init_1 : decode cX10_init 1 = .ok (.invokespecial 3, 3) := by decide +kernel
theorem dX10_init_4 : decode cX10_init 4 = .ok (.aload_n 0, 1) := by decide +kernel
theorem dX10_init_5 : decode cX10_init 5 = .ok (.new 9, 3) := by decide +kernel
theorem dX10_init_8 : decode cX10_init 8 = .ok (.dup, 1) := by decide +kernel
theorem dX10_init_9 : decode cX10_init 9 = .ok (.invokespecial 11, 3) := by decide +kernel
theorem dX10_init_12 : decode cX10_init 12 = .ok (.putfield 12, 3) := by decide +kernel
theorem dX10_init_15 : decode cX10_init 15 = .ok (.aload_n 0, 1) := by decide +kernel
theorem dX10_init_16 : decode cX10_init 16 = .ok (.new 9, 3) := by decide +kernel
theorem dX10_init_19 : decode cX10_init 19 = .ok (.dup, 1) := by decide +kernel
theorem dX10_init_20 : decode cX10_init 20 = .ok (.invokespecial 11, 3) := by decide +kernel
theorem dX10_init_23 : decode cX10_init 23 = .ok (.putfield 16, 3) := by decide +kernel
theorem dX10_init_26 : decode cX10_init 26 = .ok (.aload_n 0, 1) := by decide +kernel
theorem dX10_init_27 : decode cX10_init 27 = .ok (.new 19, 3) := by decide +kernel
theorem dX10_init_30 : decode cX10_init 30 = .ok (.dup, 1) := by decide +kernel
theorem dX10_init_31 : decode cX10_init 31 = .ok (.invokespecial 21, 3) := by decide +kernel
theorem dX10_init_34 : decode cX10_init 34 = .ok (.putfield 22, 3) := by decide +kernel
theorem dX10_init_37 : decode cX10_init 37 = .ok (.aload_n 0, 1) := by decide +kernel
theorem dX10_init_38 : decode cX10_init 38 = .ok (.iconst 4, 1) := by decide +kernel
theorem dX10_init_39 : decode cX10_init 39 = .ok (.anewarray 26, 3) := by decide +kernel
theorem dX10_init_42 : decode cX10_init 42 = .ok (.putfield 28, 3) := by decide +kernel
theorem dX10_init_45 : decode cX10_init 45 = .ok (.aload_n 0, 1) := by decide +kernel
theorem dX10_init_46 : decode cX10_init 46 = .ok (.new 32, 3) := by decide +kernel
theorem dX10_init_49 : decode cX10_init 49 = .ok (.dup, 1) := by decide +kernel
theorem dX10_init_50 : decode cX10_init 50 = .ok (.invokespecial 34, 3) := by decide +kernel
theorem dX10_init_53 : decode cX10_init 53 = .ok (.putfield 35, 3) := by decide +kernel
theorem dX10_init_56 : decode cX10_init 56 = .ok (.aload_n 0, 1) := by decide +kernel
theorem dX10_init_57 : decode cX10_init 57 = .ok (.new 39, 3) := by decide +kernel
theorem dX10_init_60 : decode cX10_init 60 = .ok (.dup, 1) := by decide +kernel
theorem dX10_init_61 : decode cX10_init 61 = .ok (.aload_n 0, 1) := by decide +kernel
theorem dX10_init_62 : decode cX10_init 62 = .ok (.getfield 35, 3) := by decide +kernel
theorem dX10_init_65 : decode cX10_init 65 = .ok (.invokespecial 41, 3) := by decide +kernel
theorem dX10_init_68 : decode cX10_init 68 = .ok (.putfield 44, 3) := by decide +kernel
theorem dX10_init_71 : decode cX10_init 71 = .ok (.aload_n 0, 1) := by decide +kernel
theorem dX10_init_72 : decode cX10_init 72 = .ok (.new 48, 3) := by decide +kernel
theorem dX10_init_75 : decode cX10_init 75 = .ok (.dup, 1) := by decide +kernel
theorem dX10_init_76 : decode cX10_init 76 = .ok (.aload_n 0, 1) := by decide +kernel
theorem dX10_init_77 : decode cX10_init 77 = .ok (.getfield 35, 3) := by decide +kernel
theorem dX10_init_80 : decode cX10_init 80 = .ok (.invokespecial 50, 3) := by decide +kernel
theorem dX10_init_83 : decode cX10_init 83 = .ok (.putfield 51, 3) := by decide +kernel
theorem dX10_init_86 : decode cX10_init 86 = .ok (.aload_n 0, 1) := by decide +kernel
theorem dX10_init_87 : decode cX10_init 87 = .ok (.new 55, 3) := by decide +kernel
theorem dX10_init_90 : decode cX10_init 90 = .ok (.dup, 1) := by decide +kernel
theorem dX10_init_91 : decode cX10_init 91 = .ok (.aload_n 0, 1) := by decide +kernel
theorem dX10_init_92 : decode cX10_init 92 = .ok (.getfield 35, 3) := by decide +kernel
theorem dX10_init_95 : decode cX10_init 95 = .ok (.invokespecial 57, 3) := by decide +kernel
theorem dX10_init_98 : decode cX10_init 98 = .ok (.putfield 58, 3) := by decide +kernel
theorem dX10_init_101 : decode cX10_init 101 = .ok (.aload_n 0, 1) := by decide +kernel
theorem dX10_init_102 : decode cX10_init 102 = .ok (.new 62, 3) := by decide +kernel
theorem dX10_init_105 : decode cX10_init 105 = .ok (.dup, 1) := by decide +kernel
theorem dX10_init_106 : decode cX10_init 106 = .ok (.aload_n 0, 1) := by decide +kernel
theorem dX10_init_107 : decode cX10_init 107 = .ok (.getfield 12, 3) := by decide +kernel
theorem dX10_init_110 : decode cX10_init 110 = .ok (.invokespecial 64, 3) := by decide +kernel
theorem dX10_init_113 : decode cX10_init 113 = .ok (.putfield 67, 3) := by decide +kernel
theorem dX10_init_116 : decode cX10_init 116 = .ok (.aload_n 0, 1) := by decide +kernel
theorem dX10_init_117 : decode cX10_init 117 = .ok (.bipush 6, 2) := by decide +kernel
theorem dX10_init_119 : decode cX10_init 119 = .ok (.newarray .int, 2) := by decide +kernel
theorem dX10_init_121 : decode cX10_init 121 = .ok (.putfield 71, 3) := by decide +kernel
theorem dX10_init_124 : decode cX10_init 124 = .ok (.iconst 0, 1) := by decide +kernel
theorem dX10_init_125 : decode cX10_init 125 = .ok (.istore_n 1, 1) := by decide +kernel
theorem dX10_init_126 : decode cX10_init 126 = .ok (.iload_n 1, 1) := by decide +kernel
theorem dX10_init_127 : decode cX10_init 127 = .ok (.iconst 4, 1) := by decide +kernel
theorem dX10_init_128 : decode cX10_init 128 = .ok (.if_icmp .ge 22, 3) := by decide +kernel
theorem dX10_init_131 : decode cX10_init 131 = .ok (.aload_n 0, 1) := by decide +kernel
theorem dX10_init_132 : decode cX10_init 132 = .ok (.getfield 28, 3) := by decide +kernel
theorem dX10_init_135 : decode cX10_init 135 = .ok (.iload_n 1, 1) := by decide +kernel
theorem dX10_init_136 : decode cX10_init 136 = .ok (.new 26, 3) := by decide +kernel
theorem dX10_init_139 : decode cX10_init 139 = .ok (.dup, 1) := by decide +kernel
theorem dX10_init_140 : decode cX10_init 140 = .ok (.invokespecial 75, 3) := by decide +kernel
theorem dX10_init_143 : decode cX10_init 143 = .ok (.aastore, 1) := by decide +kernel
theorem dX10_init_144 : decode cX10_init 144 = .ok (.iinc 1 1, 3) := by decide +kernel
theorem dX10_init_147 : decode cX10_init 147 = .ok (.goto (-21), 3) := by decide +kernel
theorem dX10_init_150 : decode cX10_init 150 = .ok (.return_, 1) := by decide +kernel
theorem dX10_tree_0 : decode cX10_tree 0 = .ok (.iload_n 1, 1) := by decide +kernel
theorem dX10_tree_1 : decode cX10_tree 1 = .ok (.iconst 0, 1) := by decide +kernel
theorem dX10_tree_2 : decode cX10_tree 2 = .ok (.iconst 3, 1) := by decide +kernel
theorem dX10_tree_3 : decode cX10_tree 3 = .ok (.invokestatic 76, 3) := by decide +kernel
theorem dX10_tree_6 : decode cX10_tree 6 = .ok (.ifCond .ne 5, 3) := by decide +kernel
theorem dX10_tree_9 : decode cX10_tree 9 = .ok (.iconst (-1), 1) := by decide +kernel
theorem dX10_tree_10 : decode cX10_tree 10 = .ok (.ireturn, 1) := by decide +kernel
theorem dX10_tree_11 : decode cX10_tree 11 = .ok (.aload_n 0, 1) := by decide +kernel
theorem dX10_tree_12 : decode cX10_tree 12 = .ok (.getfield 12, 3) := by decide +kernel
theorem dX10_tree_15 : decode cX10_tree 15 = .ok (.getfield 80, 3) := by decide +kernel
theorem dX10_tree_18 : decode cX10_tree 18 = .ok (.bipush 6, 2) := by decide +kernel
theorem dX10_tree_20 : decode cX10_tree 20 = .ok (.if_icmp .lt 8, 3) := by decide +kernel
theorem dX10_tree_23 : decode cX10_tree 23 = .ok (.bipush (-3), 2) := by decide +kernel
theorem dX10_tree_25 : decode cX10_tree 25 = .ok (.goto 11, 3) := by decide +kernel
theorem dX10_tree_28 : decode cX10_tree 28 = .ok (.aload_n 0, 1) := by decide +kernel
theorem dX10_tree_29 : decode cX10_tree 29 = .ok (.getfield 12, 3) := by decide +kernel
theorem dX10_tree_32 : decode cX10_tree 32 = .ok (.iload_n 1, 1) := by decide +kernel
theorem dX10_tree_33 : decode cX10_tree 33 = .ok (.invokevirtual 84, 3) := by decide +kernel
theorem dX10_tree_36 : decode cX10_tree 36 = .ok (.ireturn, 1) := by decide +kernel
theorem dX10_cutting_0 : decode cX10_cutting 0 = .ok (.aload_n 0, 1) := by decide +kernel
theorem dX10_cutting_1 : decode cX10_cutting 1 = .ok (.getfield 12, 3) := by decide +kernel
theorem dX10_cutting_4 : decode cX10_cutting 4 = .ok (.iload_n 1, 1) := by decide +kernel
theorem dX10_cutting_5 : decode cX10_cutting 5 = .ok (.invokevirtual 88, 3) := by decide +kernel
theorem dX10_cutting_8 : decode cX10_cutting 8 = .ok (.ifCond .ne 5, 3) := by decide +kernel
theorem dX10_cutting_11 : decode cX10_cutting 11 = .ok (.iconst (-1), 1) := by decide +kernel
theorem dX10_cutting_12 : decode cX10_cutting 12 = .ok (.ireturn, 1) := by decide +kernel
theorem dX10_cutting_13 : decode cX10_cutting 13 = .ok (.aload_n 0, 1) := by decide +kernel
theorem dX10_cutting_14 : decode cX10_cutting 14 = .ok (.getfield 12, 3) := by decide +kernel
theorem dX10_cutting_17 : decode cX10_cutting 17 = .ok (.getfield 80, 3) := by decide +kernel
theorem dX10_cutting_20 : decode cX10_cutting 20 = .ok (.bipush 6, 2) := by decide +kernel
theorem dX10_cutting_22 : decode cX10_cutting 22 = .ok (.if_icmp .lt 8, 3) := by decide +kernel
theorem dX10_cutting_25 : decode cX10_cutting 25 = .ok (.bipush (-3), 2) := by decide +kernel
theorem dX10_cutting_27 : decode cX10_cutting 27 = .ok (.goto 11, 3) := by decide +kernel
theorem dX10_cutting_30 : decode cX10_cutting 30 = .ok (.aload_n 0, 1) := by decide +kernel
theorem dX10_cutting_31 : decode cX10_cutting 31 = .ok (.getfield 12, 3) := by decide +kernel
theorem dX10_cutting_34 : decode cX10_cutting 34 = .ok (.iload_n 1, 1) := by decide +kernel
theorem dX10_cutting_35 : decode cX10_cutting 35 = .ok (.invokevirtual 92, 3) := by decide +kernel
theorem dX10_cutting_38 : decode cX10_cutting 38 = .ok (.ireturn, 1) := by decide +kernel
theorem dX10_climber_0 : decode cX10_climber 0 = .ok (.iload_n 1, 1) := by decide +kernel
theorem dX10_climber_1 : decode cX10_climber 1 = .ok (.iconst 0, 1) := by decide +kernel
theorem dX10_climber_2 : decode cX10_climber 2 = .ok (.iconst 3, 1) := by decide +kernel
theorem dX10_climber_3 : decode cX10_climber 3 = .ok (.invokestatic 76, 3) := by decide +kernel
theorem dX10_climber_6 : decode cX10_climber 6 = .ok (.ifCond .eq 28, 3) := by decide +kernel
theorem dX10_climber_9 : decode cX10_climber 9 = .ok (.iconst 1, 1) := by decide +kernel
theorem dX10_climber_10 : decode cX10_climber 10 = .ok (.iload_n 2, 1) := by decide +kernel
theorem dX10_climber_11 : decode cX10_climber 11 = .ok (.invokestatic 95, 3) := by decide +kernel
theorem dX10_climber_14 : decode cX10_climber 14 = .ok (.ifCond .eq 20, 3) := by decide +kernel
theorem dX10_climber_17 : decode cX10_climber 17 = .ok (.iconst 2, 1) := by decide +kernel
theorem dX10_climber_18 : decode cX10_climber 18 = .ok (.iload_n 3, 1) := by decide +kernel
theorem dX10_climber_19 : decode cX10_climber 19 = .ok (.invokestatic 95, 3) := by decide +kernel
theorem dX10_climber_22 : decode cX10_climber 22 = .ok (.ifCond .eq 12, 3) := by decide +kernel
theorem dX10_climber_25 : decode cX10_climber 25 = .ok (.iconst 3, 1) := by decide +kernel
theorem dX10_climber_26 : decode cX10_climber 26 = .ok (.iload 4, 2) := by decide +kernel
theorem dX10_climber_28 : decode cX10_climber 28 = .ok (.invokestatic 95, 3) := by decide +kernel
theorem dX10_climber_31 : decode cX10_climber 31 = .ok (.ifCond .ne 5, 3) := by decide +kernel
theorem dX10_climber_34 : decode cX10_climber 34 = .ok (.iconst (-1), 1) := by decide +kernel
theorem dX10_climber_35 : decode cX10_climber 35 = .ok (.ireturn, 1) := by decide +kernel
theorem dX10_climber_36 : decode cX10_climber 36 = .ok (.aload_n 0, 1) := by decide +kernel
theorem dX10_climber_37 : decode cX10_climber 37 = .ok (.getfield 12, 3) := by decide +kernel
theorem dX10_climber_40 : decode cX10_climber 40 = .ok (.getfield 99, 3) := by decide +kernel
theorem dX10_climber_43 : decode cX10_climber 43 = .ok (.iconst 5, 1) := by decide +kernel
theorem dX10_climber_44 : decode cX10_climber 44 = .ok (.if_icmp .lt 8, 3) := by decide +kernel
theorem dX10_climber_47 : decode cX10_climber 47 = .ok (.bipush (-3), 2) := by decide +kernel
theorem dX10_climber_49 : decode cX10_climber 49 = .ok (.goto 15, 3) := by decide +kernel
theorem dX10_climber_52 : decode cX10_climber 52 = .ok (.aload_n 0, 1) := by decide +kernel
theorem dX10_climber_53 : decode cX10_climber 53 = .ok (.getfield 12, 3) := by decide +kernel
theorem dX10_climber_56 : decode cX10_climber 56 = .ok (.iload_n 1, 1) := by decide +kernel
theorem dX10_climber_57 : decode cX10_climber 57 = .ok (.iload_n 2, 1) := by decide +kernel
theorem dX10_climber_58 : decode cX10_climber 58 = .ok (.iload_n 3, 1) := by decide +kernel
theorem dX10_climber_59 : decode cX10_climber 59 = .ok (.iload 4, 2) := by decide +kernel
theorem dX10_climber_61 : decode cX10_climber 61 = .ok (.invokevirtual 102, 3) := by decide +kernel
theorem dX10_climber_64 : decode cX10_climber 64 = .ok (.ireturn, 1) := by decide +kernel
theorem dX10_set_0 : decode cX10_set 0 = .ok (.aload_n 0, 1) := by decide +kernel
theorem dX10_set_1 : decode cX10_set 1 = .ok (.getfield 12, 3) := by decide +kernel
theorem dX10_set_4 : decode cX10_set 4 = .ok (.iload_n 1, 1) := by decide +kernel
theorem dX10_set_5 : decode cX10_set 5 = .ok (.invokevirtual 106, 3) := by decide +kernel
theorem dX10_set_8 : decode cX10_set 8 = .ok (.ifCond .eq 11, 3) := by decide +kernel
theorem dX10_set_11 : decode cX10_set 11 = .ok (.iload_n 2, 1) := by decide +kernel
theorem dX10_set_12 : decode cX10_set 12 = .ok (.iload_n 3, 1) := by decide +kernel
theorem dX10_set_13 : decode cX10_set 13 = .ok (.invokestatic 95, 3) := by decide +kernel
theorem dX10_set_16 : decode cX10_set 16 = .ok (.ifCond .ne 5, 3) := by decide +kernel
theorem dX10_set_19 : decode cX10_set 19 = .ok (.iconst (-1), 1) := by decide +kernel
theorem dX10_set_20 : decode cX10_set 20 = .ok (.ireturn, 1) := by decide +kernel
theorem dX10_set_21 : decode cX10_set 21 = .ok (.aload_n 0, 1) := by decide +kernel
theorem dX10_set_22 : decode cX10_set 22 = .ok (.getfield 12, 3) := by decide +kernel
theorem dX10_set_25 : decode cX10_set 25 = .ok (.getfield 109, 3) := by decide +kernel
theorem dX10_set_28 : decode cX10_set 28 = .ok (.iload_n 1, 1) := by decide +kernel
theorem dX10_set_29 : decode cX10_set 29 = .ok (.aaload, 1) := by decide +kernel
theorem dX10_set_30 : decode cX10_set 30 = .ok (.astore 4, 2) := by decide +kernel
theorem dX10_set_32 : decode cX10_set 32 = .ok (.aload 4, 2) := by decide +kernel
theorem dX10_set_34 : decode cX10_set 34 = .ok (.iload_n 2, 1) := by decide +kernel
theorem dX10_set_35 : decode cX10_set 35 = .ok (.invokevirtual 113, 3) := by decide +kernel
theorem dX10_set_38 : decode cX10_set 38 = .ok (.istore 5, 2) := by decide +kernel
theorem dX10_set_40 : decode cX10_set 40 = .ok (.aload 4, 2) := by decide +kernel
theorem dX10_set_42 : decode cX10_set 42 = .ok (.iload_n 2, 1) := by decide +kernel
theorem dX10_set_43 : decode cX10_set 43 = .ok (.iload_n 3, 1) := by decide +kernel
theorem dX10_set_44 : decode cX10_set 44 = .ok (.invokevirtual 118, 3) := by decide +kernel
theorem dX10_set_47 : decode cX10_set 47 = .ok (.iload 5, 2) := by decide +kernel
theorem dX10_set_49 : decode cX10_set 49 = .ok (.ireturn, 1) := by decide +kernel
theorem dX10_told_0 : decode cX10_told 0 = .ok (.aload_n 0, 1) := by decide +kernel
theorem dX10_told_1 : decode cX10_told 1 = .ok (.getfield 12, 3) := by decide +kernel
theorem dX10_told_4 : decode cX10_told 4 = .ok (.iload_n 1, 1) := by decide +kernel
theorem dX10_told_5 : decode cX10_told 5 = .ok (.invokevirtual 106, 3) := by decide +kernel
theorem dX10_told_8 : decode cX10_told 8 = .ok (.ifCond .eq 28, 3) := by decide +kernel
theorem dX10_told_11 : decode cX10_told 11 = .ok (.iload_n 2, 1) := by decide +kernel
theorem dX10_told_12 : decode cX10_told 12 = .ok (.iconst 0, 1) := by decide +kernel
theorem dX10_told_13 : decode cX10_told 13 = .ok (.iconst 4, 1) := by decide +kernel
theorem dX10_told_14 : decode cX10_told 14 = .ok (.invokestatic 76, 3) := by decide +kernel
theorem dX10_told_17 : decode cX10_told 17 = .ok (.ifCond .eq 19, 3) := by decide +kernel
theorem dX10_told_20 : decode cX10_told 20 = .ok (.aload_n 0, 1) := by decide +kernel
theorem dX10_told_21 : decode cX10_told 21 = .ok (.getfield 12, 3) := by decide +kernel
theorem dX10_told_24 : decode cX10_told 24 = .ok (.getfield 109, 3) := by decide +kernel
theorem dX10_told_27 : decode cX10_told 27 = .ok (.iload_n 1, 1) := by decide +kernel
theorem dX10_told_28 : decode cX10_told 28 = .ok (.aaload, 1) := by decide +kernel
theorem dX10_told_29 : decode cX10_told 29 = .ok (.iload_n 2, 1) := by decide +kernel
theorem dX10_told_30 : decode cX10_told 30 = .ok (.invokevirtual 113, 3) := by decide +kernel
theorem dX10_told_33 : decode cX10_told 33 = .ok (.goto 4, 3) := by decide +kernel
theorem dX10_told_36 : decode cX10_told 36 = .ok (.iconst (-1), 1) := by decide +kernel
theorem dX10_told_37 : decode cX10_told 37 = .ok (.ireturn, 1) := by decide +kernel
theorem dX10_of_0 : decode cX10_of 0 = .ok (.aload_n 0, 1) := by decide +kernel
theorem dX10_of_1 : decode cX10_of 1 = .ok (.getfield 12, 3) := by decide +kernel
