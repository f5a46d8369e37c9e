theorem dX11_canSend_0 : decode cX11_canSend 0 = .ok (.iload_n 3, 1) := by decide +kernel
theorem dX11_canSend_1 : decode cX11_canSend 1 = .ok (.iconst 5, 1) := by decide +kernel
theorem dX11_canSend_2 : decode cX11_canSend 2 = .ok (.idiv, 1) := by decide +kernel
theorem dX11_canSend_3 : decode cX11_canSend 3 = .ok (.istore 4, 2) := by decide +kernel
theorem dX11_canSend_5 : decode cX11_canSend 5 = .ok (.iload_n 3, 1) := by decide +kernel
theorem dX11_canSend_6 : decode cX11_canSend 6 = .ok (.iconst 5, 1) := by decide +kernel
theorem dX11_canSend_7 : decode cX11_canSend 7 = .ok (.irem, 1) := by decide +kernel
theorem dX11_canSend_8 : decode cX11_canSend 8 = .ok (.istore 5, 2) := by decide +kernel
theorem dX11_canSend_10 : decode cX11_canSend 10 = .ok (.aload_n 0, 1) := by decide +kernel
theorem dX11_canSend_11 : decode cX11_canSend 11 = .ok (.iload 5, 2) := by decide +kernel
theorem dX11_canSend_13 : decode cX11_canSend 13 = .ok (.invokevirtual 71, 3) := by decide +kernel
theorem dX11_canSend_16 : decode cX11_canSend 16 = .ok (.ifCond .eq 28, 3) := by decide +kernel
theorem dX11_canSend_19 : decode cX11_canSend 19 = .ok (.iload_n 2, 1) := by decide +kernel
theorem dX11_canSend_20 : decode cX11_canSend 20 = .ok (.iload 5, 2) := by decide +kernel
theorem dX11_canSend_22 : decode cX11_canSend 22 = .ok (.invokestatic 88, 3) := by decide +kernel
theorem dX11_canSend_25 : decode cX11_canSend 25 = .ok (.iload_n 1, 1) := by decide +kernel
theorem dX11_canSend_26 : decode cX11_canSend 26 = .ok (.sipush 2048, 3) := by decide +kernel
theorem dX11_canSend_29 : decode cX11_canSend 29 = .ok (.if_icmp .ge 7, 3) := by decide +kernel
theorem dX11_canSend_32 : decode cX11_canSend 32 = .ok (.iconst 1, 1) := by decide +kernel
theorem dX11_canSend_33 : decode cX11_canSend 33 = .ok (.goto 4, 3) := by decide +kernel
theorem dX11_canSend_36 : decode cX11_canSend 36 = .ok (.iconst 0, 1) := by decide +kernel
theorem dX11_canSend_37 : decode cX11_canSend 37 = .ok (.if_icmp .ne 7, 3) := by decide +kernel
theorem dX11_canSend_40 : decode cX11_canSend 40 = .ok (.iconst 1, 1) := by decide +kernel
theorem dX11_canSend_41 : decode cX11_canSend 41 = .ok (.goto 4, 3) := by decide +kernel
theorem dX11_canSend_44 : decode cX11_canSend 44 = .ok (.iconst 0, 1) := by decide +kernel
theorem dX11_canSend_45 : decode cX11_canSend 45 = .ok (.istore 6, 2) := by decide +kernel
theorem dX11_canSend_47 : decode cX11_canSend 47 = .ok (.iload 6, 2) := by decide +kernel
theorem dX11_canSend_49 : decode cX11_canSend 49 = .ok (.ifCond .eq 74, 3) := by decide +kernel
theorem dX11_canSend_52 : decode cX11_canSend 52 = .ok (.iload 4, 2) := by decide +kernel
theorem dX11_canSend_54 : decode cX11_canSend 54 = .ok (.aload_n 0, 1) := by decide +kernel
theorem dX11_canSend_55 : decode cX11_canSend 55 = .ok (.getfield 7, 3) := by decide +kernel
theorem dX11_canSend_58 : decode cX11_canSend 58 = .ok (.iconst 0, 1) := by decide +kernel
theorem dX11_canSend_59 : decode cX11_canSend 59 = .ok (.iaload, 1) := by decide +kernel
theorem dX11_canSend_60 : decode cX11_canSend 60 = .ok (.if_icmp .ge 63, 3) := by decide +kernel
theorem dX11_canSend_63 : decode cX11_canSend 63 = .ok (.iload_n 1, 1) := by decide +kernel
theorem dX11_canSend_64 : decode cX11_canSend 64 = .ok (.invokestatic 190, 3) := by decide +kernel
theorem dX11_canSend_67 : decode cX11_canSend 67 = .ok (.iload 4, 2) := by decide +kernel
theorem dX11_canSend_69 : decode cX11_canSend 69 = .ok (.invokestatic 88, 3) := by decide +kernel
theorem dX11_canSend_72 : decode cX11_canSend 72 = .ok (.ifCond .ne 51, 3) := by decide +kernel
theorem dX11_canSend_75 : decode cX11_canSend 75 = .ok (.aload_n 0, 1) := by decide +kernel
theorem dX11_canSend_76 : decode cX11_canSend 76 = .ok (.getfield 7, 3) := by decide +kernel
theorem dX11_canSend_79 : decode cX11_canSend 79 = .ok (.bipush 37, 2) := by decide +kernel
theorem dX11_canSend_81 : decode cX11_canSend 81 = .ok (.iload 4, 2) := by decide +kernel
theorem dX11_canSend_83 : decode cX11_canSend 83 = .ok (.iadd, 1) := by decide +kernel
theorem dX11_canSend_84 : decode cX11_canSend 84 = .ok (.iaload, 1) := by decide +kernel
theorem dX11_canSend_85 : decode cX11_canSend 85 = .ok (.iload 5, 2) := by decide +kernel
theorem dX11_canSend_87 : decode cX11_canSend 87 = .ok (.invokestatic 88, 3) := by decide +kernel
theorem dX11_canSend_90 : decode cX11_canSend 90 = .ok (.ifCond .ne 33, 3) := by decide +kernel
theorem dX11_canSend_93 : decode cX11_canSend 93 = .ok (.aload_n 0, 1) := by decide +kernel
theorem dX11_canSend_94 : decode cX11_canSend 94 = .ok (.getfield 7, 3) := by decide +kernel
theorem dX11_canSend_97 : decode cX11_canSend 97 = .ok (.bipush 44, 2) := by decide +kernel
theorem dX11_canSend_99 : decode cX11_canSend 99 = .ok (.iload 5, 2) := by decide +kernel
theorem dX11_canSend_101 : decode cX11_canSend 101 = .ok (.iadd, 1) := by decide +kernel
theorem dX11_canSend_102 : decode cX11_canSend 102 = .ok (.iaload, 1) := by decide +kernel
theorem dX11_canSend_103 : decode cX11_canSend 103 = .ok (.iconst 2, 1) := by decide +kernel
theorem dX11_canSend_104 : decode cX11_canSend 104 = .ok (.if_icmp .eq 15, 3) := by decide +kernel
theorem dX11_canSend_107 : decode cX11_canSend 107 = .ok (.iload_n 1, 1) := by decide +kernel
theorem dX11_canSend_108 : decode cX11_canSend 108 = .ok (.invokestatic 193, 3) := by decide +kernel
theorem dX11_canSend_111 : decode cX11_canSend 111 = .ok (.iload 5, 2) := by decide +kernel
theorem dX11_canSend_113 : decode cX11_canSend 113 = .ok (.invokestatic 88, 3) := by decide +kernel
theorem dX11_canSend_116 : decode cX11_canSend 116 = .ok (.ifCond .ne 7, 3) := by decide +kernel
theorem dX11_canSend_119 : decode cX11_canSend 119 = .ok (.iconst 1, 1) := by decide +kernel
theorem dX11_canSend_120 : decode cX11_canSend 120 = .ok (.goto 4, 3) := by decide +kernel
theorem dX11_canSend_123 : decode cX11_canSend 123 = .ok (.iconst 0, 1) := by decide +kernel
theorem dX11_canSend_124 : decode cX11_canSend 124 = .ok (.ireturn, 1) := by decide +kernel
theorem dX11_canAny_0 : decode cX11_canAny 0 = .ok (.iconst 0, 1) := by decide +kernel
theorem dX11_canAny_1 : decode cX11_canAny 1 = .ok (.istore_n 3, 1) := by decide +kernel
theorem dX11_canAny_2 : decode cX11_canAny 2 = .ok (.iconst 0, 1) := by decide +kernel
theorem dX11_canAny_3 : decode cX11_canAny 3 = .ok (.istore 4, 2) := by decide +kernel
theorem dX11_canAny_5 : decode cX11_canAny 5 = .ok (.iload 4, 2) := by decide +kernel
theorem dX11_canAny_7 : decode cX11_canAny 7 = .ok (.bipush 30, 2) := by decide +kernel
theorem dX11_canAny_9 : decode cX11_canAny 9 = .ok (.if_icmp .ge 30, 3) := by decide +kernel
theorem dX11_canAny_12 : decode cX11_canAny 12 = .ok (.iload_n 3, 1) := by decide +kernel
theorem dX11_canAny_13 : decode cX11_canAny 13 = .ok (.ifCond .ne 14, 3) := by decide +kernel
theorem dX11_canAny_16 : decode cX11_canAny 16 = .ok (.aload_n 0, 1) := by decide +kernel
theorem dX11_canAny_17 : decode cX11_canAny 17 = .ok (.iload_n 1, 1) := by decide +kernel
theorem dX11_canAny_18 : decode cX11_canAny 18 = .ok (.iload_n 2, 1) := by decide +kernel
theorem dX11_canAny_19 : decode cX11_canAny 19 = .ok (.iload 4, 2) := by decide +kernel
theorem dX11_canAny_21 : decode cX11_canAny 21 = .ok (.invokevirtual 196, 3) := by decide +kernel
theorem dX11_canAny_24 : decode cX11_canAny 24 = .ok (.ifCond .eq 7, 3) := by decide +kernel
theorem dX11_canAny_27 : decode cX11_canAny 27 = .ok (.iconst 1, 1) := by decide +kernel
theorem dX11_canAny_28 : decode cX11_canAny 28 = .ok (.goto 4, 3) := by decide +kernel
theorem dX11_canAny_31 : decode cX11_canAny 31 = .ok (.iconst 0, 1) := by decide +kernel
theorem dX11_canAny_32 : decode cX11_canAny 32 = .ok (.istore_n 3, 1) := by decide +kernel
theorem dX11_canAny_33 : decode cX11_canAny 33 = .ok (.iinc 4 1, 3) := by decide +kernel
theorem dX11_canAny_36 : decode cX11_canAny 36 = .ok (.goto (-31), 3) := by decide +kernel
theorem dX11_canAny_39 : decode cX11_canAny 39 = .ok (.iload_n 3, 1) := by decide +kernel
theorem dX11_canAny_40 : decode cX11_canAny 40 = .ok (.ireturn, 1) := by decide +kernel
theorem dX11_behind_0 : decode cX11_behind 0 = .ok (.iload_n 0, 1) := by decide +kernel
theorem dX11_behind_1 : decode cX11_behind 1 = .ok (.sipush 2048, 3) := by decide +kernel
theorem dX11_behind_4 : decode cX11_behind 4 = .ok (.ixor, 1) := by decide +kernel
theorem dX11_behind_5 : decode cX11_behind 5 = .ok (.istore_n 2, 1) := by decide +kernel
theorem dX11_behind_6 : decode cX11_behind 6 = .ok (.iload_n 1, 1) := by decide +kernel
theorem dX11_behind_7 : decode cX11_behind 7 = .ok (.bipush 30, 2) := by decide +kernel
theorem dX11_behind_9 : decode cX11_behind 9 = .ok (.if_icmp .ne 7, 3) := by decide +kernel
theorem dX11_behind_12 : decode cX11_behind 12 = .ok (.iload_n 2, 1) := by decide +kernel
theorem dX11_behind_13 : decode cX11_behind 13 = .ok (.goto 17, 3) := by decide +kernel
theorem dX11_behind_16 : decode cX11_behind 16 = .ok (.iload_n 2, 1) := by decide +kernel
theorem dX11_behind_17 : decode cX11_behind 17 = .ok (.iconst 1, 1) := by decide +kernel
theorem dX11_behind_18 : decode cX11_behind 18 = .ok (.iload_n 1, 1) := by decide +kernel
theorem dX11_behind_19 : decode cX11_behind 19 = .ok (.iconst 5, 1) := by decide +kernel
theorem dX11_behind_20 : decode cX11_behind 20 = .ok (.idiv, 1) := by decide +kernel
theorem dX11_behind_21 : decode cX11_behind 21 = .ok (.ishl, 1) := by decide +kernel
theorem dX11_behind_22 : decode cX11_behind 22 = .ok (.ior, 1) := by decide +kernel
theorem dX11_behind_23 : decode cX11_behind 23 = .ok (.bipush 64, 2) := by decide +kernel
theorem dX11_behind_25 : decode cX11_behind 25 = .ok (.iload_n 1, 1) := by decide +kernel
theorem dX11_behind_26 : decode cX11_behind 26 = .ok (.iconst 5, 1) := by decide +kernel
theorem dX11_behind_27 : decode cX11_behind 27 = .ok (.irem, 1) := by decide +kernel
theorem dX11_behind_28 : decode cX11_behind 28 = .ok (.ishl, 1) := by decide +kernel
theorem dX11_behind_29 : decode cX11_behind 29 = .ok (.ior, 1) := by decide +kernel
theorem dX11_behind_30 : decode cX11_behind 30 = .ok (.ireturn, 1) := by decide +kernel
theorem dX11_sentFor_0 : decode cX11_sentFor 0 = .ok (.aload_n 0, 1) := by decide +kernel
theorem dX11_sentFor_1 : decode cX11_sentFor 1 = .ok (.getfield 22, 3) := by decide +kernel
theorem dX11_sentFor_4 : decode cX11_sentFor 4 = .ok (.bipush 6, 2) := by decide +kernel
theorem dX11_sentFor_6 : decode cX11_sentFor 6 = .ok (.iload_n 2, 1) := by decide +kernel
theorem dX11_sentFor_7 : decode cX11_sentFor 7 = .ok (.iconst 5, 1) := by decide +kernel
theorem dX11_sentFor_8 : decode cX11_sentFor 8 = .ok (.idiv, 1) := by decide +kernel
theorem dX11_sentFor_9 : decode cX11_sentFor 9 = .ok (.imul, 1) := by decide +kernel
theorem dX11_sentFor_10 : decode cX11_sentFor 10 = .ok (.iload_n 2, 1) := by decide +kernel
theorem dX11_sentFor_11 : decode cX11_sentFor 11 = .ok (.iconst 5, 1) := by decide +kernel
theorem dX11_sentFor_12 : decode cX11_sentFor 12 = .ok (.irem, 1) := by decide +kernel
theorem dX11_sentFor_13 : decode cX11_sentFor 13 = .ok (.iadd, 1) := by decide +kernel
theorem dX11_sentFor_14 : decode cX11_sentFor 14 = .ok (.iaload, 1) := by decide +kernel
theorem dX11_sentFor_15 : decode cX11_sentFor 15 = .ok (.istore_n 3, 1) := by decide +kernel
theorem dX11_sentFor_16 : decode cX11_sentFor 16 = .ok (.iload_n 1, 1) := by decide +kernel
theorem dX11_sentFor_17 : decode cX11_sentFor 17 = .ok (.sipush 2048, 3) := by decide +kernel
theorem dX11_sentFor_20 : decode cX11_sentFor 20 = .ok (.if_icmp .ge 7, 3) := by decide +kernel
theorem dX11_sentFor_23 : decode cX11_sentFor 23 = .ok (.iload_n 3, 1) := by decide +kernel
theorem dX11_sentFor_24 : decode cX11_sentFor 24 = .ok (.goto 5, 3) := by decide +kernel
theorem dX11_sentFor_27 : decode cX11_sentFor 27 = .ok (.iload_n 3, 1) := by decide +kernel
theorem dX11_sentFor_28 : decode cX11_sentFor 28 = .ok (.ineg, 1) := by decide +kernel
theorem dX11_sentFor_29 : decode cX11_sentFor 29 = .ok (.ireturn, 1) := by decide +kernel
theorem dX11_knows_0 : decode cX11_knows 0 = .ok (.iload_n 1, 1) := by decide +kernel
theorem dX11_knows_1 : decode cX11_knows 1 = .ok (.sipush 2048, 3) := by decide +kernel
theorem dX11_knows_4 : decode cX11_knows 4 = .ok (.if_icmp .ge 8, 3) := by decide +kernel
theorem dX11_knows_7 : decode cX11_knows 7 = .ok (.ldc 169, 2) := by decide +kernel
theorem dX11_knows_9 : decode cX11_knows 9 = .ok (.goto 5, 3) := by decide +kernel
theorem dX11_knows_12 : decode cX11_knows 12 = .ok (.ldc 200, 2) := by decide +kernel
theorem dX11_knows_14 : decode cX11_knows 14 = .ok (.istore_n 3, 1) := by decide +kernel
theorem dX11_knows_15 : decode cX11_knows 15 = .ok (.aload_n 0, 1) := by decide +kernel
theorem dX11_knows_16 : decode cX11_knows 16 = .ok (.iload_n 1, 1) := by decide +kernel
theorem dX11_knows_17 : decode cX11_knows 17 = .ok (.iload_n 2, 1) := by decide +kernel
theorem dX11_knows_18 : decode cX11_knows 18 = .ok (.invokevirtual 201, 3) := by decide +kernel
theorem dX11_knows_21 : decode cX11_knows 21 = .ok (.istore 4, 2) := by decide +kernel
theorem dX11_knows_23 : decode cX11_knows 23 = .ok (.iconst 0, 1) := by decide +kernel
theorem dX11_knows_24 : decode cX11_knows 24 = .ok (.istore 5, 2) := by decide +kernel
theorem dX11_knows_26 : decode cX11_knows 26 = .ok (.iload 5, 2) := by decide +kernel
theorem dX11_knows_28 : decode cX11_knows 28 = .ok (.bipush 30, 2) := by decide +kernel
theorem dX11_knows_30 : decode cX11_knows 30 = .ok (.if_icmp .ge 98, 3) := by decide +kernel
theorem dX11_knows_33 : decode cX11_knows 33 = .ok (.iload 4, 2) := by decide +kernel
theorem dX11_knows_35 : decode cX11_knows 35 = .ok (.ifCond .eq 93, 3) := by decide +kernel
theorem dX11_knows_38 : decode cX11_knows 38 = .ok (.aload_n 0, 1) := by decide +kernel
theorem dX11_knows_39 : decode cX11_knows 39 = .ok (.iload_n 1, 1) := by decide +kernel
theorem dX11_knows_40 : decode cX11_knows 40 = .ok (.iload_n 2, 1) := by decide +kernel
theorem dX11_knows_41 : decode cX11_knows 41 = .ok (.iload 5, 2) := by decide +kernel
theorem dX11_knows_43 : decode cX11_knows 43 = .ok (.invokevirtual 196, 3) := by decide +kernel
theorem dX11_knows_46 : decode cX11_knows 46 = .ok (.ifCond .eq 76, 3) := by decide +kernel
theorem dX11_knows_49 : decode cX11_knows 49 = .ok (.iload_n 1, 1) := by decide +kernel
theorem dX11_knows_50 : decode cX11_knows 50 = .ok (.iload 5, 2) := by decide +kernel
theorem dX11_knows_52 : decode cX11_knows 52 = .ok (.invokestatic 204, 3) := by decide +kernel
theorem dX11_knows_55 : decode cX11_knows 55 = .ok (.istore 6, 2) := by decide +kernel
theorem dX11_knows_57 : decode cX11_knows 57 = .ok (.aload_n 0, 1) := by decide +kernel
theorem dX11_knows_58 : decode cX11_knows 58 = .ok (.getfield 28, 3) := by decide +kernel
theorem dX11_knows_61 : decode cX11_knows 61 = .ok (.iload 6, 2) := by decide +kernel
theorem dX11_knows_63 : decode cX11_knows 63 = .ok (.baload, 1) := by decide +kernel
theorem dX11_knows_64 : decode cX11_knows 64 = .ok (.ifCond .ne 6, 3) := by decide +kernel
theorem dX11_knows_67 : decode cX11_knows 67 = .ok (.iload 6, 2) := by decide +kernel
theorem dX11_knows_69 : decode cX11_knows 69 = .ok (.ireturn, 1) := by decide +kernel
theorem dX11_knows_70 : decode cX11_knows 70 = .ok (.aload_n 0, 1) := by decide +kernel
theorem dX11_knows_71 : decode cX11_knows 71 = .ok (.iload_n 1, 1) := by decide +kernel
theorem dX11_knows_72 : decode cX11_knows 72 = .ok (.iload 5, 2) := by decide +kernel
theorem dX11_knows_74 : decode cX11_knows 74 = .ok (.invokevirtual 207, 3) := by decide +kernel
theorem dX11_knows_77 : decode cX11_knows 77 = .ok (.aload_n 0, 1) := by decide +kernel
theorem dX11_knows_78 : decode cX11_knows 78 = .ok (.getfield 25, 3) := by decide +kernel
theorem dX11_knows_81 : decode cX11_knows 81 = .ok (.iload 6, 2) := by decide +kernel
theorem dX11_knows_83 : decode cX11_knows 83 = .ok (.iaload, 1) := by decide +kernel
theorem dX11_knows_84 : decode cX11_knows 84 = .ok (.iadd, 1) := by decide +kernel
theorem dX11_knows_85 : decode cX11_knows 85 = .ok (.istore 7, 2) := by decide +kernel
theorem dX11_knows_87 : decode cX11_knows 87 = .ok (.iload_n 1, 1) := by decide +kernel
theorem dX11_knows_88 : decode cX11_knows 88 = .ok (.sipush 2048, 3) := by decide +kernel
theorem dX11_knows_91 : decode cX11_knows 91 = .ok (.if_icmp .ge 18, 3) := by decide +kernel
theorem dX11_knows_94 : decode cX11_knows 94 = .ok (.iload 7, 2) := by decide +kernel
theorem dX11_knows_96 : decode cX11_knows 96 = .ok (.iload_n 3, 1) := by decide +kernel
theorem dX11_knows_97 : decode cX11_knows 97 = .ok (.if_icmp .le 8, 3) := by decide +kernel
theorem dX11_knows_100 : decode cX11_knows 100 = .ok (.iload 7, 2) := by decide +kernel
theorem dX11_knows_102 : decode cX11_knows 102 = .ok (.goto 19, 3) := by decide +kernel
theorem dX11_knows_105 : decode cX11_knows 105 = .ok (.iload_n 3, 1) := by decide +kernel
theorem dX11_knows_106 : decode cX11_knows 106 = .ok (.goto 15, 3) := by decide +kernel
theorem dX11_knows_109 : decode cX11_knows 109 = .ok (.iload 7, 2) := by decide +kernel
theorem dX11_knows_111 : decode cX11_knows 111 = .ok (.iload_n 3, 1) := by decide +kernel
theorem dX11_knows_112 : decode cX11_knows 112 = .ok (.if_icmp .ge 8, 3) := by decide +kernel
theorem dX11_knows_115 : decode cX11_knows 115 = .ok (.iload 7, 2) := by decide +kernel
theorem dX11_knows_117 : decode cX11_knows 117 = .ok (.goto 4, 3) := by decide +kernel
theorem dX11_knows_120 : decode cX11_knows 120 = .ok (.iload_n 3, 1) := by decide +kernel
theorem dX11_knows_121 : decode cX11_knows 121 = .ok (.istore_n 3, 1) := by decide +kernel
theorem dX11_knows_122 : decode cX11_knows 122 = .ok (.iinc 5 1, 3) := by decide +kernel
theorem dX11_knows_125 : decode cX11_knows 125 = .ok (.goto (-99), 3) := by decide +kernel
theorem dX11_knows_128 : decode cX11_knows 128 = .ok (.iload_n 1, 1) := by decide +kernel
theorem dX11_knows_129 : decode cX11_knows 129 = .ok (.bipush 30, 2) := by decide +kernel
theorem dX11_knows_131 : decode cX11_knows 131 = .ok (.invokestatic 204, 3) := by decide +kernel
theorem dX11_knows_134 : decode cX11_knows 134 = .ok (.istore 5, 2) := by decide +kernel
theorem dX11_knows_136 : decode cX11_knows 136 = .ok (.iload 4, 2) := by decide +kernel
theorem dX11_knows_138 : decode cX11_knows 138 = .ok (.ifCond .ne 37, 3) := by decide +kernel
theorem dX11_knows_141 : decode cX11_knows 141 = .ok (.aload_n 0, 1) := by decide +kernel
theorem dX11_knows_142 : decode cX11_knows 142 = .ok (.iload 5, 2) := by decide +kernel
theorem dX11_knows_144 : decode cX11_knows 144 = .ok (.iload_n 2, 1) := by decide +kernel
theorem dX11_knows_145 : decode cX11_knows 145 = .ok (.invokevirtual 201, 3) := by decide +kernel
theorem dX11_knows_148 : decode cX11_knows 148 = .ok (.ifCond .eq 27, 3) := by decide +kernel
theorem dX11_knows_151 : decode cX11_knows 151 = .ok (.aload_n 0, 1) := by decide +kernel
theorem dX11_knows_152 : decode cX11_knows 152 = .ok (.getfield 28, 3) := by decide +kernel
theorem dX11_knows_155 : decode cX11_knows 155 = .ok (.iload 5, 2) := by decide +kernel
theorem dX11_knows_157 : decode cX11_knows 157 = .ok (.baload, 1) := by decide +kernel
theorem dX11_knows_158 : decode cX11_knows 158 = .ok (.ifCond .ne 6, 3) := by decide +kernel
theorem dX11_knows_161 : decode cX11_knows 161 = .ok (.iload 5, 2) := by decide +kernel
theorem dX11_knows_163 : decode cX11_knows 163 = .ok (.ireturn, 1) := by decide +kernel
theorem dX11_knows_164 : decode cX11_knows 164 = .ok (.aload_n 0, 1) := by decide +kernel
theorem dX11_knows_165 : decode cX11_knows 165 = .ok (.getfield 25, 3) := by decide +kernel
theorem dX11_knows_168 : decode cX11_knows 168 = .ok (.iload 5, 2) := by decide +kernel
theorem dX11_knows_170 : decode cX11_knows 170 = .ok (.iaload, 1) := by decide +kernel
theorem dX11_knows_171 : decode cX11_knows 171 = .ok (.istore_n 3, 1) := by decide +kernel
theorem dX11_knows_172 : decode cX11_knows 172 = .ok (.goto 10, 3) := by decide +kernel
theorem dX11_knows_175 : decode cX11_knows 175 = .ok (.iload 4, 2) := by decide +kernel
theorem dX11_knows_177 : decode cX11_knows 177 = .ok (.ifCond .ne 5, 3) := by decide +kernel
theorem dX11_knows_180 : decode cX11_knows 180 = .ok (.iconst 0, 1) := by decide +kernel
theorem dX11_knows_181 : decode cX11_knows 181 = .ok (.istore_n 3, 1) := by decide +kernel
theorem dX11_knows_182 : decode cX11_knows 182 = .ok (.aload_n 0, 1) := by decide +kernel
theorem dX11_knows_183 : decode cX11_knows 183 = .ok (.getfield 25, 3) := by decide +kernel
theorem dX11_knows_186 : decode cX11_knows 186 = .ok (.iload_n 1, 1) := by decide +kernel
theorem dX11_knows_187 : decode cX11_knows 187 = .ok (.iload_n 3, 1) := by decide +kernel
theorem dX11_knows_188 : decode cX11_knows 188 = .ok (.iastore, 1) := by decide +kernel
theorem dX11_knows_189 : decode cX11_knows 189 = .ok (.aload_n 0, 1) := by decide +kernel
theorem dX11_knows_190 : decode cX11_knows 190 = .ok (.getfield 28, 3) := by decide +kernel
theorem dX11_knows_193 : decode cX11_knows 193 = .ok (.iload_n 1, 1) := by decide +kernel
theorem dX11_knows_194 : decode cX11_knows 194 = .ok (.iconst 1, 1) := by decide +kernel
theorem dX11_knows_195 : decode cX11_knows 195 = .ok (.bastore, 1) := by decide +kernel
theorem dX11_knows_196 : decode cX11_knows 196 = .ok (.iconst (-1), 1) := by decide +kernel
theorem dX11_knows_197 : decode cX11_knows 197 = .ok (.ireturn, 1) := by decide +kernel
theorem dX11_gameOf_0 : decode cX11_gameOf 0 = .ok (.aload_n 0, 1) := by decide +kernel
theorem dX11_gameOf_1 : decode cX11_gameOf 1 = .ok (.invokevirtual 166, 3) := by decide +kernel
theorem dX11_gameOf_4 : decode cX11_gameOf 4 = .ok (.iconst 0, 1) := by decide +kernel
theorem dX11_gameOf_5 : decode cX11_gameOf 5 = .ok (.istore_n 2, 1) := by decide +kernel
theorem dX11_gameOf_6 : decode cX11_gameOf 6 = .ok (.iload_n 2, 1) := by decide +kernel
theorem dX11_gameOf_7 : decode cX11_gameOf 7 = .ok (.sipush 4096, 3) := by decide +kernel
theorem dX11_gameOf_10 : decode cX11_gameOf 10 = .ok (.if_icmp .ge 16, 3) := by decide +kernel
theorem dX11_gameOf_13 : decode cX11_gameOf 13 = .ok (.aload_n 0, 1) := by decide +kernel
theorem dX11_gameOf_14 : decode cX11_gameOf 14 = .ok (.getfield 28, 3) := by decide +kernel
theorem dX11_gameOf_17 : decode cX11_gameOf 17 = .ok (.iload_n 2, 1) := by decide +kernel
theorem dX11_gameOf_18 : decode cX11_gameOf 18 = .ok (.iconst 0, 1) := by decide +kernel
theorem dX11_gameOf_19 : decode cX11_gameOf 19 = .ok (.bastore, 1) := by decide +kernel
theorem dX11_gameOf_20 : decode cX11_gameOf 20 = .ok (.iinc 2 1, 3) := by decide +kernel
theorem dX11_gameOf_23 : decode cX11_gameOf 23 = .ok (.goto (-17), 3) := by decide +kernel
theorem dX11_gameOf_26 : decode cX11_gameOf 26 = .ok (.aload_n 0, 1) := by decide +kernel
theorem dX11_gameOf_27 : decode cX11_gameOf 27 = .ok (.getfield 32, 3) := by decide +kernel
theorem dX11_gameOf_30 : decode cX11_gameOf 30 = .ok (.iconst 0, 1) := by decide +kernel
theorem dX11_gameOf_31 : decode cX11_gameOf 31 = .ok (.iconst 0, 1) := by decide +kernel
theorem dX11_gameOf_32 : decode cX11_gameOf 32 = .ok (.iastore, 1) := by decide +kernel
theorem dX11_gameOf_33 : decode cX11_gameOf 33 = .ok (.iconst 0, 1) := by decide +kernel
theorem dX11_gameOf_34 : decode cX11_gameOf 34 = .ok (.istore_n 2, 1) := by decide +kernel
theorem dX11_gameOf_35 : decode cX11_gameOf 35 = .ok (.iload_n 2, 1) := by decide +kernel
theorem dX11_gameOf_36 : decode cX11_gameOf 36 = .ok (.ifCond .lt 41, 3) := by decide +kernel
theorem dX11_gameOf_39 : decode cX11_gameOf 39 = .ok (.aload_n 0, 1) := by decide +kernel
theorem dX11_gameOf_40 : decode cX11_gameOf 40 = .ok (.aload_n 0, 1) := by decide +kernel
theorem dX11_gameOf_41 : decode cX11_gameOf 41 = .ok (.getfield 32, 3) := by decide +kernel
theorem dX11_gameOf_44 : decode cX11_gameOf 44 = .ok (.iload_n 2, 1) := by decide +kernel
theorem dX11_gameOf_45 : decode cX11_gameOf 45 = .ok (.iaload, 1) := by decide +kernel
theorem dX11_gameOf_46 : decode cX11_gameOf 46 = .ok (.iload_n 1, 1) := by decide +kernel
theorem dX11_gameOf_47 : decode cX11_gameOf 47 = .ok (.invokevirtual 210, 3) := by decide +kernel
theorem dX11_gameOf_50 : decode cX11_gameOf 50 = .ok (.istore_n 3, 1) := by decide +kernel
theorem dX11_gameOf_51 : decode cX11_gameOf 51 = .ok (.iload_n 2, 1) := by decide +kernel
theorem dX11_gameOf_52 : decode cX11_gameOf 52 = .ok (.iload_n 3, 1) := by decide +kernel
theorem dX11_gameOf_53 : decode cX11_gameOf 53 = .ok (.ifCond .ge 7, 3) := by decide +kernel
theorem dX11_gameOf_56 : decode cX11_gameOf 56 = .ok (.iconst (-1), 1) := by decide +kernel
theorem dX11_gameOf_57 : decode cX11_gameOf 57 = .ok (.goto 4, 3) := by decide +kernel
theorem dX11_gameOf_60 : decode cX11_gameOf 60 = .ok (.iconst 1, 1) := by decide +kernel
theorem dX11_gameOf_61 : decode cX11_gameOf 61 = .ok (.iadd, 1) := by decide +kernel
theorem dX11_gameOf_62 : decode cX11_gameOf 62 = .ok (.istore_n 2, 1) := by decide +kernel
theorem dX11_gameOf_63 : decode cX11_gameOf 63 = .ok (.iload_n 3, 1) := by decide +kernel
theorem dX11_gameOf_64 : decode cX11_gameOf 64 = .ok (.ifCond .lt 10, 3) := by decide +kernel
theorem dX11_gameOf_67 : decode cX11_gameOf 67 = .ok (.aload_n 0, 1) := by decide +kernel
theorem dX11_gameOf_68 : decode cX11_gameOf 68 = .ok (.getfield 32, 3) := by decide +kernel
theorem dX11_gameOf_71 : decode cX11_gameOf 71 = .ok (.iload_n 2, 1) := by decide +kernel
theorem dX11_gameOf_72 : decode cX11_gameOf 72 = .ok (.iload_n 3, 1) := by decide +kernel
theorem dX11_gameOf_73 : decode cX11_gameOf 73 = .ok (.iastore, 1) := by decide +kernel
theorem dX11_gameOf_74 : decode cX11_gameOf 74 = .ok (.goto (-39), 3) := by decide +kernel
theorem dX11_gameOf_77 : decode cX11_gameOf 77 = .ok (.aload_n 0, 1) := by decide +kernel
theorem dX11_gameOf_78 : decode cX11_gameOf 78 = .ok (.getfield 25, 3) := by decide +kernel
theorem dX11_gameOf_81 : decode cX11_gameOf 81 = .ok (.iconst 0, 1) := by decide +kernel
theorem dX11_gameOf_82 : decode cX11_gameOf 82 = .ok (.iaload, 1) := by decide +kernel
theorem dX11_gameOf_83 : decode cX11_gameOf 83 = .ok (.ireturn, 1) := by decide +kernel
theorem dX11_game_0 : decode cX11_game 0 = .ok (.aload_n 0, 1) := by decide +kernel
theorem dX11_game_1 : decode cX11_game 1 = .ok (.iload_n 1, 1) := by decide +kernel
theorem dX11_game_2 : decode cX11_game 2 = .ok (.invokevirtual 85, 3) := by decide +kernel
theorem dX11_game_5 : decode cX11_game 5 = .ok (.ifCond .eq 11, 3) := by decide +kernel
theorem dX11_game_8 : decode cX11_game 8 = .ok (.aload_n 0, 1) := by decide +kernel
theorem dX11_game_9 : decode cX11_game 9 = .ok (.iload_n 1, 1) := by decide +kernel
theorem dX11_game_10 : decode cX11_game 10 = .ok (.invokevirtual 213, 3) := by decide +kernel
theorem dX11_game_13 : decode cX11_game 13 = .ok (.goto 5, 3) := by decide +kernel
theorem dX11_game_16 : decode cX11_game 16 = .ok (.ldc 84, 2) := by decide +kernel
theorem dX11_game_18 : decode cX11_game 18 = .ok (.ireturn, 1) := by decide +kernel
theorem dX11_fences_0 : decode cX11_fences 0 = .ok (.aload_n 0, 1) := by decide +kernel
theorem dX11_fences_1 : decode cX11_fences 1 = .ok (.iload_n 1, 1) := by decide +kernel
theorem dX11_fences_2 : decode cX11_fences 2 = .ok (.invokevirtual 85, 3) := by decide +kernel
theorem dX11_fences_5 : decode cX11_fences 5 = .ok (.ifCond .eq 17, 3) := by decide +kernel
theorem dX11_fences_8 : decode cX11_fences 8 = .ok (.iload_n 2, 1) := by decide +kernel
theorem dX11_fences_9 : decode cX11_fences 9 = .ok (.i2l, 1) := by decide +kernel
theorem dX11_fences_10 : decode cX11_fences 10 = .ok (.ldc2_w 216, 3) := by decide +kernel
theorem dX11_fences_13 : decode cX11_fences 13 = .ok (.ldc2_w 218, 3) := by decide +kernel
theorem dX11_fences_16 : decode cX11_fences 16 = .ok (.invokestatic 51, 3) := by decide +kernel
theorem dX11_fences_19 : decode cX11_fences 19 = .ok (.ifCond .ne 5, 3) := by decide +kernel
theorem dX11_fences_22 : decode cX11_fences 22 = .ok (.iconst (-1), 1) := by decide +kernel
theorem dX11_fences_23 : decode cX11_fences 23 = .ok (.ireturn, 1) := by decide +kernel
theorem dX11_fences_24 : decode cX11_fences 24 = .ok (.bipush (-4), 2) := by decide +kernel
theorem dX11_fences_26 : decode cX11_fences 26 = .ok (.istore_n 3, 1) := by decide +kernel
theorem dX11_fences_27 : decode cX11_fences 27 = .ok (.iconst 0, 1) := by decide +kernel
theorem dX11_fences_28 : decode cX11_fences 28 = .ok (.istore 4, 2) := by decide +kernel
theorem dX11_fences_30 : decode cX11_fences 30 = .ok (.iload 4, 2) := by decide +kernel
theorem dX11_fences_32 : decode cX11_fences 32 = .ok (.iconst 1, 1) := by decide +kernel
theorem dX11_fences_33 : decode cX11_fences 33 = .ok (.aload_n 0, 1) := by decide +kernel
theorem dX11_fences_34 : decode cX11_fences 34 = .ok (.getfield 7, 3) := by decide +kernel
theorem dX11_fences_37 : decode cX11_fences 37 = .ok (.iconst 0, 1) := by decide +kernel
theorem dX11_fences_38 : decode cX11_fences 38 = .ok (.iaload, 1) := by decide +kernel
theorem dX11_fences_39 : decode cX11_fences 39 = .ok (.ishl, 1) := by decide +kernel
theorem dX11_fences_40 : decode cX11_fences 40 = .ok (.if_icmp .ge 57, 3) := by decide +kernel
theorem dX11_fences_43 : decode cX11_fences 43 = .ok (.iload_n 3, 1) := by decide +kernel
theorem dX11_fences_44 : decode cX11_fences 44 = .ok (.bipush (-4), 2) := by decide +kernel
theorem dX11_fences_46 : decode cX11_fences 46 = .ok (.if_icmp .eq 15, 3) := by decide +kernel
theorem dX11_fences_49 : decode cX11_fences 49 = .ok (.iload 4, 2) := by decide +kernel
theorem dX11_fences_51 : decode cX11_fences 51 = .ok (.invokestatic 220, 3) := by decide +kernel
theorem dX11_fences_54 : decode cX11_fences 54 = .ok (.iload_n 3, 1) := by decide +kernel
theorem dX11_fences_55 : decode cX11_fences 55 = .ok (.invokestatic 220, 3) := by decide +kernel
theorem dX11_fences_58 : decode cX11_fences 58 = .ok (.if_icmp .ge 7, 3) := by decide +kernel
theorem dX11_fences_61 : decode cX11_fences 61 = .ok (.iconst 1, 1) := by decide +kernel
theorem dX11_fences_62 : decode cX11_fences 62 = .ok (.goto 4, 3) := by decide +kernel
theorem dX11_fences_65 : decode cX11_fences 65 = .ok (.iconst 0, 1) := by decide +kernel
theorem dX11_fences_66 : decode cX11_fences 66 = .ok (.istore 5, 2) := by decide +kernel
theorem dX11_fences_68 : decode cX11_fences 68 = .ok (.iload 5, 2) := by decide +kernel
theorem dX11_fences_70 : decode cX11_fences 70 = .ok (.ifCond .eq 19, 3) := by decide +kernel
theorem dX11_fences_73 : decode cX11_fences 73 = .ok (.aload_n 0, 1) := by decide +kernel
theorem dX11_fences_74 : decode cX11_fences 74 = .ok (.iload_n 1, 1) := by decide +kernel
theorem dX11_fences_75 : decode cX11_fences 75 = .ok (.iload 4, 2) := by decide +kernel
theorem dX11_fences_77 : decode cX11_fences 77 = .ok (.invokevirtual 187, 3) := by decide +kernel
theorem dX11_fences_80 : decode cX11_fences 80 = .ok (.iload_n 2, 1) := by decide +kernel
theorem dX11_fences_81 : decode cX11_fences 81 = .ok (.if_icmp .gt 8, 3) := by decide +kernel
theorem dX11_fences_84 : decode cX11_fences 84 = .ok (.iload 4, 2) := by decide +kernel
theorem dX11_fences_86 : decode cX11_fences 86 = .ok (.goto 4, 3) := by decide +kernel
theorem dX11_fences_89 : decode cX11_fences 89 = .ok (.iload_n 3, 1) := by decide +kernel
theorem dX11_fences_90 : decode cX11_fences 90 = .ok (.istore_n 3, 1) := by decide +kernel
theorem dX11_fences_91 : decode cX11_fences 91 = .ok (.iinc 4 1, 3) := by decide +kernel
theorem dX11_fences_94 : decode cX11_fences 94 = .ok (.goto (-64), 3) := by decide +kernel
theorem dX11_fences_97 : decode cX11_fences 97 = .ok (.iload_n 3, 1) := by decide +kernel
theorem dX11_fences_98 : decode cX11_fences 98 = .ok (.ireturn, 1) := by decide +kernel
theorem dX11_common_0 : decode cX11_common 0 = .ok (.iload_n 0, 1) := by decide +kernel
theorem dX11_common_1 : decode cX11_common 1 = .ok (.ifCond .ge 8, 3) := by decide +kernel
theorem dX11_common_4 : decode cX11_common 4 = .ok (.iload_n 0, 1) := by decide +kernel
theorem dX11_common_5 : decode cX11_common 5 = .ok (.ineg, 1) := by decide +kernel
theorem dX11_common_6 : decode cX11_common 6 = .ok (.goto 4, 3) := by decide +kernel
theorem dX11_common_9 : decode cX11_common 9 = .ok (.iload_n 0, 1) := by decide +kernel
theorem dX11_common_10 : decode cX11_common 10 = .ok (.istore_n 2, 1) := by decide +kernel
theorem dX11_common_11 : decode cX11_common 11 = .ok (.iload_n 1, 1) := by decide +kernel
theorem dX11_common_12 : decode cX11_common 12 = .ok (.istore_n 3, 1) := by decide +kernel
theorem dX11_common_13 : decode cX11_common 13 = .ok (.iload_n 3, 1) := by decide +kernel
theorem dX11_common_14 : decode cX11_common 14 = .ok (.ifCond .eq 16, 3) := by decide +kernel
theorem dX11_common_17 : decode cX11_common 17 = .ok (.iload_n 2, 1) := by decide +kernel
theorem dX11_common_18 : decode cX11_common 18 = .ok (.iload_n 3, 1) := by decide +kernel
theorem dX11_common_19 : decode cX11_common 19 = .ok (.irem, 1) := by decide +kernel
theorem dX11_common_20 : decode cX11_common 20 = .ok (.istore 4, 2) := by decide +kernel
theorem dX11_common_22 : decode cX11_common 22 = .ok (.iload_n 3, 1) := by decide +kernel
theorem dX11_common_23 : decode cX11_common 23 = .ok (.istore_n 2, 1) := by decide +kernel
theorem dX11_common_24 : decode cX11_common 24 = .ok (.iload 4, 2) := by decide +kernel
theorem dX11_common_26 : decode cX11_common 26 = .ok (.istore_n 3, 1) := by decide +kernel
theorem dX11_common_27 : decode cX11_common 27 = .ok (.goto (-14), 3) := by decide +kernel
theorem dX11_common_30 : decode cX11_common 30 = .ok (.iload_n 2, 1) := by decide +kernel
theorem dX11_common_31 : decode cX11_common 31 = .ok (.ireturn, 1) := by decide +kernel
theorem dX11_expected_0 : decode cX11_expected 0 = .ok (.iconst 0, 1) := by decide +kernel
theorem dX11_expected_1 : decode cX11_expected 1 = .ok (.istore_n 1, 1) := by decide +kernel
theorem dX11_expected_2 : decode cX11_expected 2 = .ok (.iconst 0, 1) := by decide +kernel
theorem dX11_expected_3 : decode cX11_expected 3 = .ok (.istore_n 2, 1) := by decide +kernel
theorem dX11_expected_4 : decode cX11_expected 4 = .ok (.iload_n 2, 1) := by decide +kernel
theorem dX11_expected_5 : decode cX11_expected 5 = .ok (.aload_n 0, 1) := by decide +kernel
theorem dX11_expected_6 : decode cX11_expected 6 = .ok (.getfield 7, 3) := by decide +kernel
theorem dX11_expected_9 : decode cX11_expected 9 = .ok (.iconst 0, 1) := by decide +kernel
theorem dX11_expected_10 : decode cX11_expected 10 = .ok (.iaload, 1) := by decide +kernel
theorem dX11_expected_11 : decode cX11_expected 11 = .ok (.if_icmp .ge 79, 3) := by decide +kernel
theorem dX11_expected_14 : decode cX11_expected 14 = .ok (.aload_n 0, 1) := by decide +kernel
theorem dX11_expected_15 : decode cX11_expected 15 = .ok (.getfield 7, 3) := by decide +kernel
theorem dX11_expected_18 : decode cX11_expected 18 = .ok (.bipush 7, 2) := by decide +kernel
theorem dX11_expected_20 : decode cX11_expected 20 = .ok (.iload_n 2, 1) := by decide +kernel
theorem dX11_expected_21 : decode cX11_expected 21 = .ok (.iadd, 1) := by decide +kernel
theorem dX11_expected_22 : decode cX11_expected 22 = .ok (.iaload, 1) := by decide +kernel
theorem dX11_expected_23 : decode cX11_expected 23 = .ok (.istore_n 3, 1) := by decide +kernel
theorem dX11_expected_24 : decode cX11_expected 24 = .ok (.iload_n 3, 1) := by decide +kernel
theorem dX11_expected_25 : decode cX11_expected 25 = .ok (.iconst 5, 1) := by decide +kernel
theorem dX11_expected_26 : decode cX11_expected 26 = .ok (.if_icmp .eq 16, 3) := by decide +kernel
theorem dX11_expected_29 : decode cX11_expected 29 = .ok (.aload_n 0, 1) := by decide +kernel
theorem dX11_expected_30 : decode cX11_expected 30 = .ok (.getfield 7, 3) := by decide +kernel
theorem dX11_expected_33 : decode cX11_expected 33 = .ok (.bipush 44, 2) := by decide +kernel
theorem dX11_expected_35 : decode cX11_expected 35 = .ok (.iload_n 3, 1) := by decide +kernel
theorem dX11_expected_36 : decode cX11_expected 36 = .ok (.iadd, 1) := by decide +kernel
theorem dX11_expected_37 : decode cX11_expected 37 = .ok (.iaload, 1) := by decide +kernel
theorem dX11_expected_38 : decode cX11_expected 38 = .ok (.iconst 3, 1) := by decide +kernel
theorem dX11_expected_39 : decode cX11_expected 39 = .ok (.if_icmp .ne 7, 3) := by decide +kernel
theorem dX11_expected_42 : decode cX11_expected 42 = .ok (.iconst 0, 1) := by decide +kernel
theorem dX11_expected_43 : decode cX11_expected 43 = .ok (.goto 12, 3) := by decide +kernel
theorem dX11_expected_46 : decode cX11_expected 46 = .ok (.aload_n 0, 1) := by decide +kernel
theorem dX11_expected_47 : decode cX11_expected 47 = .ok (.getfield 7, 3) := by decide +kernel
theorem dX11_expected_50 : decode cX11_expected 50 = .ok (.bipush 59, 2) := by decide +kernel
theorem dX11_expected_52 : decode cX11_expected 52 = .ok (.iload_n 3, 1) := by decide +kernel
theorem dX11_expected_53 : decode cX11_expected 53 = .ok (.iadd, 1) := by decide +kernel
theorem dX11_expected_54 : decode cX11_expected 54 = .ok (.iaload, 1) := by decide +kernel
theorem dX11_expected_55 : decode cX11_expected 55 = .ok (.istore 4, 2) := by decide +kernel
theorem dX11_expected_57 : decode cX11_expected 57 = .ok (.iload_n 1, 1) := by decide +kernel
theorem dX11_expected_58 : decode cX11_expected 58 = .ok (.bipush 10, 2) := by decide +kernel
theorem dX11_expected_60 : decode cX11_expected 60 = .ok (.iload 4, 2) := by decide +kernel
theorem dX11_expected_62 : decode cX11_expected 62 = .ok (.isub, 1) := by decide +kernel
theorem dX11_expected_63 : decode cX11_expected 63 = .ok (.aload_n 0, 1) := by decide +kernel
theorem dX11_expected_64 : decode cX11_expected 64 = .ok (.iload_n 2, 1) := by decide +kernel
theorem dX11_expected_65 : decode cX11_expected 65 = .ok (.iload_n 3, 1) := by decide +kernel
theorem dX11_expected_66 : decode cX11_expected 66 = .ok (.iconst 0, 1) := by decide +kernel
theorem dX11_expected_67 : decode cX11_expected 67 = .ok (.invokevirtual 162, 3) := by decide +kernel
theorem dX11_expected_70 : decode cX11_expected 70 = .ok (.imul, 1) := by decide +kernel
theorem dX11_expected_71 : decode cX11_expected 71 = .ok (.iload 4, 2) := by decide +kernel
theorem dX11_expected_73 : decode cX11_expected 73 = .ok (.aload_n 0, 1) := by decide +kernel
theorem dX11_expected_74 : decode cX11_expected 74 = .ok (.iload_n 2, 1) := by decide +kernel
theorem dX11_expected_75 : decode cX11_expected 75 = .ok (.iload_n 3, 1) := by decide +kernel
theorem dX11_expected_76 : decode cX11_expected 76 = .ok (.iconst 1, 1) := by decide +kernel
theorem dX11_expected_77 : decode cX11_expected 77 = .ok (.invokevirtual 162, 3) := by decide +kernel
theorem dX11_expected_80 : decode cX11_expected 80 = .ok (.imul, 1) := by decide +kernel
theorem dX11_expected_81 : decode cX11_expected 81 = .ok (.iadd, 1) := by decide +kernel
theorem dX11_expected_82 : decode cX11_expected 82 = .ok (.iadd, 1) := by decide +kernel
theorem dX11_expected_83 : decode cX11_expected 83 = .ok (.istore_n 1, 1) := by decide +kernel
theorem dX11_expected_84 : decode cX11_expected 84 = .ok (.iinc 2 1, 3) := by decide +kernel
theorem dX11_expected_87 : decode cX11_expected 87 = .ok (.goto (-83), 3) := by decide +kernel
theorem dX11_expected_90 : decode cX11_expected 90 = .ok (.iload_n 1, 1) := by decide +kernel
theorem dX11_expected_91 : decode cX11_expected 91 = .ok (.ireturn, 1) := by decide +kernel
theorem dX11_upper_0 : decode cX11_upper 0 = .ok (.aload_n 0, 1) := by decide +kernel
theorem dX11_upper_1 : decode cX11_upper 1 = .ok (.invokevirtual 223, 3) := by decide +kernel
theorem dX11_upper_4 : decode cX11_upper 4 = .ok (.istore_n 1, 1) := by decide +kernel
theorem dX11_upper_5 : decode cX11_upper 5 = .ok (.iload_n 1, 1) := by decide +kernel
theorem dX11_upper_6 : decode cX11_upper 6 = .ok (.iload_n 1, 1) := by decide +kernel
theorem dX11_upper_7 : decode cX11_upper 7 = .ok (.bipush 10, 2) := by decide +kernel
theorem dX11_upper_9 : decode cX11_upper 9 = .ok (.invokestatic 226, 3) := by decide +kernel
theorem dX11_upper_12 : decode cX11_upper 12 = .ok (.idiv, 1) := by decide +kernel
theorem dX11_upper_13 : decode cX11_upper 13 = .ok (.ireturn, 1) := by decide +kernel
theorem dX11_lower_0 : decode cX11_lower 0 = .ok (.bipush 10, 2) := by decide +kernel
theorem dX11_lower_2 : decode cX11_lower 2 = .ok (.aload_n 0, 1) := by decide +kernel
theorem dX11_lower_3 : decode cX11_lower 3 = .ok (.invokevirtual 223, 3) := by decide +kernel
theorem dX11_lower_6 : decode cX11_lower 6 = .ok (.bipush 10, 2) := by decide +kernel
theorem dX11_lower_8 : decode cX11_lower 8 = .ok (.invokestatic 226, 3) := by decide +kernel
theorem dX11_lower_11 : decode cX11_lower 11 = .ok (.idiv, 1) := by decide +kernel
theorem dX11_lower_12 : decode cX11_lower 12 = .ok (.ireturn, 1) := by decide +kernel
theorem dX11_image_0 : decode cX11_image 0 = .ok (.iconst 0, 1) := by decide +kernel
theorem dX11_image_1 : decode cX11_image 1 = .ok (.istore_n 1, 1) := by decide +kernel
theorem dX11_image_2 : decode cX11_image 2 = .ok (.iload_n 1, 1) := by decide +kernel
theorem dX11_image_3 : decode cX11_image 3 = .ok (.bipush 77, 2) := by decide +kernel
theorem dX11_image_5 : decode cX11_image 5 = .ok (.if_icmp .ge 24, 3) := by decide +kernel
theorem dX11_image_8 : decode cX11_image 8 = .ok (.aload_n 0, 1) := by decide +kernel
theorem dX11_image_9 : decode cX11_image 9 = .ok (.getfield 7, 3) := by decide +kernel
theorem dX11_image_12 : decode cX11_image 12 = .ok (.bipush 77, 2) := by decide +kernel
theorem dX11_image_14 : decode cX11_image 14 = .ok (.iload_n 1, 1) := by decide +kernel
theorem dX11_image_15 : decode cX11_image 15 = .ok (.iadd, 1) := by decide +kernel
theorem dX11_image_16 : decode cX11_image 16 = .ok (.aload_n 0, 1) := by decide +kernel
theorem dX11_image_17 : decode cX11_image 17 = .ok (.getfield 7, 3) := by decide +kernel
theorem dX11_image_20 : decode cX11_image 20 = .ok (.iload_n 1, 1) := by decide +kernel
theorem dX11_image_21 : decode cX11_image 21 = .ok (.iaload, 1) := by decide +kernel
theorem dX11_image_22 : decode cX11_image 22 = .ok (.iastore, 1) := by decide +kernel
theorem dX11_image_23 : decode cX11_image 23 = .ok (.iinc 1 1, 3) := by decide +kernel
theorem dX11_image_26 : decode cX11_image 26 = .ok (.goto (-24), 3) := by decide +kernel
theorem dX11_image_29 : decode cX11_image 29 = .ok (.aload_n 0, 1) := by decide +kernel
theorem dX11_image_30 : decode cX11_image 30 = .ok (.iconst 1, 1) := by decide +kernel
theorem dX11_image_31 : decode cX11_image 31 = .ok (.putfield 229, 3) := by decide +kernel
theorem dX11_image_34 : decode cX11_image 34 = .ok (.iconst 1, 1) := by decide +kernel
theorem dX11_image_35 : decode cX11_image 35 = .ok (.ireturn, 1) := by decide +kernel
theorem dX11_restore_0 : decode cX11_restore 0 = .ok (.aload_n 0, 1) := by decide +kernel
theorem dX11_restore_1 : decode cX11_restore 1 = .ok (.getfield 229, 3) := by decide +kernel
theorem dX11_restore_4 : decode cX11_restore 4 = .ok (.ifCond .ne 6, 3) := by decide +kernel
theorem dX11_restore_7 : decode cX11_restore 7 = .ok (.bipush (-4), 2) := by decide +kernel
theorem dX11_restore_9 : decode cX11_restore 9 = .ok (.ireturn, 1) := by decide +kernel
theorem dX11_restore_10 : decode cX11_restore 10 = .ok (.iconst 0, 1) := by decide +kernel
theorem dX11_restore_11 : decode cX11_restore 11 = .ok (.istore_n 1, 1) := by decide +kernel
theorem dX11_restore_12 : decode cX11_restore 12 = .ok (.iload_n 1, 1) := by decide +kernel
theorem dX11_restore_13 : decode cX11_restore 13 = .ok (.bipush 77, 2) := by decide +kernel
theorem dX11_restore_15 : decode cX11_restore 15 = .ok (.if_icmp .ge 24, 3) := by decide +kernel
theorem dX11_restore_18 : decode cX11_restore 18 = .ok (.aload_n 0, 1) := by decide +kernel
theorem dX11_restore_19 : decode cX11_restore 19 = .ok (.getfield 7, 3) := by decide +kernel
theorem dX11_restore_22 : decode cX11_restore 22 = .ok (.iload_n 1, 1) := by decide +kernel
theorem dX11_restore_23 : decode cX11_restore 23 = .ok (.aload_n 0, 1) := by decide +kernel
theorem dX11_restore_24 : decode cX11_restore 24 = .ok (.getfield 7, 3) := by decide +kernel
theorem dX11_restore_27 : decode cX11_restore 27 = .ok (.bipush 77, 2) := by decide +kernel
theorem dX11_restore_29 : decode cX11_restore 29 = .ok (.iload_n 1, 1) := by decide +kernel
theorem dX11_restore_30 : decode cX11_restore 30 = .ok (.iadd, 1) := by decide +kernel
theorem dX11_restore_31 : decode cX11_restore 31 = .ok (.iaload, 1) := by decide +kernel
theorem dX11_restore_32 : decode cX11_restore 32 = .ok (.iastore, 1) := by decide +kernel
theorem dX11_restore_33 : decode cX11_restore 33 = .ok (.iinc 1 1, 3) := by decide +kernel
theorem dX11_restore_36 : decode cX11_restore 36 = .ok (.goto (-24), 3) := by decide +kernel
theorem dX11_restore_39 : decode cX11_restore 39 = .ok (.iconst 1, 1) := by decide +kernel
theorem dX11_restore_40 : decode cX11_restore 40 = .ok (.ireturn, 1) := by decide +kernel
theorem dX11_isSheet_0 : decode cX11_isSheet 0 = .ok (.iload_n 0, 1) := by decide +kernel
theorem dX11_isSheet_1 : decode cX11_isSheet 1 = .ok (.i2l, 1) := by decide +kernel
theorem dX11_isSheet_2 : decode cX11_isSheet 2 = .ok (.lconst 0, 1) := by decide +kernel
theorem dX11_isSheet_3 : decode cX11_isSheet 3 = .ok (.ldc2_w 55, 3) := by decide +kernel
theorem dX11_isSheet_6 : decode cX11_isSheet 6 = .ok (.invokestatic 51, 3) := by decide +kernel
theorem dX11_isSheet_9 : decode cX11_isSheet 9 = .ok (.ireturn, 1) := by decide +kernel
theorem dX11_isLane_0 : decode cX11_isLane 0 = .ok (.iload_n 0, 1) := by decide +kernel
theorem dX11_isLane_1 : decode cX11_isLane 1 = .ok (.i2l, 1) := by decide +kernel
theorem dX11_isLane_2 : decode cX11_isLane 2 = .ok (.lconst 0, 1) := by decide +kernel
theorem dX11_isLane_3 : decode cX11_isLane 3 = .ok (.ldc2_w 55, 3) := by decide +kernel
theorem dX11_isLane_6 : decode cX11_isLane 6 = .ok (.invokestatic 51, 3) := by decide +kernel
theorem dX11_isLane_9 : decode cX11_isLane 9 = .ok (.ireturn, 1) := by decide +kernel
theorem dX11_bars_0 : decode cX11_bars 0 = .ok (.aload_n 0, 1) := by decide +kernel
theorem dX11_bars_1 : decode cX11_bars 1 = .ok (.getfield 35, 3) := by decide +kernel
theorem dX11_bars_4 : decode cX11_bars 4 = .ok (.iload_n 1, 1) := by decide +kernel
theorem dX11_bars_5 : decode cX11_bars 5 = .ok (.iaload, 1) := by decide +kernel
theorem dX11_bars_6 : decode cX11_bars 6 = .ok (.ifCond .ge 8, 3) := by decide +kernel
theorem dX11_bars_9 : decode cX11_bars 9 = .ok (.bipush (-11), 2) := by decide +kernel
theorem dX11_bars_11 : decode cX11_bars 11 = .ok (.goto 50, 3) := by decide +kernel
theorem dX11_bars_14 : decode cX11_bars 14 = .ok (.aload_n 0, 1) := by decide +kernel
theorem dX11_bars_15 : decode cX11_bars 15 = .ok (.getfield 35, 3) := by decide +kernel
theorem dX11_bars_18 : decode cX11_bars 18 = .ok (.iload_n 1, 1) := by decide +kernel
theorem dX11_bars_19 : decode cX11_bars 19 = .ok (.iaload, 1) := by decide +kernel
theorem dX11_bars_20 : decode cX11_bars 20 = .ok (.iload_n 2, 1) := by decide +kernel
theorem dX11_bars_21 : decode cX11_bars 21 = .ok (.if_icmp .eq 8, 3) := by decide +kernel
theorem dX11_bars_24 : decode cX11_bars 24 = .ok (.bipush (-12), 2) := by decide +kernel
theorem dX11_bars_26 : decode cX11_bars 26 = .ok (.goto 35, 3) := by decide +kernel
theorem dX11_bars_29 : decode cX11_bars 29 = .ok (.iload_n 3, 1) := by decide +kernel
theorem dX11_bars_30 : decode cX11_bars 30 = .ok (.ifCond .lt 25, 3) := by decide +kernel
theorem dX11_bars_33 : decode cX11_bars 33 = .ok (.iload 4, 2) := by decide +kernel
theorem dX11_bars_35 : decode cX11_bars 35 = .ok (.ifCond .lt 20, 3) := by decide +kernel
theorem dX11_bars_38 : decode cX11_bars 38 = .ok (.iload_n 3, 1) := by decide +kernel
theorem dX11_bars_39 : decode cX11_bars 39 = .ok (.i2l, 1) := by decide +kernel
theorem dX11_bars_40 : decode cX11_bars 40 = .ok (.iload 4, 2) := by decide +kernel
theorem dX11_bars_42 : decode cX11_bars 42 = .ok (.i2l, 1) := by decide +kernel
theorem dX11_bars_43 : decode cX11_bars 43 = .ok (.ladd, 1) := by decide +kernel
theorem dX11_bars_44 : decode cX11_bars 44 = .ok (.aload_n 0, 1) := by decide +kernel
theorem dX11_bars_45 : decode cX11_bars 45 = .ok (.getfield 38, 3) := by decide +kernel
theorem dX11_bars_48 : decode cX11_bars 48 = .ok (.iload_n 1, 1) := by decide +kernel
theorem dX11_bars_49 : decode cX11_bars 49 = .ok (.iaload, 1) := by decide +kernel
theorem dX11_bars_50 : decode cX11_bars 50 = .ok (.i2l, 1) := by decide +kernel
theorem dX11_bars_51 : decode cX11_bars 51 = .ok (.lcmp, 1) := by decide +kernel
theorem dX11_bars_52 : decode cX11_bars 52 = .ok (.ifCond .le 8, 3) := by decide +kernel
theorem dX11_bars_55 : decode cX11_bars 55 = .ok (.bipush (-13), 2) := by decide +kernel
theorem dX11_bars_57 : decode cX11_bars 57 = .ok (.goto 4, 3) := by decide +kernel
theorem dX11_bars_60 : decode cX11_bars 60 = .ok (.iconst 0, 1) := by decide +kernel
theorem dX11_bars_61 : decode cX11_bars 61 = .ok (.ireturn, 1) := by decide +kernel
theorem dX11_cutTo_0 : decode cX11_cutTo 0 = .ok (.iload_n 0, 1) := by decide +kernel
theorem dX11_cutTo_1 : decode cX11_cutTo 1 = .ok (.ifCond .ne 10, 3) := by decide +kernel
theorem dX11_cutTo_4 : decode cX11_cutTo 4 = .ok (.lload_n 1, 1) := by decide +kernel
theorem dX11_cutTo_5 : decode cX11_cutTo 5 = .ok (.l2i, 1) := by decide +kernel
theorem dX11_cutTo_6 : decode cX11_cutTo 6 = .ok (.i2b, 1) := by decide +kernel
theorem dX11_cutTo_7 : decode cX11_cutTo 7 = .ok (.i2l, 1) := by decide +kernel
theorem dX11_cutTo_8 : decode cX11_cutTo 8 = .ok (.goto 27, 3) := by decide +kernel
theorem dX11_cutTo_11 : decode cX11_cutTo 11 = .ok (.iload_n 0, 1) := by decide +kernel
theorem dX11_cutTo_12 : decode cX11_cutTo 12 = .ok (.iconst 1, 1) := by decide +kernel
theorem dX11_cutTo_13 : decode cX11_cutTo 13 = .ok (.if_icmp .ne 10, 3) := by decide +kernel
theorem dX11_cutTo_16 : decode cX11_cutTo 16 = .ok (.lload_n 1, 1) := by decide +kernel
theorem dX11_cutTo_17 : decode cX11_cutTo 17 = .ok (.l2i, 1) := by decide +kernel
theorem dX11_cutTo_18 : decode cX11_cutTo 18 = .ok (.i2s, 1) := by decide +kernel
theorem dX11_cutTo_19 : decode cX11_cutTo 19 = .ok (.i2l, 1) := by decide +kernel
theorem dX11_cutTo_20 : decode cX11_cutTo 20 = .ok (.goto 15, 3) := by decide +kernel
theorem dX11_cutTo_23 : decode cX11_cutTo 23 = .ok (.iload_n 0, 1) := by decide +kernel
theorem dX11_cutTo_24 : decode cX11_cutTo 24 = .ok (.iconst 2, 1) := by decide +kernel
theorem dX11_cutTo_25 : decode cX11_cutTo 25 = .ok (.if_icmp .ne 9, 3) := by decide +kernel
theorem dX11_cutTo_28 : decode cX11_cutTo 28 = .ok (.lload_n 1, 1) := by decide +kernel
theorem dX11_cutTo_29 : decode cX11_cutTo 29 = .ok (.l2i, 1) := by decide +kernel
theorem dX11_cutTo_30 : decode cX11_cutTo 30 = .ok (.i2l, 1) := by decide +kernel
theorem dX11_cutTo_31 : decode cX11_cutTo 31 = .ok (.goto 4, 3) := by decide +kernel
theorem dX11_cutTo_34 : decode cX11_cutTo 34 = .ok (.lload_n 1, 1) := by decide +kernel
theorem dX11_cutTo_35 : decode cX11_cutTo 35 = .ok (.lreturn, 1) := by decide +kernel
theorem dX11_itemAt_0 : decode cX11_itemAt 0 = .ok (.aload_n 0, 1) := by decide +kernel
theorem dX11_itemAt_1 : decode cX11_itemAt 1 = .ok (.getfield 41, 3) := by decide +kernel
theorem dX11_itemAt_4 : decode cX11_itemAt 4 = .ok (.bipush 16, 2) := by decide +kernel
theorem dX11_itemAt_6 : decode cX11_itemAt 6 = .ok (.iload_n 1, 1) := by decide +kernel
theorem dX11_itemAt_7 : decode cX11_itemAt 7 = .ok (.imul, 1) := by decide +kernel
theorem dX11_itemAt_8 : decode cX11_itemAt 8 = .ok (.iload_n 2, 1) := by decide +kernel
theorem dX11_itemAt_9 : decode cX11_itemAt 9 = .ok (.iadd, 1) := by decide +kernel
theorem dX11_itemAt_10 : decode cX11_itemAt 10 = .ok (.laload, 1) := by decide +kernel
theorem dX11_itemAt_11 : decode cX11_itemAt 11 = .ok (.lreturn, 1) := by decide +kernel
theorem dX11_wanted_0 : decode cX11_wanted 0 = .ok (.aload_n 0, 1) := by decide +kernel
theorem dX11_wanted_1 : decode cX11_wanted 1 = .ok (.iload_n 1, 1) := by decide +kernel
theorem dX11_wanted_2 : decode cX11_wanted 2 = .ok (.iload_n 2, 1) := by decide +kernel
theorem dX11_wanted_3 : decode cX11_wanted 3 = .ok (.invokevirtual 233, 3) := by decide +kernel
theorem dX11_wanted_6 : decode cX11_wanted 6 = .ok (.lconst 0, 1) := by decide +kernel
theorem dX11_wanted_7 : decode cX11_wanted 7 = .ok (.lcmp, 1) := by decide +kernel
theorem dX11_wanted_8 : decode cX11_wanted 8 = .ok (.ifCond .ge 7, 3) := by decide +kernel
theorem dX11_wanted_11 : decode cX11_wanted 11 = .ok (.lconst 0, 1) := by decide +kernel
theorem dX11_wanted_12 : decode cX11_wanted 12 = .ok (.goto 9, 3) := by decide +kernel
theorem dX11_wanted_15 : decode cX11_wanted 15 = .ok (.aload_n 0, 1) := by decide +kernel
theorem dX11_wanted_16 : decode cX11_wanted 16 = .ok (.iload_n 1, 1) := by decide +kernel
theorem dX11_wanted_17 : decode cX11_wanted 17 = .ok (.iload_n 2, 1) := by decide +kernel
theorem dX11_wanted_18 : decode cX11_wanted 18 = .ok (.invokevirtual 233, 3) := by decide +kernel
theorem dX11_wanted_21 : decode cX11_wanted 21 = .ok (.lreturn, 1) := by decide +kernel
theorem dX11_nextOf_0 : decode cX11_nextOf 0 = .ok (.iconst 0, 1) := by decide +kernel
theorem dX11_nextOf_1 : decode cX11_nextOf 1 = .ok (.istore_n 2, 1) := by decide +kernel
theorem dX11_nextOf_2 : decode cX11_nextOf 2 = .ok (.iconst 0, 1) := by decide +kernel
theorem dX11_nextOf_3 : decode cX11_nextOf 3 = .ok (.istore_n 3, 1) := by decide +kernel
theorem dX11_nextOf_4 : decode cX11_nextOf 4 = .ok (.iload_n 3, 1) := by decide +kernel
theorem dX11_nextOf_5 : decode cX11_nextOf 5 = .ok (.aload_n 0, 1) := by decide +kernel
theorem dX11_nextOf_6 : decode cX11_nextOf 6 = .ok (.getfield 7, 3) := by decide +kernel
theorem dX11_nextOf_9 : decode cX11_nextOf 9 = .ok (.iconst 0, 1) := by decide +kernel
theorem dX11_nextOf_10 : decode cX11_nextOf 10 = .ok (.iaload, 1) := by decide +kernel
theorem dX11_nextOf_11 : decode cX11_nextOf 11 = .ok (.if_icmp .ge 25, 3) := by decide +kernel
theorem dX11_nextOf_14 : decode cX11_nextOf 14 = .ok (.iload_n 2, 1) := by decide +kernel
theorem dX11_nextOf_15 : decode cX11_nextOf 15 = .ok (.aload_n 0, 1) := by decide +kernel
theorem dX11_nextOf_16 : decode cX11_nextOf 16 = .ok (.iload_n 3, 1) := by decide +kernel
theorem dX11_nextOf_17 : decode cX11_nextOf 17 = .ok (.iload_n 1, 1) := by decide +kernel
theorem dX11_nextOf_18 : decode cX11_nextOf 18 = .ok (.aload_n 0, 1) := by decide +kernel
theorem dX11_nextOf_19 : decode cX11_nextOf 19 = .ok (.getfield 19, 3) := by decide +kernel
theorem dX11_nextOf_22 : decode cX11_nextOf 22 = .ok (.iload_n 3, 1) := by decide +kernel
theorem dX11_nextOf_23 : decode cX11_nextOf 23 = .ok (.iaload, 1) := by decide +kernel
theorem dX11_nextOf_24 : decode cX11_nextOf 24 = .ok (.iconst 0, 1) := by decide +kernel
theorem dX11_nextOf_25 : decode cX11_nextOf 25 = .ok (.invokevirtual 134, 3) := by decide +kernel
theorem dX11_nextOf_28 : decode cX11_nextOf 28 = .ok (.iadd, 1) := by decide +kernel
theorem dX11_nextOf_29 : decode cX11_nextOf 29 = .ok (.istore_n 2, 1) := by decide +kernel
theorem dX11_nextOf_30 : decode cX11_nextOf 30 = .ok (.iinc 3 1, 3) := by decide +kernel
theorem dX11_nextOf_33 : decode cX11_nextOf 33 = .ok (.goto (-29), 3) := by decide +kernel
theorem dX11_nextOf_36 : decode cX11_nextOf 36 = .ok (.iload_n 2, 1) := by decide +kernel
theorem dX11_nextOf_37 : decode cX11_nextOf 37 = .ok (.ireturn, 1) := by decide +kernel
theorem dX11_hired_0 : decode cX11_hired 0 = .ok (.iload_n 1, 1) := by decide +kernel
theorem dX11_hired_1 : decode cX11_hired 1 = .ok (.invokestatic 237, 3) := by decide +kernel
theorem dX11_hired_4 : decode cX11_hired 4 = .ok (.ifCond .eq 31, 3) := by decide +kernel
theorem dX11_hired_7 : decode cX11_hired 7 = .ok (.iload_n 2, 1) := by decide +kernel
theorem dX11_hired_8 : decode cX11_hired 8 = .ok (.invokestatic 240, 3) := by decide +kernel
theorem dX11_hired_11 : decode cX11_hired 11 = .ok (.ifCond .eq 24, 3) := by decide +kernel
theorem dX11_hired_14 : decode cX11_hired 14 = .ok (.iload 4, 2) := by decide +kernel
theorem dX11_hired_16 : decode cX11_hired 16 = .ok (.i2l, 1) := by decide +kernel
theorem dX11_hired_17 : decode cX11_hired 17 = .ok (.ldc2_w 182, 3) := by decide +kernel
theorem dX11_hired_20 : decode cX11_hired 20 = .ok (.aload_n 0, 1) := by decide +kernel
theorem dX11_hired_21 : decode cX11_hired 21 = .ok (.getfield 7, 3) := by decide +kernel
theorem dX11_hired_24 : decode cX11_hired 24 = .ok (.iconst 0, 1) := by decide +kernel
theorem dX11_hired_25 : decode cX11_hired 25 = .ok (.iaload, 1) := by decide +kernel
theorem dX11_hired_26 : decode cX11_hired 26 = .ok (.iconst 1, 1) := by decide +kernel
theorem dX11_hired_27 : decode cX11_hired 27 = .ok (.isub, 1) := by decide +kernel
theorem dX11_hired_28 : decode cX11_hired 28 = .ok (.i2l, 1) := by decide +kernel
theorem dX11_hired_29 : decode cX11_hired 29 = .ok (.invokestatic 51, 3) := by decide +kernel
theorem dX11_hired_32 : decode cX11_hired 32 = .ok (.ifCond .ne 5, 3) := by decide +kernel
theorem dX11_hired_35 : decode cX11_hired 35 = .ok (.iconst (-1), 1) := by decide +kernel
theorem dX11_hired_36 : decode cX11_hired 36 = .ok (.ireturn, 1) := by decide +kernel
theorem dX11_hired_37 : decode cX11_hired 37 = .ok (.aload_n 0, 1) := by decide +kernel
theorem dX11_hired_38 : decode cX11_hired 38 = .ok (.iload_n 1, 1) := by decide +kernel
theorem dX11_hired_39 : decode cX11_hired 39 = .ok (.iload_n 2, 1) := by decide +kernel
theorem dX11_hired_40 : decode cX11_hired 40 = .ok (.iload_n 3, 1) := by decide +kernel
theorem dX11_hired_41 : decode cX11_hired 41 = .ok (.bipush 10, 2) := by decide +kernel
theorem dX11_hired_43 : decode cX11_hired 43 = .ok (.invokevirtual 243, 3) := by decide +kernel
theorem dX11_hired_46 : decode cX11_hired 46 = .ok (.istore 5, 2) := by decide +kernel
theorem dX11_hired_48 : decode cX11_hired 48 = .ok (.iload 5, 2) := by decide +kernel
theorem dX11_hired_50 : decode cX11_hired 50 = .ok (.ifCond .eq 6, 3) := by decide +kernel
theorem dX11_hired_53 : decode cX11_hired 53 = .ok (.iload 5, 2) := by decide +kernel
theorem dX11_hired_55 : decode cX11_hired 55 = .ok (.ireturn, 1) := by decide +kernel
theorem dX11_hired_56 : decode cX11_hired 56 = .ok (.ldc 200, 2) := by decide +kernel
theorem dX11_hired_58 : decode cX11_hired 58 = .ok (.istore 6, 2) := by decide +kernel
theorem dX11_hired_60 : decode cX11_hired 60 = .ok (.iconst 0, 1) := by decide +kernel
theorem dX11_hired_61 : decode cX11_hired 61 = .ok (.istore 7, 2) := by decide +kernel
theorem dX11_hired_63 : decode cX11_hired 63 = .ok (.iconst 0, 1) := by decide +kernel
theorem dX11_hired_64 : decode cX11_hired 64 = .ok (.istore 8, 2) := by decide +kernel
theorem dX11_hired_66 : decode cX11_hired 66 = .ok (.iload 8, 2) := by decide +kernel
theorem dX11_hired_68 : decode cX11_hired 68 = .ok (.aload_n 0, 1) := by decide +kernel
theorem dX11_hired_69 : decode cX11_hired 69 = .ok (.invokevirtual 173, 3) := by decide +kernel
theorem dX11_hired_72 : decode cX11_hired 72 = .ok (.if_icmp .ge 125, 3) := by decide +kernel
theorem dX11_hired_75 : decode cX11_hired 75 = .ok (.aload_n 0, 1) := by decide +kernel
theorem dX11_hired_76 : decode cX11_hired 76 = .ok (.iload 8, 2) := by decide +kernel
theorem dX11_hired_78 : decode cX11_hired 78 = .ok (.aload_n 0, 1) := by decide +kernel
theorem dX11_hired_79 : decode cX11_hired 79 = .ok (.invokevirtual 184, 3) := by decide +kernel
theorem dX11_hired_82 : decode cX11_hired 82 = .ok (.iconst 0, 1) := by decide +kernel
theorem dX11_hired_83 : decode cX11_hired 83 = .ok (.invokevirtual 176, 3) := by decide +kernel
theorem dX11_hired_86 : decode cX11_hired 86 = .ok (.istore 9, 2) := by decide +kernel
theorem dX11_hired_88 : decode cX11_hired 88 = .ok (.iload 9, 2) := by decide +kernel
theorem dX11_hired_90 : decode cX11_hired 90 = .ok (.ifCond .lt 18, 3) := by decide +kernel
theorem dX11_hired_93 : decode cX11_hired 93 = .ok (.aload_n 0, 1) := by decide +kernel
theorem dX11_hired_94 : decode cX11_hired 94 = .ok (.iload 9, 2) := by decide +kernel
theorem dX11_hired_96 : decode cX11_hired 96 = .ok (.invokevirtual 179, 3) := by decide +kernel
theorem dX11_hired_99 : decode cX11_hired 99 = .ok (.iload 6, 2) := by decide +kernel
theorem dX11_hired_101 : decode cX11_hired 101 = .ok (.if_icmp .ge 7, 3) := by decide +kernel
theorem dX11_hired_104 : decode cX11_hired 104 = .ok (.iconst 1, 1) := by decide +kernel
theorem dX11_hired_105 : decode cX11_hired 105 = .ok (.goto 4, 3) := by decide +kernel
theorem dX11_hired_108 : decode cX11_hired 108 = .ok (.iconst 0, 1) := by decide +kernel
theorem dX11_hired_109 : decode cX11_hired 109 = .ok (.istore 10, 2) := by decide +kernel
theorem dX11_hired_111 : decode cX11_hired 111 = .ok (.iconst 0, 1) := by decide +kernel
theorem dX11_hired_112 : decode cX11_hired 112 = .ok (.istore 11, 2) := by decide +kernel
theorem dX11_hired_114 : decode cX11_hired 114 = .ok (.iload 11, 2) := by decide +kernel
theorem dX11_hired_116 : decode cX11_hired 116 = .ok (.bipush 10, 2) := by decide +kernel
theorem dX11_hired_118 : decode cX11_hired 118 = .ok (.if_icmp .ge 41, 3) := by decide +kernel
theorem dX11_hired_121 : decode cX11_hired 121 = .ok (.iload 10, 2) := by decide +kernel
theorem dX11_hired_123 : decode cX11_hired 123 = .ok (.ifCond .eq 36, 3) := by decide +kernel
theorem dX11_hired_126 : decode cX11_hired 126 = .ok (.aload_n 0, 1) := by decide +kernel
theorem dX11_hired_127 : decode cX11_hired 127 = .ok (.iload 11, 2) := by decide +kernel
theorem dX11_hired_129 : decode cX11_hired 129 = .ok (.invokevirtual 246, 3) := by decide +kernel
theorem dX11_hired_132 : decode cX11_hired 132 = .ok (.i2l, 1) := by decide +kernel
theorem dX11_hired_133 : decode cX11_hired 133 = .ok (.aload_n 0, 1) := by decide +kernel
theorem dX11_hired_134 : decode cX11_hired 134 = .ok (.iload_n 1, 1) := by decide +kernel
theorem dX11_hired_135 : decode cX11_hired 135 = .ok (.iload_n 3, 1) := by decide +kernel
theorem dX11_hired_136 : decode cX11_hired 136 = .ok (.iload 11, 2) := by decide +kernel
theorem dX11_hired_138 : decode cX11_hired 138 = .ok (.iadd, 1) := by decide +kernel
theorem dX11_hired_139 : decode cX11_hired 139 = .ok (.invokevirtual 249, 3) := by decide +kernel
theorem dX11_hired_142 : decode cX11_hired 142 = .ok (.lcmp, 1) := by decide +kernel
theorem dX11_hired_143 : decode cX11_hired 143 = .ok (.ifCond .lt 7, 3) := by decide +kernel
theorem dX11_hired_146 : decode cX11_hired 146 = .ok (.iconst 1, 1) := by decide +kernel
theorem dX11_hired_147 : decode cX11_hired 147 = .ok (.goto 4, 3) := by decide +kernel
theorem dX11_hired_150 : decode cX11_hired 150 = .ok (.iconst 0, 1) := by decide +kernel
theorem dX11_hired_151 : decode cX11_hired 151 = .ok (.istore 10, 2) := by decide +kernel
theorem dX11_hired_153 : decode cX11_hired 153 = .ok (.iinc 11 1, 3) := by decide +kernel
theorem dX11_hired_156 : decode cX11_hired 156 = .ok (.goto (-42), 3) := by decide +kernel
