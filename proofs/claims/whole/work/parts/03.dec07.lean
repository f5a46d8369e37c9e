theorem dX11_set_81 : decode cX11_set 81 = .ok (.iaload, 1) := by decide +kernel
theorem dX11_set_82 : decode cX11_set 82 = .ok (.istore 5, 2) := by decide +kernel
theorem dX11_set_84 : decode cX11_set 84 = .ok (.aload_n 0, 1) := by decide +kernel
theorem dX11_set_85 : decode cX11_set 85 = .ok (.getfield 7, 3) := by decide +kernel
theorem dX11_set_88 : decode cX11_set 88 = .ok (.iload 4, 2) := by decide +kernel
theorem dX11_set_90 : decode cX11_set 90 = .ok (.iload_n 3, 1) := by decide +kernel
theorem dX11_set_91 : decode cX11_set 91 = .ok (.iastore, 1) := by decide +kernel
theorem dX11_set_92 : decode cX11_set 92 = .ok (.iload 5, 2) := by decide +kernel
theorem dX11_set_94 : decode cX11_set 94 = .ok (.ireturn, 1) := by decide +kernel
theorem dX11_brings_0 : decode cX11_brings 0 = .ok (.iload_n 1, 1) := by decide +kernel
theorem dX11_brings_1 : decode cX11_brings 1 = .ok (.iconst 5, 1) := by decide +kernel
theorem dX11_brings_2 : decode cX11_brings 2 = .ok (.if_icmp .ne 5, 3) := by decide +kernel
theorem dX11_brings_5 : decode cX11_brings 5 = .ok (.iconst 0, 1) := by decide +kernel
theorem dX11_brings_6 : decode cX11_brings 6 = .ok (.ireturn, 1) := by decide +kernel
theorem dX11_brings_7 : decode cX11_brings 7 = .ok (.aload_n 0, 1) := by decide +kernel
theorem dX11_brings_8 : decode cX11_brings 8 = .ok (.getfield 7, 3) := by decide +kernel
theorem dX11_brings_11 : decode cX11_brings 11 = .ok (.bipush 44, 2) := by decide +kernel
theorem dX11_brings_13 : decode cX11_brings 13 = .ok (.iload_n 1, 1) := by decide +kernel
theorem dX11_brings_14 : decode cX11_brings 14 = .ok (.iadd, 1) := by decide +kernel
theorem dX11_brings_15 : decode cX11_brings 15 = .ok (.iaload, 1) := by decide +kernel
theorem dX11_brings_16 : decode cX11_brings 16 = .ok (.iconst 1, 1) := by decide +kernel
theorem dX11_brings_17 : decode cX11_brings 17 = .ok (.if_icmp .eq 16, 3) := by decide +kernel
theorem dX11_brings_20 : decode cX11_brings 20 = .ok (.aload_n 0, 1) := by decide +kernel
theorem dX11_brings_21 : decode cX11_brings 21 = .ok (.getfield 7, 3) := by decide +kernel
theorem dX11_brings_24 : decode cX11_brings 24 = .ok (.bipush 44, 2) := by decide +kernel
theorem dX11_brings_26 : decode cX11_brings 26 = .ok (.iload_n 1, 1) := by decide +kernel
theorem dX11_brings_27 : decode cX11_brings 27 = .ok (.iadd, 1) := by decide +kernel
theorem dX11_brings_28 : decode cX11_brings 28 = .ok (.iaload, 1) := by decide +kernel
theorem dX11_brings_29 : decode cX11_brings 29 = .ok (.iconst 3, 1) := by decide +kernel
theorem dX11_brings_30 : decode cX11_brings 30 = .ok (.if_icmp .ne 7, 3) := by decide +kernel
theorem dX11_brings_33 : decode cX11_brings 33 = .ok (.iconst 1, 1) := by decide +kernel
theorem dX11_brings_34 : decode cX11_brings 34 = .ok (.goto 4, 3) := by decide +kernel
theorem dX11_brings_37 : decode cX11_brings 37 = .ok (.iconst 0, 1) := by decide +kernel
theorem dX11_brings_38 : decode cX11_brings 38 = .ok (.istore_n 2, 1) := by decide +kernel
theorem dX11_brings_39 : decode cX11_brings 39 = .ok (.iload_n 2, 1) := by decide +kernel
theorem dX11_brings_40 : decode cX11_brings 40 = .ok (.ifCond .eq 18, 3) := by decide +kernel
theorem dX11_brings_43 : decode cX11_brings 43 = .ok (.bipush 10, 2) := by decide +kernel
theorem dX11_brings_45 : decode cX11_brings 45 = .ok (.aload_n 0, 1) := by decide +kernel
theorem dX11_brings_46 : decode cX11_brings 46 = .ok (.getfield 7, 3) := by decide +kernel
theorem dX11_brings_49 : decode cX11_brings 49 = .ok (.bipush 49, 2) := by decide +kernel
theorem dX11_brings_51 : decode cX11_brings 51 = .ok (.iload_n 1, 1) := by decide +kernel
theorem dX11_brings_52 : decode cX11_brings 52 = .ok (.iadd, 1) := by decide +kernel
theorem dX11_brings_53 : decode cX11_brings 53 = .ok (.iaload, 1) := by decide +kernel
theorem dX11_brings_54 : decode cX11_brings 54 = .ok (.isub, 1) := by decide +kernel
theorem dX11_brings_55 : decode cX11_brings 55 = .ok (.goto 12, 3) := by decide +kernel
theorem dX11_brings_58 : decode cX11_brings 58 = .ok (.aload_n 0, 1) := by decide +kernel
theorem dX11_brings_59 : decode cX11_brings 59 = .ok (.getfield 7, 3) := by decide +kernel
theorem dX11_brings_62 : decode cX11_brings 62 = .ok (.bipush 49, 2) := by decide +kernel
theorem dX11_brings_64 : decode cX11_brings 64 = .ok (.iload_n 1, 1) := by decide +kernel
theorem dX11_brings_65 : decode cX11_brings 65 = .ok (.iadd, 1) := by decide +kernel
theorem dX11_brings_66 : decode cX11_brings 66 = .ok (.iaload, 1) := by decide +kernel
theorem dX11_brings_67 : decode cX11_brings 67 = .ok (.ireturn, 1) := by decide +kernel
theorem dX11_told_0 : decode cX11_told 0 = .ok (.aload_n 0, 1) := by decide +kernel
theorem dX11_told_1 : decode cX11_told 1 = .ok (.iload_n 1, 1) := by decide +kernel
theorem dX11_told_2 : decode cX11_told 2 = .ok (.invokevirtual 71, 3) := by decide +kernel
theorem dX11_told_5 : decode cX11_told 5 = .ok (.ifCond .eq 15, 3) := by decide +kernel
theorem dX11_told_8 : decode cX11_told 8 = .ok (.iload_n 2, 1) := by decide +kernel
theorem dX11_told_9 : decode cX11_told 9 = .ok (.i2l, 1) := by decide +kernel
theorem dX11_told_10 : decode cX11_told 10 = .ok (.lconst 0, 1) := by decide +kernel
theorem dX11_told_11 : decode cX11_told 11 = .ok (.ldc2_w 74, 3) := by decide +kernel
theorem dX11_told_14 : decode cX11_told 14 = .ok (.invokestatic 51, 3) := by decide +kernel
theorem dX11_told_17 : decode cX11_told 17 = .ok (.ifCond .ne 5, 3) := by decide +kernel
theorem dX11_told_20 : decode cX11_told 20 = .ok (.iconst (-1), 1) := by decide +kernel
theorem dX11_told_21 : decode cX11_told 21 = .ok (.ireturn, 1) := by decide +kernel
theorem dX11_told_22 : decode cX11_told 22 = .ok (.iload_n 2, 1) := by decide +kernel
theorem dX11_told_23 : decode cX11_told 23 = .ok (.iconst 4, 1) := by decide +kernel
theorem dX11_told_24 : decode cX11_told 24 = .ok (.if_icmp .ne 11, 3) := by decide +kernel
theorem dX11_told_27 : decode cX11_told 27 = .ok (.aload_n 0, 1) := by decide +kernel
theorem dX11_told_28 : decode cX11_told 28 = .ok (.iload_n 1, 1) := by decide +kernel
theorem dX11_told_29 : decode cX11_told 29 = .ok (.invokevirtual 76, 3) := by decide +kernel
theorem dX11_told_32 : decode cX11_told 32 = .ok (.goto 16, 3) := by decide +kernel
theorem dX11_told_35 : decode cX11_told 35 = .ok (.aload_n 0, 1) := by decide +kernel
theorem dX11_told_36 : decode cX11_told 36 = .ok (.getfield 7, 3) := by decide +kernel
theorem dX11_told_39 : decode cX11_told 39 = .ok (.bipush 44, 2) := by decide +kernel
theorem dX11_told_41 : decode cX11_told 41 = .ok (.iconst 5, 1) := by decide +kernel
theorem dX11_told_42 : decode cX11_told 42 = .ok (.iload_n 2, 1) := by decide +kernel
theorem dX11_told_43 : decode cX11_told 43 = .ok (.imul, 1) := by decide +kernel
theorem dX11_told_44 : decode cX11_told 44 = .ok (.iadd, 1) := by decide +kernel
theorem dX11_told_45 : decode cX11_told 45 = .ok (.iload_n 1, 1) := by decide +kernel
theorem dX11_told_46 : decode cX11_told 46 = .ok (.iadd, 1) := by decide +kernel
theorem dX11_told_47 : decode cX11_told 47 = .ok (.iaload, 1) := by decide +kernel
theorem dX11_told_48 : decode cX11_told 48 = .ok (.ireturn, 1) := by decide +kernel
theorem dX11_of_0 : decode cX11_of 0 = .ok (.aload_n 0, 1) := by decide +kernel
theorem dX11_of_1 : decode cX11_of 1 = .ok (.iload_n 1, 1) := by decide +kernel
theorem dX11_of_2 : decode cX11_of 2 = .ok (.invokevirtual 61, 3) := by decide +kernel
theorem dX11_of_5 : decode cX11_of 5 = .ok (.ifCond .eq 31, 3) := by decide +kernel
theorem dX11_of_8 : decode cX11_of 8 = .ok (.iload_n 2, 1) := by decide +kernel
theorem dX11_of_9 : decode cX11_of 9 = .ok (.i2l, 1) := by decide +kernel
theorem dX11_of_10 : decode cX11_of 10 = .ok (.lconst 0, 1) := by decide +kernel
theorem dX11_of_11 : decode cX11_of 11 = .ok (.ldc2_w 80, 3) := by decide +kernel
theorem dX11_of_14 : decode cX11_of 14 = .ok (.invokestatic 51, 3) := by decide +kernel
theorem dX11_of_17 : decode cX11_of 17 = .ok (.ifCond .eq 19, 3) := by decide +kernel
theorem dX11_of_20 : decode cX11_of 20 = .ok (.aload_n 0, 1) := by decide +kernel
theorem dX11_of_21 : decode cX11_of 21 = .ok (.getfield 7, 3) := by decide +kernel
theorem dX11_of_24 : decode cX11_of 24 = .ok (.iconst 1, 1) := by decide +kernel
theorem dX11_of_25 : decode cX11_of 25 = .ok (.bipush 6, 2) := by decide +kernel
theorem dX11_of_27 : decode cX11_of 27 = .ok (.iload_n 2, 1) := by decide +kernel
theorem dX11_of_28 : decode cX11_of 28 = .ok (.imul, 1) := by decide +kernel
theorem dX11_of_29 : decode cX11_of 29 = .ok (.iadd, 1) := by decide +kernel
theorem dX11_of_30 : decode cX11_of 30 = .ok (.iload_n 1, 1) := by decide +kernel
theorem dX11_of_31 : decode cX11_of 31 = .ok (.iadd, 1) := by decide +kernel
theorem dX11_of_32 : decode cX11_of 32 = .ok (.iaload, 1) := by decide +kernel
theorem dX11_of_33 : decode cX11_of 33 = .ok (.goto 4, 3) := by decide +kernel
theorem dX11_of_36 : decode cX11_of 36 = .ok (.iconst (-1), 1) := by decide +kernel
theorem dX11_of_37 : decode cX11_of 37 = .ok (.ireturn, 1) := by decide +kernel
theorem dX11_price_0 : decode cX11_price 0 = .ok (.iload_n 1, 1) := by decide +kernel
theorem dX11_price_1 : decode cX11_price 1 = .ok (.i2l, 1) := by decide +kernel
theorem dX11_price_2 : decode cX11_price 2 = .ok (.lconst 0, 1) := by decide +kernel
theorem dX11_price_3 : decode cX11_price 3 = .ok (.ldc2_w 65, 3) := by decide +kernel
theorem dX11_price_6 : decode cX11_price 6 = .ok (.invokestatic 51, 3) := by decide +kernel
theorem dX11_price_9 : decode cX11_price 9 = .ok (.ifCond .eq 17, 3) := by decide +kernel
theorem dX11_price_12 : decode cX11_price 12 = .ok (.iload_n 2, 1) := by decide +kernel
theorem dX11_price_13 : decode cX11_price 13 = .ok (.i2l, 1) := by decide +kernel
theorem dX11_price_14 : decode cX11_price 14 = .ok (.ldc2_w 82, 3) := by decide +kernel
theorem dX11_price_17 : decode cX11_price 17 = .ok (.ldc2_w 67, 3) := by decide +kernel
theorem dX11_price_20 : decode cX11_price 20 = .ok (.invokestatic 51, 3) := by decide +kernel
theorem dX11_price_23 : decode cX11_price 23 = .ok (.ifCond .ne 6, 3) := by decide +kernel
theorem dX11_price_26 : decode cX11_price 26 = .ok (.ldc 84, 2) := by decide +kernel
theorem dX11_price_28 : decode cX11_price 28 = .ok (.ireturn, 1) := by decide +kernel
theorem dX11_price_29 : decode cX11_price 29 = .ok (.aload_n 0, 1) := by decide +kernel
theorem dX11_price_30 : decode cX11_price 30 = .ok (.getfield 7, 3) := by decide +kernel
theorem dX11_price_33 : decode cX11_price 33 = .ok (.bipush 64, 2) := by decide +kernel
theorem dX11_price_35 : decode cX11_price 35 = .ok (.iload_n 1, 1) := by decide +kernel
theorem dX11_price_36 : decode cX11_price 36 = .ok (.iadd, 1) := by decide +kernel
theorem dX11_price_37 : decode cX11_price 37 = .ok (.iaload, 1) := by decide +kernel
theorem dX11_price_38 : decode cX11_price 38 = .ok (.istore_n 3, 1) := by decide +kernel
theorem dX11_price_39 : decode cX11_price 39 = .ok (.aload_n 0, 1) := by decide +kernel
theorem dX11_price_40 : decode cX11_price 40 = .ok (.getfield 7, 3) := by decide +kernel
theorem dX11_price_43 : decode cX11_price 43 = .ok (.bipush 64, 2) := by decide +kernel
theorem dX11_price_45 : decode cX11_price 45 = .ok (.iload_n 1, 1) := by decide +kernel
theorem dX11_price_46 : decode cX11_price 46 = .ok (.iadd, 1) := by decide +kernel
theorem dX11_price_47 : decode cX11_price 47 = .ok (.iload_n 2, 1) := by decide +kernel
theorem dX11_price_48 : decode cX11_price 48 = .ok (.iastore, 1) := by decide +kernel
theorem dX11_price_49 : decode cX11_price 49 = .ok (.iload_n 3, 1) := by decide +kernel
theorem dX11_price_50 : decode cX11_price 50 = .ok (.ireturn, 1) := by decide +kernel
theorem dX11_isSet_0 : decode cX11_isSet 0 = .ok (.iload_n 1, 1) := by decide +kernel
theorem dX11_isSet_1 : decode cX11_isSet 1 = .ok (.i2l, 1) := by decide +kernel
theorem dX11_isSet_2 : decode cX11_isSet 2 = .ok (.lconst 0, 1) := by decide +kernel
theorem dX11_isSet_3 : decode cX11_isSet 3 = .ok (.iconst 1, 1) := by decide +kernel
theorem dX11_isSet_4 : decode cX11_isSet 4 = .ok (.aload_n 0, 1) := by decide +kernel
theorem dX11_isSet_5 : decode cX11_isSet 5 = .ok (.getfield 7, 3) := by decide +kernel
theorem dX11_isSet_8 : decode cX11_isSet 8 = .ok (.bipush 43, 2) := by decide +kernel
theorem dX11_isSet_10 : decode cX11_isSet 10 = .ok (.iaload, 1) := by decide +kernel
theorem dX11_isSet_11 : decode cX11_isSet 11 = .ok (.ishl, 1) := by decide +kernel
theorem dX11_isSet_12 : decode cX11_isSet 12 = .ok (.iconst 1, 1) := by decide +kernel
theorem dX11_isSet_13 : decode cX11_isSet 13 = .ok (.isub, 1) := by decide +kernel
theorem dX11_isSet_14 : decode cX11_isSet 14 = .ok (.i2l, 1) := by decide +kernel
theorem dX11_isSet_15 : decode cX11_isSet 15 = .ok (.invokestatic 51, 3) := by decide +kernel
theorem dX11_isSet_18 : decode cX11_isSet 18 = .ok (.ireturn, 1) := by decide +kernel
theorem dX11_fence_0 : decode cX11_fence 0 = .ok (.aload_n 0, 1) := by decide +kernel
theorem dX11_fence_1 : decode cX11_fence 1 = .ok (.iload_n 1, 1) := by decide +kernel
theorem dX11_fence_2 : decode cX11_fence 2 = .ok (.invokevirtual 61, 3) := by decide +kernel
theorem dX11_fence_5 : decode cX11_fence 5 = .ok (.ifCond .eq 11, 3) := by decide +kernel
theorem dX11_fence_8 : decode cX11_fence 8 = .ok (.aload_n 0, 1) := by decide +kernel
theorem dX11_fence_9 : decode cX11_fence 9 = .ok (.iload_n 2, 1) := by decide +kernel
theorem dX11_fence_10 : decode cX11_fence 10 = .ok (.invokevirtual 85, 3) := by decide +kernel
theorem dX11_fence_13 : decode cX11_fence 13 = .ok (.ifCond .ne 5, 3) := by decide +kernel
theorem dX11_fence_16 : decode cX11_fence 16 = .ok (.iconst (-1), 1) := by decide +kernel
theorem dX11_fence_17 : decode cX11_fence 17 = .ok (.ireturn, 1) := by decide +kernel
theorem dX11_fence_18 : decode cX11_fence 18 = .ok (.aload_n 0, 1) := by decide +kernel
theorem dX11_fence_19 : decode cX11_fence 19 = .ok (.getfield 7, 3) := by decide +kernel
theorem dX11_fence_22 : decode cX11_fence 22 = .ok (.bipush 7, 2) := by decide +kernel
theorem dX11_fence_24 : decode cX11_fence 24 = .ok (.iload_n 1, 1) := by decide +kernel
theorem dX11_fence_25 : decode cX11_fence 25 = .ok (.iadd, 1) := by decide +kernel
theorem dX11_fence_26 : decode cX11_fence 26 = .ok (.iaload, 1) := by decide +kernel
theorem dX11_fence_27 : decode cX11_fence 27 = .ok (.iconst 5, 1) := by decide +kernel
theorem dX11_fence_28 : decode cX11_fence 28 = .ok (.if_icmp .eq 22, 3) := by decide +kernel
theorem dX11_fence_31 : decode cX11_fence 31 = .ok (.iload_n 2, 1) := by decide +kernel
theorem dX11_fence_32 : decode cX11_fence 32 = .ok (.aload_n 0, 1) := by decide +kernel
theorem dX11_fence_33 : decode cX11_fence 33 = .ok (.getfield 7, 3) := by decide +kernel
theorem dX11_fence_36 : decode cX11_fence 36 = .ok (.bipush 7, 2) := by decide +kernel
theorem dX11_fence_38 : decode cX11_fence 38 = .ok (.iload_n 1, 1) := by decide +kernel
theorem dX11_fence_39 : decode cX11_fence 39 = .ok (.iadd, 1) := by decide +kernel
theorem dX11_fence_40 : decode cX11_fence 40 = .ok (.iaload, 1) := by decide +kernel
theorem dX11_fence_41 : decode cX11_fence 41 = .ok (.invokestatic 88, 3) := by decide +kernel
theorem dX11_fence_44 : decode cX11_fence 44 = .ok (.ifCond .eq 6, 3) := by decide +kernel
theorem dX11_fence_47 : decode cX11_fence 47 = .ok (.bipush (-2), 2) := by decide +kernel
theorem dX11_fence_49 : decode cX11_fence 49 = .ok (.ireturn, 1) := by decide +kernel
theorem dX11_fence_50 : decode cX11_fence 50 = .ok (.aload_n 0, 1) := by decide +kernel
theorem dX11_fence_51 : decode cX11_fence 51 = .ok (.getfield 7, 3) := by decide +kernel
theorem dX11_fence_54 : decode cX11_fence 54 = .ok (.bipush 37, 2) := by decide +kernel
theorem dX11_fence_56 : decode cX11_fence 56 = .ok (.iload_n 1, 1) := by decide +kernel
theorem dX11_fence_57 : decode cX11_fence 57 = .ok (.iadd, 1) := by decide +kernel
theorem dX11_fence_58 : decode cX11_fence 58 = .ok (.iaload, 1) := by decide +kernel
theorem dX11_fence_59 : decode cX11_fence 59 = .ok (.istore_n 3, 1) := by decide +kernel
theorem dX11_fence_60 : decode cX11_fence 60 = .ok (.aload_n 0, 1) := by decide +kernel
theorem dX11_fence_61 : decode cX11_fence 61 = .ok (.getfield 7, 3) := by decide +kernel
theorem dX11_fence_64 : decode cX11_fence 64 = .ok (.bipush 37, 2) := by decide +kernel
theorem dX11_fence_66 : decode cX11_fence 66 = .ok (.iload_n 1, 1) := by decide +kernel
theorem dX11_fence_67 : decode cX11_fence 67 = .ok (.iadd, 1) := by decide +kernel
theorem dX11_fence_68 : decode cX11_fence 68 = .ok (.iload_n 2, 1) := by decide +kernel
theorem dX11_fence_69 : decode cX11_fence 69 = .ok (.iastore, 1) := by decide +kernel
theorem dX11_fence_70 : decode cX11_fence 70 = .ok (.iload_n 3, 1) := by decide +kernel
theorem dX11_fence_71 : decode cX11_fence 71 = .ok (.ireturn, 1) := by decide +kernel
theorem dX11_climb_0 : decode cX11_climb 0 = .ok (.aload_n 0, 1) := by decide +kernel
theorem dX11_climb_1 : decode cX11_climb 1 = .ok (.iload_n 1, 1) := by decide +kernel
theorem dX11_climb_2 : decode cX11_climb 2 = .ok (.invokevirtual 61, 3) := by decide +kernel
theorem dX11_climb_5 : decode cX11_climb 5 = .ok (.ifCond .eq 16, 3) := by decide +kernel
theorem dX11_climb_8 : decode cX11_climb 8 = .ok (.aload_n 0, 1) := by decide +kernel
theorem dX11_climb_9 : decode cX11_climb 9 = .ok (.iload_n 2, 1) := by decide +kernel
theorem dX11_climb_10 : decode cX11_climb 10 = .ok (.invokevirtual 71, 3) := by decide +kernel
theorem dX11_climb_13 : decode cX11_climb 13 = .ok (.ifCond .ne 10, 3) := by decide +kernel
theorem dX11_climb_16 : decode cX11_climb 16 = .ok (.iload_n 2, 1) := by decide +kernel
theorem dX11_climb_17 : decode cX11_climb 17 = .ok (.iconst 5, 1) := by decide +kernel
theorem dX11_climb_18 : decode cX11_climb 18 = .ok (.if_icmp .eq 5, 3) := by decide +kernel
theorem dX11_climb_21 : decode cX11_climb 21 = .ok (.iconst (-1), 1) := by decide +kernel
theorem dX11_climb_22 : decode cX11_climb 22 = .ok (.ireturn, 1) := by decide +kernel
theorem dX11_climb_23 : decode cX11_climb 23 = .ok (.iload_n 2, 1) := by decide +kernel
theorem dX11_climb_24 : decode cX11_climb 24 = .ok (.iconst 5, 1) := by decide +kernel
theorem dX11_climb_25 : decode cX11_climb 25 = .ok (.if_icmp .eq 19, 3) := by decide +kernel
theorem dX11_climb_28 : decode cX11_climb 28 = .ok (.aload_n 0, 1) := by decide +kernel
theorem dX11_climb_29 : decode cX11_climb 29 = .ok (.getfield 7, 3) := by decide +kernel
theorem dX11_climb_32 : decode cX11_climb 32 = .ok (.bipush 37, 2) := by decide +kernel
theorem dX11_climb_34 : decode cX11_climb 34 = .ok (.iload_n 1, 1) := by decide +kernel
theorem dX11_climb_35 : decode cX11_climb 35 = .ok (.iadd, 1) := by decide +kernel
theorem dX11_climb_36 : decode cX11_climb 36 = .ok (.iaload, 1) := by decide +kernel
theorem dX11_climb_37 : decode cX11_climb 37 = .ok (.iload_n 2, 1) := by decide +kernel
theorem dX11_climb_38 : decode cX11_climb 38 = .ok (.invokestatic 88, 3) := by decide +kernel
theorem dX11_climb_41 : decode cX11_climb 41 = .ok (.ifCond .ne 7, 3) := by decide +kernel
theorem dX11_climb_44 : decode cX11_climb 44 = .ok (.iconst 1, 1) := by decide +kernel
theorem dX11_climb_45 : decode cX11_climb 45 = .ok (.goto 4, 3) := by decide +kernel
theorem dX11_climb_48 : decode cX11_climb 48 = .ok (.iconst 0, 1) := by decide +kernel
theorem dX11_climb_49 : decode cX11_climb 49 = .ok (.istore_n 3, 1) := by decide +kernel
theorem dX11_climb_50 : decode cX11_climb 50 = .ok (.iconst 0, 1) := by decide +kernel
theorem dX11_climb_51 : decode cX11_climb 51 = .ok (.istore 4, 2) := by decide +kernel
theorem dX11_climb_53 : decode cX11_climb 53 = .ok (.iload 4, 2) := by decide +kernel
theorem dX11_climb_55 : decode cX11_climb 55 = .ok (.aload_n 0, 1) := by decide +kernel
theorem dX11_climb_56 : decode cX11_climb 56 = .ok (.getfield 7, 3) := by decide +kernel
theorem dX11_climb_59 : decode cX11_climb 59 = .ok (.iconst 0, 1) := by decide +kernel
theorem dX11_climb_60 : decode cX11_climb 60 = .ok (.iaload, 1) := by decide +kernel
theorem dX11_climb_61 : decode cX11_climb 61 = .ok (.if_icmp .ge 57, 3) := by decide +kernel
theorem dX11_climb_64 : decode cX11_climb 64 = .ok (.iload_n 3, 1) := by decide +kernel
theorem dX11_climb_65 : decode cX11_climb 65 = .ok (.ifCond .eq 45, 3) := by decide +kernel
theorem dX11_climb_68 : decode cX11_climb 68 = .ok (.iload_n 2, 1) := by decide +kernel
theorem dX11_climb_69 : decode cX11_climb 69 = .ok (.iconst 5, 1) := by decide +kernel
theorem dX11_climb_70 : decode cX11_climb 70 = .ok (.if_icmp .eq 36, 3) := by decide +kernel
theorem dX11_climb_73 : decode cX11_climb 73 = .ok (.iload 4, 2) := by decide +kernel
theorem dX11_climb_75 : decode cX11_climb 75 = .ok (.iload_n 1, 1) := by decide +kernel
theorem dX11_climb_76 : decode cX11_climb 76 = .ok (.if_icmp .eq 30, 3) := by decide +kernel
theorem dX11_climb_79 : decode cX11_climb 79 = .ok (.aload_n 0, 1) := by decide +kernel
theorem dX11_climb_80 : decode cX11_climb 80 = .ok (.getfield 7, 3) := by decide +kernel
theorem dX11_climb_83 : decode cX11_climb 83 = .ok (.bipush 7, 2) := by decide +kernel
theorem dX11_climb_85 : decode cX11_climb 85 = .ok (.iload 4, 2) := by decide +kernel
theorem dX11_climb_87 : decode cX11_climb 87 = .ok (.iadd, 1) := by decide +kernel
theorem dX11_climb_88 : decode cX11_climb 88 = .ok (.iaload, 1) := by decide +kernel
theorem dX11_climb_89 : decode cX11_climb 89 = .ok (.iload_n 2, 1) := by decide +kernel
theorem dX11_climb_90 : decode cX11_climb 90 = .ok (.if_icmp .ne 16, 3) := by decide +kernel
theorem dX11_climb_93 : decode cX11_climb 93 = .ok (.aload_n 0, 1) := by decide +kernel
theorem dX11_climb_94 : decode cX11_climb 94 = .ok (.getfield 7, 3) := by decide +kernel
theorem dX11_climb_97 : decode cX11_climb 97 = .ok (.bipush 44, 2) := by decide +kernel
theorem dX11_climb_99 : decode cX11_climb 99 = .ok (.iload_n 2, 1) := by decide +kernel
theorem dX11_climb_100 : decode cX11_climb 100 = .ok (.iadd, 1) := by decide +kernel
theorem dX11_climb_101 : decode cX11_climb 101 = .ok (.iaload, 1) := by decide +kernel
theorem dX11_climb_102 : decode cX11_climb 102 = .ok (.iconst 2, 1) := by decide +kernel
theorem dX11_climb_103 : decode cX11_climb 103 = .ok (.if_icmp .ne 7, 3) := by decide +kernel
theorem dX11_climb_106 : decode cX11_climb 106 = .ok (.iconst 1, 1) := by decide +kernel
theorem dX11_climb_107 : decode cX11_climb 107 = .ok (.goto 4, 3) := by decide +kernel
theorem dX11_climb_110 : decode cX11_climb 110 = .ok (.iconst 0, 1) := by decide +kernel
theorem dX11_climb_111 : decode cX11_climb 111 = .ok (.istore_n 3, 1) := by decide +kernel
theorem dX11_climb_112 : decode cX11_climb 112 = .ok (.iinc 4 1, 3) := by decide +kernel
theorem dX11_climb_115 : decode cX11_climb 115 = .ok (.goto (-62), 3) := by decide +kernel
theorem dX11_climb_118 : decode cX11_climb 118 = .ok (.iload_n 3, 1) := by decide +kernel
theorem dX11_climb_119 : decode cX11_climb 119 = .ok (.ifCond .ne 6, 3) := by decide +kernel
theorem dX11_climb_122 : decode cX11_climb 122 = .ok (.bipush (-2), 2) := by decide +kernel
theorem dX11_climb_124 : decode cX11_climb 124 = .ok (.ireturn, 1) := by decide +kernel
theorem dX11_climb_125 : decode cX11_climb 125 = .ok (.aload_n 0, 1) := by decide +kernel
theorem dX11_climb_126 : decode cX11_climb 126 = .ok (.getfield 7, 3) := by decide +kernel
theorem dX11_climb_129 : decode cX11_climb 129 = .ok (.bipush 7, 2) := by decide +kernel
theorem dX11_climb_131 : decode cX11_climb 131 = .ok (.iload_n 1, 1) := by decide +kernel
theorem dX11_climb_132 : decode cX11_climb 132 = .ok (.iadd, 1) := by decide +kernel
theorem dX11_climb_133 : decode cX11_climb 133 = .ok (.iaload, 1) := by decide +kernel
theorem dX11_climb_134 : decode cX11_climb 134 = .ok (.istore 4, 2) := by decide +kernel
theorem dX11_climb_136 : decode cX11_climb 136 = .ok (.aload_n 0, 1) := by decide +kernel
theorem dX11_climb_137 : decode cX11_climb 137 = .ok (.getfield 7, 3) := by decide +kernel
theorem dX11_climb_140 : decode cX11_climb 140 = .ok (.bipush 7, 2) := by decide +kernel
theorem dX11_climb_142 : decode cX11_climb 142 = .ok (.iload_n 1, 1) := by decide +kernel
theorem dX11_climb_143 : decode cX11_climb 143 = .ok (.iadd, 1) := by decide +kernel
theorem dX11_climb_144 : decode cX11_climb 144 = .ok (.iload_n 2, 1) := by decide +kernel
theorem dX11_climb_145 : decode cX11_climb 145 = .ok (.iastore, 1) := by decide +kernel
theorem dX11_climb_146 : decode cX11_climb 146 = .ok (.iload 4, 2) := by decide +kernel
theorem dX11_climb_148 : decode cX11_climb 148 = .ok (.ireturn, 1) := by decide +kernel
theorem dX11_type_0 : decode cX11_type 0 = .ok (.iload_n 1, 1) := by decide +kernel
theorem dX11_type_1 : decode cX11_type 1 = .ok (.i2l, 1) := by decide +kernel
theorem dX11_type_2 : decode cX11_type 2 = .ok (.ldc2_w 92, 3) := by decide +kernel
theorem dX11_type_5 : decode cX11_type 5 = .ok (.ldc2_w 94, 3) := by decide +kernel
theorem dX11_type_8 : decode cX11_type 8 = .ok (.invokestatic 51, 3) := by decide +kernel
theorem dX11_type_11 : decode cX11_type 11 = .ok (.ifCond .ne 5, 3) := by decide +kernel
theorem dX11_type_14 : decode cX11_type 14 = .ok (.iconst (-1), 1) := by decide +kernel
theorem dX11_type_15 : decode cX11_type 15 = .ok (.ireturn, 1) := by decide +kernel
theorem dX11_type_16 : decode cX11_type 16 = .ok (.aload_n 0, 1) := by decide +kernel
theorem dX11_type_17 : decode cX11_type 17 = .ok (.getfield 96, 3) := by decide +kernel
theorem dX11_type_20 : decode cX11_type 20 = .ok (.bipush 60, 2) := by decide +kernel
theorem dX11_type_22 : decode cX11_type 22 = .ok (.if_icmp .ne 6, 3) := by decide +kernel
theorem dX11_type_25 : decode cX11_type 25 = .ok (.bipush (-3), 2) := by decide +kernel
theorem dX11_type_27 : decode cX11_type 27 = .ok (.ireturn, 1) := by decide +kernel
theorem dX11_type_28 : decode cX11_type 28 = .ok (.aload_n 0, 1) := by decide +kernel
theorem dX11_type_29 : decode cX11_type 29 = .ok (.getfield 13, 3) := by decide +kernel
theorem dX11_type_32 : decode cX11_type 32 = .ok (.aload_n 0, 1) := by decide +kernel
theorem dX11_type_33 : decode cX11_type 33 = .ok (.getfield 96, 3) := by decide +kernel
theorem dX11_type_36 : decode cX11_type 36 = .ok (.iload_n 1, 1) := by decide +kernel
theorem dX11_type_37 : decode cX11_type 37 = .ok (.iastore, 1) := by decide +kernel
theorem dX11_type_38 : decode cX11_type 38 = .ok (.aload_n 0, 1) := by decide +kernel
theorem dX11_type_39 : decode cX11_type 39 = .ok (.dup, 1) := by decide +kernel
theorem dX11_type_40 : decode cX11_type 40 = .ok (.getfield 96, 3) := by decide +kernel
theorem dX11_type_43 : decode cX11_type 43 = .ok (.iconst 1, 1) := by decide +kernel
theorem dX11_type_44 : decode cX11_type 44 = .ok (.iadd, 1) := by decide +kernel
theorem dX11_type_45 : decode cX11_type 45 = .ok (.putfield 96, 3) := by decide +kernel
theorem dX11_type_48 : decode cX11_type 48 = .ok (.aload_n 0, 1) := by decide +kernel
theorem dX11_type_49 : decode cX11_type 49 = .ok (.getfield 96, 3) := by decide +kernel
theorem dX11_type_52 : decode cX11_type 52 = .ok (.ireturn, 1) := by decide +kernel
theorem dX11_ahead_0 : decode cX11_ahead 0 = .ok (.aload_n 0, 1) := by decide +kernel
theorem dX11_ahead_1 : decode cX11_ahead 1 = .ok (.getfield 100, 3) := by decide +kernel
theorem dX11_ahead_4 : decode cX11_ahead 4 = .ok (.aload_n 0, 1) := by decide +kernel
theorem dX11_ahead_5 : decode cX11_ahead 5 = .ok (.getfield 96, 3) := by decide +kernel
theorem dX11_ahead_8 : decode cX11_ahead 8 = .ok (.if_icmp .ge 30, 3) := by decide +kernel
theorem dX11_ahead_11 : decode cX11_ahead 11 = .ok (.aload_n 0, 1) := by decide +kernel
theorem dX11_ahead_12 : decode cX11_ahead 12 = .ok (.getfield 13, 3) := by decide +kernel
theorem dX11_ahead_15 : decode cX11_ahead 15 = .ok (.aload_n 0, 1) := by decide +kernel
theorem dX11_ahead_16 : decode cX11_ahead 16 = .ok (.getfield 100, 3) := by decide +kernel
theorem dX11_ahead_19 : decode cX11_ahead 19 = .ok (.iaload, 1) := by decide +kernel
theorem dX11_ahead_20 : decode cX11_ahead 20 = .ok (.bipush 32, 2) := by decide +kernel
theorem dX11_ahead_22 : decode cX11_ahead 22 = .ok (.if_icmp .ne 16, 3) := by decide +kernel
theorem dX11_ahead_25 : decode cX11_ahead 25 = .ok (.aload_n 0, 1) := by decide +kernel
theorem dX11_ahead_26 : decode cX11_ahead 26 = .ok (.dup, 1) := by decide +kernel
theorem dX11_ahead_27 : decode cX11_ahead 27 = .ok (.getfield 100, 3) := by decide +kernel
theorem dX11_ahead_30 : decode cX11_ahead 30 = .ok (.iconst 1, 1) := by decide +kernel
theorem dX11_ahead_31 : decode cX11_ahead 31 = .ok (.iadd, 1) := by decide +kernel
theorem dX11_ahead_32 : decode cX11_ahead 32 = .ok (.putfield 100, 3) := by decide +kernel
theorem dX11_ahead_35 : decode cX11_ahead 35 = .ok (.goto (-35), 3) := by decide +kernel
theorem dX11_ahead_38 : decode cX11_ahead 38 = .ok (.aload_n 0, 1) := by decide +kernel
theorem dX11_ahead_39 : decode cX11_ahead 39 = .ok (.getfield 100, 3) := by decide +kernel
theorem dX11_ahead_42 : decode cX11_ahead 42 = .ok (.aload_n 0, 1) := by decide +kernel
theorem dX11_ahead_43 : decode cX11_ahead 43 = .ok (.getfield 96, 3) := by decide +kernel
theorem dX11_ahead_46 : decode cX11_ahead 46 = .ok (.if_icmp .ge 15, 3) := by decide +kernel
theorem dX11_ahead_49 : decode cX11_ahead 49 = .ok (.aload_n 0, 1) := by decide +kernel
theorem dX11_ahead_50 : decode cX11_ahead 50 = .ok (.getfield 13, 3) := by decide +kernel
theorem dX11_ahead_53 : decode cX11_ahead 53 = .ok (.aload_n 0, 1) := by decide +kernel
theorem dX11_ahead_54 : decode cX11_ahead 54 = .ok (.getfield 100, 3) := by decide +kernel
theorem dX11_ahead_57 : decode cX11_ahead 57 = .ok (.iaload, 1) := by decide +kernel
theorem dX11_ahead_58 : decode cX11_ahead 58 = .ok (.goto 4, 3) := by decide +kernel
theorem dX11_ahead_61 : decode cX11_ahead 61 = .ok (.iconst (-1), 1) := by decide +kernel
theorem dX11_ahead_62 : decode cX11_ahead 62 = .ok (.ireturn, 1) := by decide +kernel
theorem dX11_whoIs_0 : decode cX11_whoIs 0 = .ok (.iload_n 1, 1) := by decide +kernel
theorem dX11_whoIs_1 : decode cX11_whoIs 1 = .ok (.bipush 102, 2) := by decide +kernel
theorem dX11_whoIs_3 : decode cX11_whoIs 3 = .ok (.if_icmp .ne 7, 3) := by decide +kernel
theorem dX11_whoIs_6 : decode cX11_whoIs 6 = .ok (.iconst 5, 1) := by decide +kernel
theorem dX11_whoIs_7 : decode cX11_whoIs 7 = .ok (.goto 36, 3) := by decide +kernel
theorem dX11_whoIs_10 : decode cX11_whoIs 10 = .ok (.iload_n 1, 1) := by decide +kernel
theorem dX11_whoIs_11 : decode cX11_whoIs 11 = .ok (.i2l, 1) := by decide +kernel
theorem dX11_whoIs_12 : decode cX11_whoIs 12 = .ok (.ldc2_w 103, 3) := by decide +kernel
theorem dX11_whoIs_15 : decode cX11_whoIs 15 = .ok (.ldc2_w 105, 3) := by decide +kernel
theorem dX11_whoIs_18 : decode cX11_whoIs 18 = .ok (.invokestatic 51, 3) := by decide +kernel
theorem dX11_whoIs_21 : decode cX11_whoIs 21 = .ok (.ifCond .eq 21, 3) := by decide +kernel
theorem dX11_whoIs_24 : decode cX11_whoIs 24 = .ok (.aload_n 0, 1) := by decide +kernel
theorem dX11_whoIs_25 : decode cX11_whoIs 25 = .ok (.iload_n 1, 1) := by decide +kernel
theorem dX11_whoIs_26 : decode cX11_whoIs 26 = .ok (.bipush 97, 2) := by decide +kernel
theorem dX11_whoIs_28 : decode cX11_whoIs 28 = .ok (.isub, 1) := by decide +kernel
theorem dX11_whoIs_29 : decode cX11_whoIs 29 = .ok (.invokevirtual 71, 3) := by decide +kernel
theorem dX11_whoIs_32 : decode cX11_whoIs 32 = .ok (.ifCond .eq 10, 3) := by decide +kernel
theorem dX11_whoIs_35 : decode cX11_whoIs 35 = .ok (.iload_n 1, 1) := by decide +kernel
theorem dX11_whoIs_36 : decode cX11_whoIs 36 = .ok (.bipush 97, 2) := by decide +kernel
theorem dX11_whoIs_38 : decode cX11_whoIs 38 = .ok (.isub, 1) := by decide +kernel
theorem dX11_whoIs_39 : decode cX11_whoIs 39 = .ok (.goto 4, 3) := by decide +kernel
theorem dX11_whoIs_42 : decode cX11_whoIs 42 = .ok (.iconst (-1), 1) := by decide +kernel
theorem dX11_whoIs_43 : decode cX11_whoIs 43 = .ok (.ireturn, 1) := by decide +kernel
theorem dX11_takesTree_0 : decode cX11_takesTree 0 = .ok (.aload_n 0, 1) := by decide +kernel
theorem dX11_takesTree_1 : decode cX11_takesTree 1 = .ok (.invokevirtual 107, 3) := by decide +kernel
theorem dX11_takesTree_4 : decode cX11_takesTree 4 = .ok (.istore_n 1, 1) := by decide +kernel
theorem dX11_takesTree_5 : decode cX11_takesTree 5 = .ok (.iload_n 1, 1) := by decide +kernel
theorem dX11_takesTree_6 : decode cX11_takesTree 6 = .ok (.bipush 80, 2) := by decide +kernel
theorem dX11_takesTree_8 : decode cX11_takesTree 8 = .ok (.if_icmp .ne 7, 3) := by decide +kernel
theorem dX11_takesTree_11 : decode cX11_takesTree 11 = .ok (.iconst 0, 1) := by decide +kernel
theorem dX11_takesTree_12 : decode cX11_takesTree 12 = .ok (.goto 34, 3) := by decide +kernel
theorem dX11_takesTree_15 : decode cX11_takesTree 15 = .ok (.iload_n 1, 1) := by decide +kernel
theorem dX11_takesTree_16 : decode cX11_takesTree 16 = .ok (.bipush 71, 2) := by decide +kernel
theorem dX11_takesTree_18 : decode cX11_takesTree 18 = .ok (.if_icmp .ne 7, 3) := by decide +kernel
theorem dX11_takesTree_21 : decode cX11_takesTree 21 = .ok (.iconst 1, 1) := by decide +kernel
theorem dX11_takesTree_22 : decode cX11_takesTree 22 = .ok (.goto 24, 3) := by decide +kernel
theorem dX11_takesTree_25 : decode cX11_takesTree 25 = .ok (.iload_n 1, 1) := by decide +kernel
theorem dX11_takesTree_26 : decode cX11_takesTree 26 = .ok (.bipush 68, 2) := by decide +kernel
theorem dX11_takesTree_28 : decode cX11_takesTree 28 = .ok (.if_icmp .ne 7, 3) := by decide +kernel
theorem dX11_takesTree_31 : decode cX11_takesTree 31 = .ok (.iconst 2, 1) := by decide +kernel
theorem dX11_takesTree_32 : decode cX11_takesTree 32 = .ok (.goto 14, 3) := by decide +kernel
theorem dX11_takesTree_35 : decode cX11_takesTree 35 = .ok (.iload_n 1, 1) := by decide +kernel
theorem dX11_takesTree_36 : decode cX11_takesTree 36 = .ok (.bipush 83, 2) := by decide +kernel
theorem dX11_takesTree_38 : decode cX11_takesTree 38 = .ok (.if_icmp .ne 7, 3) := by decide +kernel
theorem dX11_takesTree_41 : decode cX11_takesTree 41 = .ok (.iconst 3, 1) := by decide +kernel
theorem dX11_takesTree_42 : decode cX11_takesTree 42 = .ok (.goto 4, 3) := by decide +kernel
theorem dX11_takesTree_45 : decode cX11_takesTree 45 = .ok (.iconst (-1), 1) := by decide +kernel
theorem dX11_takesTree_46 : decode cX11_takesTree 46 = .ok (.istore_n 2, 1) := by decide +kernel
theorem dX11_takesTree_47 : decode cX11_takesTree 47 = .ok (.iload_n 2, 1) := by decide +kernel
theorem dX11_takesTree_48 : decode cX11_takesTree 48 = .ok (.ifCond .ge 5, 3) := by decide +kernel
theorem dX11_takesTree_51 : decode cX11_takesTree 51 = .ok (.iconst 0, 1) := by decide +kernel
theorem dX11_takesTree_52 : decode cX11_takesTree 52 = .ok (.ireturn, 1) := by decide +kernel
theorem dX11_takesTree_53 : decode cX11_takesTree 53 = .ok (.aload_n 0, 1) := by decide +kernel
theorem dX11_takesTree_54 : decode cX11_takesTree 54 = .ok (.getfield 16, 3) := by decide +kernel
theorem dX11_takesTree_57 : decode cX11_takesTree 57 = .ok (.iconst 3, 1) := by decide +kernel
theorem dX11_takesTree_58 : decode cX11_takesTree 58 = .ok (.aload_n 0, 1) := by decide +kernel
theorem dX11_takesTree_59 : decode cX11_takesTree 59 = .ok (.getfield 111, 3) := by decide +kernel
theorem dX11_takesTree_62 : decode cX11_takesTree 62 = .ok (.imul, 1) := by decide +kernel
theorem dX11_takesTree_63 : decode cX11_takesTree 63 = .ok (.iload_n 2, 1) := by decide +kernel
theorem dX11_takesTree_64 : decode cX11_takesTree 64 = .ok (.iastore, 1) := by decide +kernel
theorem dX11_takesTree_65 : decode cX11_takesTree 65 = .ok (.aload_n 0, 1) := by decide +kernel
theorem dX11_takesTree_66 : decode cX11_takesTree 66 = .ok (.getfield 16, 3) := by decide +kernel
theorem dX11_takesTree_69 : decode cX11_takesTree 69 = .ok (.iconst 3, 1) := by decide +kernel
theorem dX11_takesTree_70 : decode cX11_takesTree 70 = .ok (.aload_n 0, 1) := by decide +kernel
theorem dX11_takesTree_71 : decode cX11_takesTree 71 = .ok (.getfield 111, 3) := by decide +kernel
theorem dX11_takesTree_74 : decode cX11_takesTree 74 = .ok (.imul, 1) := by decide +kernel
theorem dX11_takesTree_75 : decode cX11_takesTree 75 = .ok (.iconst 1, 1) := by decide +kernel
theorem dX11_takesTree_76 : decode cX11_takesTree 76 = .ok (.iadd, 1) := by decide +kernel
theorem dX11_takesTree_77 : decode cX11_takesTree 77 = .ok (.iconst 5, 1) := by decide +kernel
theorem dX11_takesTree_78 : decode cX11_takesTree 78 = .ok (.iastore, 1) := by decide +kernel
theorem dX11_takesTree_79 : decode cX11_takesTree 79 = .ok (.aload_n 0, 1) := by decide +kernel
theorem dX11_takesTree_80 : decode cX11_takesTree 80 = .ok (.getfield 16, 3) := by decide +kernel
theorem dX11_takesTree_83 : decode cX11_takesTree 83 = .ok (.iconst 3, 1) := by decide +kernel
theorem dX11_takesTree_84 : decode cX11_takesTree 84 = .ok (.aload_n 0, 1) := by decide +kernel
theorem dX11_takesTree_85 : decode cX11_takesTree 85 = .ok (.getfield 111, 3) := by decide +kernel
theorem dX11_takesTree_88 : decode cX11_takesTree 88 = .ok (.imul, 1) := by decide +kernel
theorem dX11_takesTree_89 : decode cX11_takesTree 89 = .ok (.iconst 2, 1) := by decide +kernel
theorem dX11_takesTree_90 : decode cX11_takesTree 90 = .ok (.iadd, 1) := by decide +kernel
theorem dX11_takesTree_91 : decode cX11_takesTree 91 = .ok (.iconst 5, 1) := by decide +kernel
theorem dX11_takesTree_92 : decode cX11_takesTree 92 = .ok (.iastore, 1) := by decide +kernel
theorem dX11_takesTree_93 : decode cX11_takesTree 93 = .ok (.aload_n 0, 1) := by decide +kernel
theorem dX11_takesTree_94 : decode cX11_takesTree 94 = .ok (.dup, 1) := by decide +kernel
theorem dX11_takesTree_95 : decode cX11_takesTree 95 = .ok (.getfield 100, 3) := by decide +kernel
theorem dX11_takesTree_98 : decode cX11_takesTree 98 = .ok (.iconst 1, 1) := by decide +kernel
theorem dX11_takesTree_99 : decode cX11_takesTree 99 = .ok (.iadd, 1) := by decide +kernel
theorem dX11_takesTree_100 : decode cX11_takesTree 100 = .ok (.putfield 100, 3) := by decide +kernel
theorem dX11_takesTree_103 : decode cX11_takesTree 103 = .ok (.iconst 1, 1) := by decide +kernel
theorem dX11_takesTree_104 : decode cX11_takesTree 104 = .ok (.istore_n 3, 1) := by decide +kernel
theorem dX11_takesTree_105 : decode cX11_takesTree 105 = .ok (.iload_n 3, 1) := by decide +kernel
theorem dX11_takesTree_106 : decode cX11_takesTree 106 = .ok (.iconst 3, 1) := by decide +kernel
theorem dX11_takesTree_107 : decode cX11_takesTree 107 = .ok (.if_icmp .ge 51, 3) := by decide +kernel
theorem dX11_takesTree_110 : decode cX11_takesTree 110 = .ok (.aload_n 0, 1) := by decide +kernel
theorem dX11_takesTree_111 : decode cX11_takesTree 111 = .ok (.aload_n 0, 1) := by decide +kernel
theorem dX11_takesTree_112 : decode cX11_takesTree 112 = .ok (.invokevirtual 107, 3) := by decide +kernel
theorem dX11_takesTree_115 : decode cX11_takesTree 115 = .ok (.invokevirtual 114, 3) := by decide +kernel
theorem dX11_takesTree_118 : decode cX11_takesTree 118 = .ok (.ifCond .lt 40, 3) := by decide +kernel
theorem dX11_takesTree_121 : decode cX11_takesTree 121 = .ok (.aload_n 0, 1) := by decide +kernel
theorem dX11_takesTree_122 : decode cX11_takesTree 122 = .ok (.getfield 16, 3) := by decide +kernel
theorem dX11_takesTree_125 : decode cX11_takesTree 125 = .ok (.iconst 3, 1) := by decide +kernel
theorem dX11_takesTree_126 : decode cX11_takesTree 126 = .ok (.aload_n 0, 1) := by decide +kernel
theorem dX11_takesTree_127 : decode cX11_takesTree 127 = .ok (.getfield 111, 3) := by decide +kernel
theorem dX11_takesTree_130 : decode cX11_takesTree 130 = .ok (.imul, 1) := by decide +kernel
theorem dX11_takesTree_131 : decode cX11_takesTree 131 = .ok (.iload_n 3, 1) := by decide +kernel
theorem dX11_takesTree_132 : decode cX11_takesTree 132 = .ok (.iadd, 1) := by decide +kernel
theorem dX11_takesTree_133 : decode cX11_takesTree 133 = .ok (.aload_n 0, 1) := by decide +kernel
theorem dX11_takesTree_134 : decode cX11_takesTree 134 = .ok (.aload_n 0, 1) := by decide +kernel
theorem dX11_takesTree_135 : decode cX11_takesTree 135 = .ok (.invokevirtual 107, 3) := by decide +kernel
theorem dX11_takesTree_138 : decode cX11_takesTree 138 = .ok (.invokevirtual 114, 3) := by decide +kernel
theorem dX11_takesTree_141 : decode cX11_takesTree 141 = .ok (.iastore, 1) := by decide +kernel
theorem dX11_takesTree_142 : decode cX11_takesTree 142 = .ok (.aload_n 0, 1) := by decide +kernel
theorem dX11_takesTree_143 : decode cX11_takesTree 143 = .ok (.dup, 1) := by decide +kernel
theorem dX11_takesTree_144 : decode cX11_takesTree 144 = .ok (.getfield 100, 3) := by decide +kernel
theorem dX11_takesTree_147 : decode cX11_takesTree 147 = .ok (.iconst 1, 1) := by decide +kernel
theorem dX11_takesTree_148 : decode cX11_takesTree 148 = .ok (.iadd, 1) := by decide +kernel
theorem dX11_takesTree_149 : decode cX11_takesTree 149 = .ok (.putfield 100, 3) := by decide +kernel
theorem dX11_takesTree_152 : decode cX11_takesTree 152 = .ok (.iinc 3 1, 3) := by decide +kernel
theorem dX11_takesTree_155 : decode cX11_takesTree 155 = .ok (.goto (-50), 3) := by decide +kernel
theorem dX11_takesTree_158 : decode cX11_takesTree 158 = .ok (.aload_n 0, 1) := by decide +kernel
theorem dX11_takesTree_159 : decode cX11_takesTree 159 = .ok (.dup, 1) := by decide +kernel
theorem dX11_takesTree_160 : decode cX11_takesTree 160 = .ok (.getfield 111, 3) := by decide +kernel
theorem dX11_takesTree_163 : decode cX11_takesTree 163 = .ok (.iconst 1, 1) := by decide +kernel
theorem dX11_takesTree_164 : decode cX11_takesTree 164 = .ok (.iadd, 1) := by decide +kernel
theorem dX11_takesTree_165 : decode cX11_takesTree 165 = .ok (.putfield 111, 3) := by decide +kernel
theorem dX11_takesTree_168 : decode cX11_takesTree 168 = .ok (.iconst 1, 1) := by decide +kernel
theorem dX11_takesTree_169 : decode cX11_takesTree 169 = .ok (.ireturn, 1) := by decide +kernel
theorem dX11_isCommons_0 : decode cX11_isCommons 0 = .ok (.aload_n 0, 1) := by decide +kernel
theorem dX11_isCommons_1 : decode cX11_isCommons 1 = .ok (.iconst 0, 1) := by decide +kernel
theorem dX11_isCommons_2 : decode cX11_isCommons 2 = .ok (.putfield 100, 3) := by decide +kernel
theorem dX11_isCommons_5 : decode cX11_isCommons 5 = .ok (.aload_n 0, 1) := by decide +kernel
theorem dX11_isCommons_6 : decode cX11_isCommons 6 = .ok (.iconst 0, 1) := by decide +kernel
theorem dX11_isCommons_7 : decode cX11_isCommons 7 = .ok (.putfield 111, 3) := by decide +kernel
theorem dX11_isCommons_10 : decode cX11_isCommons 10 = .ok (.aload_n 0, 1) := by decide +kernel
theorem dX11_isCommons_11 : decode cX11_isCommons 11 = .ok (.invokevirtual 117, 3) := by decide +kernel
theorem dX11_isCommons_14 : decode cX11_isCommons 14 = .ok (.istore_n 1, 1) := by decide +kernel
theorem dX11_isCommons_15 : decode cX11_isCommons 15 = .ok (.iload_n 1, 1) := by decide +kernel
theorem dX11_isCommons_16 : decode cX11_isCommons 16 = .ok (.ifCond .eq 39, 3) := by decide +kernel
theorem dX11_isCommons_19 : decode cX11_isCommons 19 = .ok (.aload_n 0, 1) := by decide +kernel
theorem dX11_isCommons_20 : decode cX11_isCommons 20 = .ok (.getfield 111, 3) := by decide +kernel
theorem dX11_isCommons_23 : decode cX11_isCommons 23 = .ok (.bipush 6, 2) := by decide +kernel
theorem dX11_isCommons_25 : decode cX11_isCommons 25 = .ok (.if_icmp .ge 30, 3) := by decide +kernel
theorem dX11_isCommons_28 : decode cX11_isCommons 28 = .ok (.aload_n 0, 1) := by decide +kernel
theorem dX11_isCommons_29 : decode cX11_isCommons 29 = .ok (.invokevirtual 107, 3) := by decide +kernel
theorem dX11_isCommons_32 : decode cX11_isCommons 32 = .ok (.bipush 44, 2) := by decide +kernel
theorem dX11_isCommons_34 : decode cX11_isCommons 34 = .ok (.if_icmp .ne 21, 3) := by decide +kernel
theorem dX11_isCommons_37 : decode cX11_isCommons 37 = .ok (.aload_n 0, 1) := by decide +kernel
theorem dX11_isCommons_38 : decode cX11_isCommons 38 = .ok (.dup, 1) := by decide +kernel
theorem dX11_isCommons_39 : decode cX11_isCommons 39 = .ok (.getfield 100, 3) := by decide +kernel
theorem dX11_isCommons_42 : decode cX11_isCommons 42 = .ok (.iconst 1, 1) := by decide +kernel
theorem dX11_isCommons_43 : decode cX11_isCommons 43 = .ok (.iadd, 1) := by decide +kernel
theorem dX11_isCommons_44 : decode cX11_isCommons 44 = .ok (.putfield 100, 3) := by decide +kernel
theorem dX11_isCommons_47 : decode cX11_isCommons 47 = .ok (.aload_n 0, 1) := by decide +kernel
theorem dX11_isCommons_48 : decode cX11_isCommons 48 = .ok (.invokevirtual 117, 3) := by decide +kernel
theorem dX11_isCommons_51 : decode cX11_isCommons 51 = .ok (.istore_n 1, 1) := by decide +kernel
theorem dX11_isCommons_52 : decode cX11_isCommons 52 = .ok (.goto (-37), 3) := by decide +kernel
theorem dX11_isCommons_55 : decode cX11_isCommons 55 = .ok (.iload_n 1, 1) := by decide +kernel
theorem dX11_isCommons_56 : decode cX11_isCommons 56 = .ok (.ifCond .eq 14, 3) := by decide +kernel
theorem dX11_isCommons_59 : decode cX11_isCommons 59 = .ok (.aload_n 0, 1) := by decide +kernel
theorem dX11_isCommons_60 : decode cX11_isCommons 60 = .ok (.invokevirtual 107, 3) := by decide +kernel
theorem dX11_isCommons_63 : decode cX11_isCommons 63 = .ok (.ifCond .ge 7, 3) := by decide +kernel
theorem dX11_isCommons_66 : decode cX11_isCommons 66 = .ok (.iconst 1, 1) := by decide +kernel
theorem dX11_isCommons_67 : decode cX11_isCommons 67 = .ok (.goto 4, 3) := by decide +kernel
theorem dX11_isCommons_70 : decode cX11_isCommons 70 = .ok (.iconst 0, 1) := by decide +kernel
theorem dX11_isCommons_71 : decode cX11_isCommons 71 = .ok (.ireturn, 1) := by decide +kernel
theorem dX11_commons_0 : decode cX11_commons 0 = .ok (.aload_n 0, 1) := by decide +kernel
theorem dX11_commons_1 : decode cX11_commons 1 = .ok (.invokevirtual 121, 3) := by decide +kernel
theorem dX11_commons_4 : decode cX11_commons 4 = .ok (.istore_n 1, 1) := by decide +kernel
theorem dX11_commons_5 : decode cX11_commons 5 = .ok (.aload_n 0, 1) := by decide +kernel
theorem dX11_commons_6 : decode cX11_commons 6 = .ok (.iconst 0, 1) := by decide +kernel
theorem dX11_commons_7 : decode cX11_commons 7 = .ok (.putfield 96, 3) := by decide +kernel
theorem dX11_commons_10 : decode cX11_commons 10 = .ok (.iload_n 1, 1) := by decide +kernel
theorem dX11_commons_11 : decode cX11_commons 11 = .ok (.ifCond .ne 11, 3) := by decide +kernel
theorem dX11_commons_14 : decode cX11_commons 14 = .ok (.bipush (-20), 2) := by decide +kernel
theorem dX11_commons_16 : decode cX11_commons 16 = .ok (.aload_n 0, 1) := by decide +kernel
theorem dX11_commons_17 : decode cX11_commons 17 = .ok (.getfield 100, 3) := by decide +kernel
theorem dX11_commons_20 : decode cX11_commons 20 = .ok (.isub, 1) := by decide +kernel
theorem dX11_commons_21 : decode cX11_commons 21 = .ok (.ireturn, 1) := by decide +kernel
theorem dX11_commons_22 : decode cX11_commons 22 = .ok (.aload_n 0, 1) := by decide +kernel
theorem dX11_commons_23 : decode cX11_commons 23 = .ok (.getfield 7, 3) := by decide +kernel
theorem dX11_commons_26 : decode cX11_commons 26 = .ok (.iconst 0, 1) := by decide +kernel
theorem dX11_commons_27 : decode cX11_commons 27 = .ok (.iconst 0, 1) := by decide +kernel
theorem dX11_commons_28 : decode cX11_commons 28 = .ok (.iastore, 1) := by decide +kernel
theorem dX11_commons_29 : decode cX11_commons 29 = .ok (.iconst (-1), 1) := by decide +kernel
theorem dX11_commons_30 : decode cX11_commons 30 = .ok (.istore_n 2, 1) := by decide +kernel
theorem dX11_commons_31 : decode cX11_commons 31 = .ok (.iconst 0, 1) := by decide +kernel
theorem dX11_commons_32 : decode cX11_commons 32 = .ok (.istore_n 3, 1) := by decide +kernel
theorem dX11_commons_33 : decode cX11_commons 33 = .ok (.iload_n 3, 1) := by decide +kernel
theorem dX11_commons_34 : decode cX11_commons 34 = .ok (.aload_n 0, 1) := by decide +kernel
theorem dX11_commons_35 : decode cX11_commons 35 = .ok (.getfield 111, 3) := by decide +kernel
theorem dX11_commons_38 : decode cX11_commons 38 = .ok (.if_icmp .ge 44, 3) := by decide +kernel
theorem dX11_commons_41 : decode cX11_commons 41 = .ok (.aload_n 0, 1) := by decide +kernel
theorem dX11_commons_42 : decode cX11_commons 42 = .ok (.aload_n 0, 1) := by decide +kernel
theorem dX11_commons_43 : decode cX11_commons 43 = .ok (.getfield 16, 3) := by decide +kernel
theorem dX11_commons_46 : decode cX11_commons 46 = .ok (.iconst 3, 1) := by decide +kernel
theorem dX11_commons_47 : decode cX11_commons 47 = .ok (.iload_n 3, 1) := by decide +kernel
theorem dX11_commons_48 : decode cX11_commons 48 = .ok (.imul, 1) := by decide +kernel
theorem dX11_commons_49 : decode cX11_commons 49 = .ok (.iaload, 1) := by decide +kernel
theorem dX11_commons_50 : decode cX11_commons 50 = .ok (.aload_n 0, 1) := by decide +kernel
theorem dX11_commons_51 : decode cX11_commons 51 = .ok (.getfield 16, 3) := by decide +kernel
theorem dX11_commons_54 : decode cX11_commons 54 = .ok (.iconst 3, 1) := by decide +kernel
theorem dX11_commons_55 : decode cX11_commons 55 = .ok (.iload_n 3, 1) := by decide +kernel
theorem dX11_commons_56 : decode cX11_commons 56 = .ok (.imul, 1) := by decide +kernel
theorem dX11_commons_57 : decode cX11_commons 57 = .ok (.iconst 1, 1) := by decide +kernel
theorem dX11_commons_58 : decode cX11_commons 58 = .ok (.iadd, 1) := by decide +kernel
theorem dX11_commons_59 : decode cX11_commons 59 = .ok (.iaload, 1) := by decide +kernel
theorem dX11_commons_60 : decode cX11_commons 60 = .ok (.aload_n 0, 1) := by decide +kernel
theorem dX11_commons_61 : decode cX11_commons 61 = .ok (.getfield 16, 3) := by decide +kernel
theorem dX11_commons_64 : decode cX11_commons 64 = .ok (.iconst 3, 1) := by decide +kernel
theorem dX11_commons_65 : decode cX11_commons 65 = .ok (.iload_n 3, 1) := by decide +kernel
theorem dX11_commons_66 : decode cX11_commons 66 = .ok (.imul, 1) := by decide +kernel
theorem dX11_commons_67 : decode cX11_commons 67 = .ok (.iconst 2, 1) := by decide +kernel
theorem dX11_commons_68 : decode cX11_commons 68 = .ok (.iadd, 1) := by decide +kernel
theorem dX11_commons_69 : decode cX11_commons 69 = .ok (.iaload, 1) := by decide +kernel
theorem dX11_commons_70 : decode cX11_commons 70 = .ok (.iconst 0, 1) := by decide +kernel
theorem dX11_commons_71 : decode cX11_commons 71 = .ok (.iconst 0, 1) := by decide +kernel
theorem dX11_commons_72 : decode cX11_commons 72 = .ok (.invokevirtual 57, 3) := by decide +kernel
theorem dX11_commons_75 : decode cX11_commons 75 = .ok (.istore_n 2, 1) := by decide +kernel
theorem dX11_commons_76 : decode cX11_commons 76 = .ok (.iinc 3 1, 3) := by decide +kernel
theorem dX11_commons_79 : decode cX11_commons 79 = .ok (.goto (-46), 3) := by decide +kernel
theorem dX11_commons_82 : decode cX11_commons 82 = .ok (.iload_n 2, 1) := by decide +kernel
theorem dX11_commons_83 : decode cX11_commons 83 = .ok (.iconst 1, 1) := by decide +kernel
theorem dX11_commons_84 : decode cX11_commons 84 = .ok (.iadd, 1) := by decide +kernel
theorem dX11_commons_85 : decode cX11_commons 85 = .ok (.ireturn, 1) := by decide +kernel
theorem dX11_nowSet_0 : decode cX11_nowSet 0 = .ok (.iconst 0, 1) := by decide +kernel
theorem dX11_nowSet_1 : decode cX11_nowSet 1 = .ok (.istore_n 1, 1) := by decide +kernel
theorem dX11_nowSet_2 : decode cX11_nowSet 2 = .ok (.iconst 0, 1) := by decide +kernel
theorem dX11_nowSet_3 : decode cX11_nowSet 3 = .ok (.istore_n 2, 1) := by decide +kernel
theorem dX11_nowSet_4 : decode cX11_nowSet 4 = .ok (.iload_n 2, 1) := by decide +kernel
theorem dX11_nowSet_5 : decode cX11_nowSet 5 = .ok (.aload_n 0, 1) := by decide +kernel
theorem dX11_nowSet_6 : decode cX11_nowSet 6 = .ok (.getfield 7, 3) := by decide +kernel
theorem dX11_nowSet_9 : decode cX11_nowSet 9 = .ok (.iconst 0, 1) := by decide +kernel
theorem dX11_nowSet_10 : decode cX11_nowSet 10 = .ok (.iaload, 1) := by decide +kernel
theorem dX11_nowSet_11 : decode cX11_nowSet 11 = .ok (.if_icmp .ge 40, 3) := by decide +kernel
theorem dX11_nowSet_14 : decode cX11_nowSet 14 = .ok (.iload_n 1, 1) := by decide +kernel
theorem dX11_nowSet_15 : decode cX11_nowSet 15 = .ok (.aload_n 0, 1) := by decide +kernel
theorem dX11_nowSet_16 : decode cX11_nowSet 16 = .ok (.getfield 7, 3) := by decide +kernel
theorem dX11_nowSet_19 : decode cX11_nowSet 19 = .ok (.bipush 7, 2) := by decide +kernel
theorem dX11_nowSet_21 : decode cX11_nowSet 21 = .ok (.iload_n 2, 1) := by decide +kernel
theorem dX11_nowSet_22 : decode cX11_nowSet 22 = .ok (.iadd, 1) := by decide +kernel
theorem dX11_nowSet_23 : decode cX11_nowSet 23 = .ok (.iaload, 1) := by decide +kernel
theorem dX11_nowSet_24 : decode cX11_nowSet 24 = .ok (.iconst 5, 1) := by decide +kernel
theorem dX11_nowSet_25 : decode cX11_nowSet 25 = .ok (.if_icmp .ne 7, 3) := by decide +kernel
theorem dX11_nowSet_28 : decode cX11_nowSet 28 = .ok (.iconst 0, 1) := by decide +kernel
theorem dX11_nowSet_29 : decode cX11_nowSet 29 = .ok (.goto 14, 3) := by decide +kernel
theorem dX11_nowSet_32 : decode cX11_nowSet 32 = .ok (.iconst 1, 1) := by decide +kernel
theorem dX11_nowSet_33 : decode cX11_nowSet 33 = .ok (.aload_n 0, 1) := by decide +kernel
theorem dX11_nowSet_34 : decode cX11_nowSet 34 = .ok (.getfield 7, 3) := by decide +kernel
theorem dX11_nowSet_37 : decode cX11_nowSet 37 = .ok (.bipush 7, 2) := by decide +kernel
theorem dX11_nowSet_39 : decode cX11_nowSet 39 = .ok (.iload_n 2, 1) := by decide +kernel
theorem dX11_nowSet_40 : decode cX11_nowSet 40 = .ok (.iadd, 1) := by decide +kernel
theorem dX11_nowSet_41 : decode cX11_nowSet 41 = .ok (.iaload, 1) := by decide +kernel
theorem dX11_nowSet_42 : decode cX11_nowSet 42 = .ok (.ishl, 1) := by decide +kernel
theorem dX11_nowSet_43 : decode cX11_nowSet 43 = .ok (.ior, 1) := by decide +kernel
theorem dX11_nowSet_44 : decode cX11_nowSet 44 = .ok (.istore_n 1, 1) := by decide +kernel
theorem dX11_nowSet_45 : decode cX11_nowSet 45 = .ok (.iinc 2 1, 3) := by decide +kernel
theorem dX11_nowSet_48 : decode cX11_nowSet 48 = .ok (.goto (-44), 3) := by decide +kernel
theorem dX11_nowSet_51 : decode cX11_nowSet 51 = .ok (.iload_n 1, 1) := by decide +kernel
theorem dX11_nowSet_52 : decode cX11_nowSet 52 = .ok (.ireturn, 1) := by decide +kernel
theorem dX11_count_0 : decode cX11_count 0 = .ok (.iload_n 1, 1) := by decide +kernel
theorem dX11_count_1 : decode cX11_count 1 = .ok (.tableswitch 71 0 4 #[35, 42, 50, 58, 66], 35) := by decide +kernel
theorem dX11_count_36 : decode cX11_count 36 = .ok (.aload_n 0, 1) := by decide +kernel
theorem dX11_count_37 : decode cX11_count 37 = .ok (.getfield 7, 3) := by decide +kernel
theorem dX11_count_40 : decode cX11_count 40 = .ok (.iconst 0, 1) := by decide +kernel
theorem dX11_count_41 : decode cX11_count 41 = .ok (.iaload, 1) := by decide +kernel
theorem dX11_count_42 : decode cX11_count 42 = .ok (.ireturn, 1) := by decide +kernel
theorem dX11_count_43 : decode cX11_count 43 = .ok (.aload_n 0, 1) := by decide +kernel
theorem dX11_count_44 : decode cX11_count 44 = .ok (.getfield 7, 3) := by decide +kernel
theorem dX11_count_47 : decode cX11_count 47 = .ok (.bipush 43, 2) := by decide +kernel
theorem dX11_count_49 : decode cX11_count 49 = .ok (.iaload, 1) := by decide +kernel
theorem dX11_count_50 : decode cX11_count 50 = .ok (.ireturn, 1) := by decide +kernel
theorem dX11_count_51 : decode cX11_count 51 = .ok (.aload_n 0, 1) := by decide +kernel
theorem dX11_count_52 : decode cX11_count 52 = .ok (.getfield 7, 3) := by decide +kernel
theorem dX11_count_55 : decode cX11_count 55 = .ok (.bipush 75, 2) := by decide +kernel
theorem dX11_count_57 : decode cX11_count 57 = .ok (.iaload, 1) := by decide +kernel
theorem dX11_count_58 : decode cX11_count 58 = .ok (.ireturn, 1) := by decide +kernel
theorem dX11_count_59 : decode cX11_count 59 = .ok (.aload_n 0, 1) := by decide +kernel
theorem dX11_count_60 : decode cX11_count 60 = .ok (.getfield 7, 3) := by decide +kernel
theorem dX11_count_63 : decode cX11_count 63 = .ok (.bipush 76, 2) := by decide +kernel
theorem dX11_count_65 : decode cX11_count 65 = .ok (.iaload, 1) := by decide +kernel
theorem dX11_count_66 : decode cX11_count 66 = .ok (.ireturn, 1) := by decide +kernel
theorem dX11_count_67 : decode cX11_count 67 = .ok (.aload_n 0, 1) := by decide +kernel
theorem dX11_count_68 : decode cX11_count 68 = .ok (.invokevirtual 124, 3) := by decide +kernel
theorem dX11_count_71 : decode cX11_count 71 = .ok (.ireturn, 1) := by decide +kernel
theorem dX11_count_72 : decode cX11_count 72 = .ok (.iconst (-1), 1) := by decide +kernel
theorem dX11_count_73 : decode cX11_count 73 = .ok (.ireturn, 1) := by decide +kernel
theorem dX11_plain_0 : decode cX11_plain 0 = .ok (.iload_n 0, 1) := by decide +kernel
theorem dX11_plain_1 : decode cX11_plain 1 = .ok (.iconst 1, 1) := by decide +kernel
theorem dX11_plain_2 : decode cX11_plain 2 = .ok (.if_icmp .ne 7, 3) := by decide +kernel
theorem dX11_plain_5 : decode cX11_plain 5 = .ok (.iconst 1, 1) := by decide +kernel
theorem dX11_plain_6 : decode cX11_plain 6 = .ok (.goto 4, 3) := by decide +kernel
theorem dX11_plain_9 : decode cX11_plain 9 = .ok (.iconst 2, 1) := by decide +kernel
theorem dX11_plain_10 : decode cX11_plain 10 = .ok (.ireturn, 1) := by decide +kernel
theorem dX11_borne_0 : decode cX11_borne 0 = .ok (.aload_n 0, 1) := by decide +kernel
theorem dX11_borne_1 : decode cX11_borne 1 = .ok (.iload_n 3, 1) := by decide +kernel
theorem dX11_borne_2 : decode cX11_borne 2 = .ok (.invokevirtual 76, 3) := by decide +kernel
theorem dX11_borne_5 : decode cX11_borne 5 = .ok (.iload_n 2, 1) := by decide +kernel
theorem dX11_borne_6 : decode cX11_borne 6 = .ok (.if_icmp .ne 11, 3) := by decide +kernel
theorem dX11_borne_9 : decode cX11_borne 9 = .ok (.iload 4, 2) := by decide +kernel
theorem dX11_borne_11 : decode cX11_borne 11 = .ok (.invokestatic 127, 3) := by decide +kernel
theorem dX11_borne_14 : decode cX11_borne 14 = .ok (.goto 4, 3) := by decide +kernel
theorem dX11_borne_17 : decode cX11_borne 17 = .ok (.iconst 0, 1) := by decide +kernel
theorem dX11_borne_18 : decode cX11_borne 18 = .ok (.istore 7, 2) := by decide +kernel
theorem dX11_borne_20 : decode cX11_borne 20 = .ok (.aload_n 0, 1) := by decide +kernel
theorem dX11_borne_21 : decode cX11_borne 21 = .ok (.iload 5, 2) := by decide +kernel
theorem dX11_borne_23 : decode cX11_borne 23 = .ok (.invokevirtual 76, 3) := by decide +kernel
theorem dX11_borne_26 : decode cX11_borne 26 = .ok (.iload_n 2, 1) := by decide +kernel
theorem dX11_borne_27 : decode cX11_borne 27 = .ok (.if_icmp .ne 11, 3) := by decide +kernel
theorem dX11_borne_30 : decode cX11_borne 30 = .ok (.iload 6, 2) := by decide +kernel
theorem dX11_borne_32 : decode cX11_borne 32 = .ok (.invokestatic 127, 3) := by decide +kernel
theorem dX11_borne_35 : decode cX11_borne 35 = .ok (.goto 4, 3) := by decide +kernel
theorem dX11_borne_38 : decode cX11_borne 38 = .ok (.iconst 0, 1) := by decide +kernel
theorem dX11_borne_39 : decode cX11_borne 39 = .ok (.istore 8, 2) := by decide +kernel
theorem dX11_borne_41 : decode cX11_borne 41 = .ok (.iload_n 1, 1) := by decide +kernel
theorem dX11_borne_42 : decode cX11_borne 42 = .ok (.iconst 1, 1) := by decide +kernel
theorem dX11_borne_43 : decode cX11_borne 43 = .ok (.if_icmp .ne 15, 3) := by decide +kernel
theorem dX11_borne_46 : decode cX11_borne 46 = .ok (.iload 7, 2) := by decide +kernel
theorem dX11_borne_48 : decode cX11_borne 48 = .ok (.iconst 2, 1) := by decide +kernel
theorem dX11_borne_49 : decode cX11_borne 49 = .ok (.idiv, 1) := by decide +kernel
theorem dX11_borne_50 : decode cX11_borne 50 = .ok (.iload 8, 2) := by decide +kernel
theorem dX11_borne_52 : decode cX11_borne 52 = .ok (.iconst 2, 1) := by decide +kernel
theorem dX11_borne_53 : decode cX11_borne 53 = .ok (.idiv, 1) := by decide +kernel
theorem dX11_borne_54 : decode cX11_borne 54 = .ok (.iadd, 1) := by decide +kernel
theorem dX11_borne_55 : decode cX11_borne 55 = .ok (.goto 27, 3) := by decide +kernel
theorem dX11_borne_58 : decode cX11_borne 58 = .ok (.iload_n 1, 1) := by decide +kernel
theorem dX11_borne_59 : decode cX11_borne 59 = .ok (.iconst 2, 1) := by decide +kernel
theorem dX11_borne_60 : decode cX11_borne 60 = .ok (.if_icmp .ne 10, 3) := by decide +kernel
theorem dX11_borne_63 : decode cX11_borne 63 = .ok (.iconst 2, 1) := by decide +kernel
theorem dX11_borne_64 : decode cX11_borne 64 = .ok (.iload 7, 2) := by decide +kernel
theorem dX11_borne_66 : decode cX11_borne 66 = .ok (.imul, 1) := by decide +kernel
theorem dX11_borne_67 : decode cX11_borne 67 = .ok (.goto 15, 3) := by decide +kernel
theorem dX11_borne_70 : decode cX11_borne 70 = .ok (.iload_n 1, 1) := by decide +kernel
theorem dX11_borne_71 : decode cX11_borne 71 = .ok (.iconst 3, 1) := by decide +kernel
theorem dX11_borne_72 : decode cX11_borne 72 = .ok (.if_icmp .ne 8, 3) := by decide +kernel
theorem dX11_borne_75 : decode cX11_borne 75 = .ok (.iload 8, 2) := by decide +kernel
theorem dX11_borne_77 : decode cX11_borne 77 = .ok (.goto 5, 3) := by decide +kernel
theorem dX11_borne_80 : decode cX11_borne 80 = .ok (.iload 7, 2) := by decide +kernel
theorem dX11_borne_82 : decode cX11_borne 82 = .ok (.ireturn, 1) := by decide +kernel
theorem dX11_bearsNow_0 : decode cX11_bearsNow 0 = .ok (.aload_n 0, 1) := by decide +kernel
theorem dX11_bearsNow_1 : decode cX11_bearsNow 1 = .ok (.aload_n 0, 1) := by decide +kernel
theorem dX11_bearsNow_2 : decode cX11_bearsNow 2 = .ok (.getfield 7, 3) := by decide +kernel
theorem dX11_bearsNow_5 : decode cX11_bearsNow 5 = .ok (.iconst 1, 1) := by decide +kernel
theorem dX11_bearsNow_6 : decode cX11_bearsNow 6 = .ok (.iload_n 1, 1) := by decide +kernel
theorem dX11_bearsNow_7 : decode cX11_bearsNow 7 = .ok (.iadd, 1) := by decide +kernel
theorem dX11_bearsNow_8 : decode cX11_bearsNow 8 = .ok (.iaload, 1) := by decide +kernel
theorem dX11_bearsNow_9 : decode cX11_bearsNow 9 = .ok (.iload_n 2, 1) := by decide +kernel
theorem dX11_bearsNow_10 : decode cX11_bearsNow 10 = .ok (.aload_n 0, 1) := by decide +kernel
theorem dX11_bearsNow_11 : decode cX11_bearsNow 11 = .ok (.getfield 7, 3) := by decide +kernel
theorem dX11_bearsNow_14 : decode cX11_bearsNow 14 = .ok (.bipush 13, 2) := by decide +kernel
theorem dX11_bearsNow_16 : decode cX11_bearsNow 16 = .ok (.iload_n 1, 1) := by decide +kernel
theorem dX11_bearsNow_17 : decode cX11_bearsNow 17 = .ok (.iadd, 1) := by decide +kernel
theorem dX11_bearsNow_18 : decode cX11_bearsNow 18 = .ok (.iaload, 1) := by decide +kernel
theorem dX11_bearsNow_19 : decode cX11_bearsNow 19 = .ok (.aload_n 0, 1) := by decide +kernel
theorem dX11_bearsNow_20 : decode cX11_bearsNow 20 = .ok (.getfield 7, 3) := by decide +kernel
theorem dX11_bearsNow_23 : decode cX11_bearsNow 23 = .ok (.bipush 25, 2) := by decide +kernel
theorem dX11_bearsNow_25 : decode cX11_bearsNow 25 = .ok (.iload_n 1, 1) := by decide +kernel
theorem dX11_bearsNow_26 : decode cX11_bearsNow 26 = .ok (.iadd, 1) := by decide +kernel
theorem dX11_bearsNow_27 : decode cX11_bearsNow 27 = .ok (.iaload, 1) := by decide +kernel
theorem dX11_bearsNow_28 : decode cX11_bearsNow 28 = .ok (.aload_n 0, 1) := by decide +kernel
theorem dX11_bearsNow_29 : decode cX11_bearsNow 29 = .ok (.getfield 7, 3) := by decide +kernel
