theorem dX10_of_4 : decode cX10_of 4 = .ok (.iload_n 1, 1) := by decide +kernel
theorem dX10_of_5 : decode cX10_of 5 = .ok (.invokevirtual 88, 3) := by decide +kernel
theorem dX10_of_8 : decode cX10_of 8 = .ok (.ifCond .eq 29, 3) := by decide +kernel
theorem dX10_of_11 : decode cX10_of 11 = .ok (.iload_n 2, 1) := by decide +kernel
theorem dX10_of_12 : decode cX10_of 12 = .ok (.iconst 0, 1) := by decide +kernel
theorem dX10_of_13 : decode cX10_of 13 = .ok (.bipush 6, 2) := by decide +kernel
theorem dX10_of_15 : decode cX10_of 15 = .ok (.invokestatic 76, 3) := by decide +kernel
theorem dX10_of_18 : decode cX10_of 18 = .ok (.ifCond .eq 19, 3) := by decide +kernel
theorem dX10_of_21 : decode cX10_of 21 = .ok (.aload_n 0, 1) := by decide +kernel
theorem dX10_of_22 : decode cX10_of 22 = .ok (.getfield 12, 3) := by decide +kernel
theorem dX10_of_25 : decode cX10_of 25 = .ok (.getfield 122, 3) := by decide +kernel
theorem dX10_of_28 : decode cX10_of 28 = .ok (.iload_n 1, 1) := by decide +kernel
theorem dX10_of_29 : decode cX10_of 29 = .ok (.aaload, 1) := by decide +kernel
theorem dX10_of_30 : decode cX10_of 30 = .ok (.iload_n 2, 1) := by decide +kernel
theorem dX10_of_31 : decode cX10_of 31 = .ok (.invokevirtual 126, 3) := by decide +kernel
theorem dX10_of_34 : decode cX10_of 34 = .ok (.goto 4, 3) := by decide +kernel
theorem dX10_of_37 : decode cX10_of 37 = .ok (.iconst (-1), 1) := by decide +kernel
theorem dX10_of_38 : decode cX10_of 38 = .ok (.ireturn, 1) := by decide +kernel
theorem dX10_price_0 : decode cX10_price 0 = .ok (.iload_n 1, 1) := by decide +kernel
theorem dX10_price_1 : decode cX10_price 1 = .ok (.invokestatic 131, 3) := by decide +kernel
theorem dX10_price_4 : decode cX10_price 4 = .ok (.ifCond .eq 14, 3) := by decide +kernel
theorem dX10_price_7 : decode cX10_price 7 = .ok (.iload_n 2, 1) := by decide +kernel
theorem dX10_price_8 : decode cX10_price 8 = .ok (.bipush (-9), 2) := by decide +kernel
theorem dX10_price_10 : decode cX10_price 10 = .ok (.bipush 99, 2) := by decide +kernel
theorem dX10_price_12 : decode cX10_price 12 = .ok (.invokestatic 76, 3) := by decide +kernel
theorem dX10_price_15 : decode cX10_price 15 = .ok (.ifCond .ne 6, 3) := by decide +kernel
theorem dX10_price_18 : decode cX10_price 18 = .ok (.ldc 134, 2) := by decide +kernel
theorem dX10_price_20 : decode cX10_price 20 = .ok (.ireturn, 1) := by decide +kernel
theorem dX10_price_21 : decode cX10_price 21 = .ok (.aload_n 0, 1) := by decide +kernel
theorem dX10_price_22 : decode cX10_price 22 = .ok (.getfield 12, 3) := by decide +kernel
theorem dX10_price_25 : decode cX10_price 25 = .ok (.getfield 135, 3) := by decide +kernel
theorem dX10_price_28 : decode cX10_price 28 = .ok (.iload_n 1, 1) := by decide +kernel
theorem dX10_price_29 : decode cX10_price 29 = .ok (.iaload, 1) := by decide +kernel
theorem dX10_price_30 : decode cX10_price 30 = .ok (.istore_n 3, 1) := by decide +kernel
theorem dX10_price_31 : decode cX10_price 31 = .ok (.aload_n 0, 1) := by decide +kernel
theorem dX10_price_32 : decode cX10_price 32 = .ok (.getfield 12, 3) := by decide +kernel
theorem dX10_price_35 : decode cX10_price 35 = .ok (.getfield 135, 3) := by decide +kernel
theorem dX10_price_38 : decode cX10_price 38 = .ok (.iload_n 1, 1) := by decide +kernel
theorem dX10_price_39 : decode cX10_price 39 = .ok (.iload_n 2, 1) := by decide +kernel
theorem dX10_price_40 : decode cX10_price 40 = .ok (.iastore, 1) := by decide +kernel
theorem dX10_price_41 : decode cX10_price 41 = .ok (.iload_n 3, 1) := by decide +kernel
theorem dX10_price_42 : decode cX10_price 42 = .ok (.ireturn, 1) := by decide +kernel
theorem dX10_fence_0 : decode cX10_fence 0 = .ok (.aload_n 0, 1) := by decide +kernel
theorem dX10_fence_1 : decode cX10_fence 1 = .ok (.getfield 12, 3) := by decide +kernel
theorem dX10_fence_4 : decode cX10_fence 4 = .ok (.iload_n 1, 1) := by decide +kernel
theorem dX10_fence_5 : decode cX10_fence 5 = .ok (.invokevirtual 88, 3) := by decide +kernel
theorem dX10_fence_8 : decode cX10_fence 8 = .ok (.ifCond .eq 14, 3) := by decide +kernel
theorem dX10_fence_11 : decode cX10_fence 11 = .ok (.aload_n 0, 1) := by decide +kernel
theorem dX10_fence_12 : decode cX10_fence 12 = .ok (.getfield 12, 3) := by decide +kernel
theorem dX10_fence_15 : decode cX10_fence 15 = .ok (.iload_n 2, 1) := by decide +kernel
theorem dX10_fence_16 : decode cX10_fence 16 = .ok (.invokevirtual 138, 3) := by decide +kernel
theorem dX10_fence_19 : decode cX10_fence 19 = .ok (.ifCond .ne 5, 3) := by decide +kernel
theorem dX10_fence_22 : decode cX10_fence 22 = .ok (.iconst (-1), 1) := by decide +kernel
theorem dX10_fence_23 : decode cX10_fence 23 = .ok (.ireturn, 1) := by decide +kernel
theorem dX10_fence_24 : decode cX10_fence 24 = .ok (.aload_n 0, 1) := by decide +kernel
theorem dX10_fence_25 : decode cX10_fence 25 = .ok (.getfield 12, 3) := by decide +kernel
theorem dX10_fence_28 : decode cX10_fence 28 = .ok (.getfield 122, 3) := by decide +kernel
theorem dX10_fence_31 : decode cX10_fence 31 = .ok (.iload_n 1, 1) := by decide +kernel
theorem dX10_fence_32 : decode cX10_fence 32 = .ok (.aaload, 1) := by decide +kernel
theorem dX10_fence_33 : decode cX10_fence 33 = .ok (.astore_n 3, 1) := by decide +kernel
theorem dX10_fence_34 : decode cX10_fence 34 = .ok (.iload_n 2, 1) := by decide +kernel
theorem dX10_fence_35 : decode cX10_fence 35 = .ok (.aload_n 3, 1) := by decide +kernel
theorem dX10_fence_36 : decode cX10_fence 36 = .ok (.getfield 141, 3) := by decide +kernel
theorem dX10_fence_39 : decode cX10_fence 39 = .ok (.invokestatic 144, 3) := by decide +kernel
theorem dX10_fence_42 : decode cX10_fence 42 = .ok (.ifCond .eq 6, 3) := by decide +kernel
theorem dX10_fence_45 : decode cX10_fence 45 = .ok (.bipush (-2), 2) := by decide +kernel
theorem dX10_fence_47 : decode cX10_fence 47 = .ok (.ireturn, 1) := by decide +kernel
theorem dX10_fence_48 : decode cX10_fence 48 = .ok (.aload_n 3, 1) := by decide +kernel
theorem dX10_fence_49 : decode cX10_fence 49 = .ok (.getfield 147, 3) := by decide +kernel
theorem dX10_fence_52 : decode cX10_fence 52 = .ok (.istore 4, 2) := by decide +kernel
theorem dX10_fence_54 : decode cX10_fence 54 = .ok (.aload_n 3, 1) := by decide +kernel
theorem dX10_fence_55 : decode cX10_fence 55 = .ok (.iload_n 2, 1) := by decide +kernel
theorem dX10_fence_56 : decode cX10_fence 56 = .ok (.putfield 147, 3) := by decide +kernel
theorem dX10_fence_59 : decode cX10_fence 59 = .ok (.iload 4, 2) := by decide +kernel
theorem dX10_fence_61 : decode cX10_fence 61 = .ok (.ireturn, 1) := by decide +kernel
theorem dX10_climb_0 : decode cX10_climb 0 = .ok (.aload_n 0, 1) := by decide +kernel
theorem dX10_climb_1 : decode cX10_climb 1 = .ok (.getfield 12, 3) := by decide +kernel
theorem dX10_climb_4 : decode cX10_climb 4 = .ok (.iload_n 1, 1) := by decide +kernel
theorem dX10_climb_5 : decode cX10_climb 5 = .ok (.invokevirtual 88, 3) := by decide +kernel
theorem dX10_climb_8 : decode cX10_climb 8 = .ok (.ifCond .eq 14, 3) := by decide +kernel
theorem dX10_climb_11 : decode cX10_climb 11 = .ok (.aload_n 0, 1) := by decide +kernel
theorem dX10_climb_12 : decode cX10_climb 12 = .ok (.getfield 12, 3) := by decide +kernel
theorem dX10_climb_15 : decode cX10_climb 15 = .ok (.iload_n 2, 1) := by decide +kernel
theorem dX10_climb_16 : decode cX10_climb 16 = .ok (.invokevirtual 150, 3) := by decide +kernel
theorem dX10_climb_19 : decode cX10_climb 19 = .ok (.ifCond .ne 5, 3) := by decide +kernel
theorem dX10_climb_22 : decode cX10_climb 22 = .ok (.iconst (-1), 1) := by decide +kernel
theorem dX10_climb_23 : decode cX10_climb 23 = .ok (.ireturn, 1) := by decide +kernel
theorem dX10_climb_24 : decode cX10_climb 24 = .ok (.aload_n 0, 1) := by decide +kernel
theorem dX10_climb_25 : decode cX10_climb 25 = .ok (.getfield 12, 3) := by decide +kernel
theorem dX10_climb_28 : decode cX10_climb 28 = .ok (.iload_n 1, 1) := by decide +kernel
theorem dX10_climb_29 : decode cX10_climb 29 = .ok (.iload_n 2, 1) := by decide +kernel
theorem dX10_climb_30 : decode cX10_climb 30 = .ok (.invokevirtual 153, 3) := by decide +kernel
theorem dX10_climb_33 : decode cX10_climb 33 = .ok (.ifCond .ne 6, 3) := by decide +kernel
theorem dX10_climb_36 : decode cX10_climb 36 = .ok (.bipush (-2), 2) := by decide +kernel
theorem dX10_climb_38 : decode cX10_climb 38 = .ok (.ireturn, 1) := by decide +kernel
theorem dX10_climb_39 : decode cX10_climb 39 = .ok (.aload_n 0, 1) := by decide +kernel
theorem dX10_climb_40 : decode cX10_climb 40 = .ok (.getfield 12, 3) := by decide +kernel
theorem dX10_climb_43 : decode cX10_climb 43 = .ok (.getfield 122, 3) := by decide +kernel
theorem dX10_climb_46 : decode cX10_climb 46 = .ok (.iload_n 1, 1) := by decide +kernel
theorem dX10_climb_47 : decode cX10_climb 47 = .ok (.aaload, 1) := by decide +kernel
theorem dX10_climb_48 : decode cX10_climb 48 = .ok (.astore_n 3, 1) := by decide +kernel
theorem dX10_climb_49 : decode cX10_climb 49 = .ok (.aload_n 3, 1) := by decide +kernel
theorem dX10_climb_50 : decode cX10_climb 50 = .ok (.getfield 141, 3) := by decide +kernel
theorem dX10_climb_53 : decode cX10_climb 53 = .ok (.istore 4, 2) := by decide +kernel
theorem dX10_climb_55 : decode cX10_climb 55 = .ok (.aload_n 3, 1) := by decide +kernel
theorem dX10_climb_56 : decode cX10_climb 56 = .ok (.iload_n 2, 1) := by decide +kernel
theorem dX10_climb_57 : decode cX10_climb 57 = .ok (.putfield 141, 3) := by decide +kernel
theorem dX10_climb_60 : decode cX10_climb 60 = .ok (.iload 4, 2) := by decide +kernel
theorem dX10_climb_62 : decode cX10_climb 62 = .ok (.ireturn, 1) := by decide +kernel
theorem dX10_type_0 : decode cX10_type 0 = .ok (.iload_n 1, 1) := by decide +kernel
theorem dX10_type_1 : decode cX10_type 1 = .ok (.bipush 32, 2) := by decide +kernel
theorem dX10_type_3 : decode cX10_type 3 = .ok (.bipush 126, 2) := by decide +kernel
theorem dX10_type_5 : decode cX10_type 5 = .ok (.invokestatic 76, 3) := by decide +kernel
theorem dX10_type_8 : decode cX10_type 8 = .ok (.ifCond .ne 5, 3) := by decide +kernel
theorem dX10_type_11 : decode cX10_type 11 = .ok (.iconst (-1), 1) := by decide +kernel
theorem dX10_type_12 : decode cX10_type 12 = .ok (.ireturn, 1) := by decide +kernel
theorem dX10_type_13 : decode cX10_type 13 = .ok (.aload_n 0, 1) := by decide +kernel
theorem dX10_type_14 : decode cX10_type 14 = .ok (.getfield 22, 3) := by decide +kernel
theorem dX10_type_17 : decode cX10_type 17 = .ok (.getfield 156, 3) := by decide +kernel
theorem dX10_type_20 : decode cX10_type 20 = .ok (.bipush 60, 2) := by decide +kernel
theorem dX10_type_22 : decode cX10_type 22 = .ok (.if_icmp .lt 8, 3) := by decide +kernel
theorem dX10_type_25 : decode cX10_type 25 = .ok (.bipush (-3), 2) := by decide +kernel
theorem dX10_type_27 : decode cX10_type 27 = .ok (.goto 11, 3) := by decide +kernel
theorem dX10_type_30 : decode cX10_type 30 = .ok (.aload_n 0, 1) := by decide +kernel
theorem dX10_type_31 : decode cX10_type 31 = .ok (.getfield 22, 3) := by decide +kernel
theorem dX10_type_34 : decode cX10_type 34 = .ok (.iload_n 1, 1) := by decide +kernel
theorem dX10_type_35 : decode cX10_type 35 = .ok (.invokevirtual 159, 3) := by decide +kernel
theorem dX10_type_38 : decode cX10_type 38 = .ok (.ireturn, 1) := by decide +kernel
theorem dX10_commons_0 : decode cX10_commons 0 = .ok (.aload_n 0, 1) := by decide +kernel
theorem dX10_commons_1 : decode cX10_commons 1 = .ok (.getfield 22, 3) := by decide +kernel
theorem dX10_commons_4 : decode cX10_commons 4 = .ok (.aload_n 0, 1) := by decide +kernel
theorem dX10_commons_5 : decode cX10_commons 5 = .ok (.getfield 12, 3) := by decide +kernel
theorem dX10_commons_8 : decode cX10_commons 8 = .ok (.getfield 99, 3) := by decide +kernel
theorem dX10_commons_11 : decode cX10_commons 11 = .ok (.invokevirtual 162, 3) := by decide +kernel
theorem dX10_commons_14 : decode cX10_commons 14 = .ok (.istore_n 1, 1) := by decide +kernel
theorem dX10_commons_15 : decode cX10_commons 15 = .ok (.iload_n 1, 1) := by decide +kernel
theorem dX10_commons_16 : decode cX10_commons 16 = .ok (.ifCond .le 15, 3) := by decide +kernel
theorem dX10_commons_19 : decode cX10_commons 19 = .ok (.aload_n 0, 1) := by decide +kernel
theorem dX10_commons_20 : decode cX10_commons 20 = .ok (.getfield 22, 3) := by decide +kernel
theorem dX10_commons_23 : decode cX10_commons 23 = .ok (.aload_n 0, 1) := by decide +kernel
theorem dX10_commons_24 : decode cX10_commons 24 = .ok (.getfield 12, 3) := by decide +kernel
theorem dX10_commons_27 : decode cX10_commons 27 = .ok (.iload_n 1, 1) := by decide +kernel
theorem dX10_commons_28 : decode cX10_commons 28 = .ok (.invokevirtual 165, 3) := by decide +kernel
theorem dX10_commons_31 : decode cX10_commons 31 = .ok (.aload_n 0, 1) := by decide +kernel
theorem dX10_commons_32 : decode cX10_commons 32 = .ok (.getfield 22, 3) := by decide +kernel
theorem dX10_commons_35 : decode cX10_commons 35 = .ok (.iconst 0, 1) := by decide +kernel
theorem dX10_commons_36 : decode cX10_commons 36 = .ok (.putfield 156, 3) := by decide +kernel
theorem dX10_commons_39 : decode cX10_commons 39 = .ok (.iload_n 1, 1) := by decide +kernel
theorem dX10_commons_40 : decode cX10_commons 40 = .ok (.ireturn, 1) := by decide +kernel
theorem dX10_count_0 : decode cX10_count 0 = .ok (.iload_n 1, 1) := by decide +kernel
theorem dX10_count_1 : decode cX10_count 1 = .ok (.tableswitch 75 0 4 #[35, 43, 51, 59, 67], 35) := by decide +kernel
theorem dX10_count_36 : decode cX10_count 36 = .ok (.aload_n 0, 1) := by decide +kernel
theorem dX10_count_37 : decode cX10_count 37 = .ok (.getfield 12, 3) := by decide +kernel
theorem dX10_count_40 : decode cX10_count 40 = .ok (.getfield 80, 3) := by decide +kernel
theorem dX10_count_43 : decode cX10_count 43 = .ok (.ireturn, 1) := by decide +kernel
theorem dX10_count_44 : decode cX10_count 44 = .ok (.aload_n 0, 1) := by decide +kernel
theorem dX10_count_45 : decode cX10_count 45 = .ok (.getfield 12, 3) := by decide +kernel
theorem dX10_count_48 : decode cX10_count 48 = .ok (.getfield 99, 3) := by decide +kernel
theorem dX10_count_51 : decode cX10_count 51 = .ok (.ireturn, 1) := by decide +kernel
theorem dX10_count_52 : decode cX10_count 52 = .ok (.aload_n 0, 1) := by decide +kernel
theorem dX10_count_53 : decode cX10_count 53 = .ok (.getfield 12, 3) := by decide +kernel
theorem dX10_count_56 : decode cX10_count 56 = .ok (.getfield 169, 3) := by decide +kernel
theorem dX10_count_59 : decode cX10_count 59 = .ok (.ireturn, 1) := by decide +kernel
theorem dX10_count_60 : decode cX10_count 60 = .ok (.aload_n 0, 1) := by decide +kernel
theorem dX10_count_61 : decode cX10_count 61 = .ok (.getfield 12, 3) := by decide +kernel
theorem dX10_count_64 : decode cX10_count 64 = .ok (.getfield 172, 3) := by decide +kernel
theorem dX10_count_67 : decode cX10_count 67 = .ok (.ireturn, 1) := by decide +kernel
theorem dX10_count_68 : decode cX10_count 68 = .ok (.aload_n 0, 1) := by decide +kernel
theorem dX10_count_69 : decode cX10_count 69 = .ok (.getfield 12, 3) := by decide +kernel
theorem dX10_count_72 : decode cX10_count 72 = .ok (.invokevirtual 175, 3) := by decide +kernel
theorem dX10_count_75 : decode cX10_count 75 = .ok (.ireturn, 1) := by decide +kernel
theorem dX10_count_76 : decode cX10_count 76 = .ok (.iconst (-1), 1) := by decide +kernel
theorem dX10_count_77 : decode cX10_count 77 = .ok (.ireturn, 1) := by decide +kernel
theorem dX10_bears_0 : decode cX10_bears 0 = .ok (.aload_n 0, 1) := by decide +kernel
theorem dX10_bears_1 : decode cX10_bears 1 = .ok (.getfield 12, 3) := by decide +kernel
theorem dX10_bears_4 : decode cX10_bears 4 = .ok (.iload_n 1, 1) := by decide +kernel
theorem dX10_bears_5 : decode cX10_bears 5 = .ok (.invokevirtual 88, 3) := by decide +kernel
theorem dX10_bears_8 : decode cX10_bears 8 = .ok (.ifCond .eq 22, 3) := by decide +kernel
theorem dX10_bears_11 : decode cX10_bears 11 = .ok (.iload_n 2, 1) := by decide +kernel
theorem dX10_bears_12 : decode cX10_bears 12 = .ok (.invokestatic 131, 3) := by decide +kernel
theorem dX10_bears_15 : decode cX10_bears 15 = .ok (.ifCond .eq 15, 3) := by decide +kernel
theorem dX10_bears_18 : decode cX10_bears 18 = .ok (.aload_n 0, 1) := by decide +kernel
theorem dX10_bears_19 : decode cX10_bears 19 = .ok (.getfield 12, 3) := by decide +kernel
theorem dX10_bears_22 : decode cX10_bears 22 = .ok (.iload_n 1, 1) := by decide +kernel
theorem dX10_bears_23 : decode cX10_bears 23 = .ok (.iload_n 2, 1) := by decide +kernel
theorem dX10_bears_24 : decode cX10_bears 24 = .ok (.invokevirtual 179, 3) := by decide +kernel
theorem dX10_bears_27 : decode cX10_bears 27 = .ok (.goto 4, 3) := by decide +kernel
theorem dX10_bears_30 : decode cX10_bears 30 = .ok (.iconst (-1), 1) := by decide +kernel
theorem dX10_bears_31 : decode cX10_bears 31 = .ok (.ireturn, 1) := by decide +kernel
theorem dX10_basket_0 : decode cX10_basket 0 = .ok (.iload_n 1, 1) := by decide +kernel
theorem dX10_basket_1 : decode cX10_basket 1 = .ok (.invokestatic 131, 3) := by decide +kernel
theorem dX10_basket_4 : decode cX10_basket 4 = .ok (.ifCond .eq 12, 3) := by decide +kernel
theorem dX10_basket_7 : decode cX10_basket 7 = .ok (.iload_n 2, 1) := by decide +kernel
theorem dX10_basket_8 : decode cX10_basket 8 = .ok (.iconst 0, 1) := by decide +kernel
theorem dX10_basket_9 : decode cX10_basket 9 = .ok (.iconst 1, 1) := by decide +kernel
theorem dX10_basket_10 : decode cX10_basket 10 = .ok (.invokestatic 76, 3) := by decide +kernel
theorem dX10_basket_13 : decode cX10_basket 13 = .ok (.ifCond .ne 5, 3) := by decide +kernel
theorem dX10_basket_16 : decode cX10_basket 16 = .ok (.iconst (-1), 1) := by decide +kernel
theorem dX10_basket_17 : decode cX10_basket 17 = .ok (.ireturn, 1) := by decide +kernel
theorem dX10_basket_18 : decode cX10_basket 18 = .ok (.iload_n 2, 1) := by decide +kernel
theorem dX10_basket_19 : decode cX10_basket 19 = .ok (.ifCond .ne 14, 3) := by decide +kernel
theorem dX10_basket_22 : decode cX10_basket 22 = .ok (.aload_n 0, 1) := by decide +kernel
theorem dX10_basket_23 : decode cX10_basket 23 = .ok (.getfield 12, 3) := by decide +kernel
theorem dX10_basket_26 : decode cX10_basket 26 = .ok (.iload_n 1, 1) := by decide +kernel
theorem dX10_basket_27 : decode cX10_basket 27 = .ok (.invokevirtual 183, 3) := by decide +kernel
theorem dX10_basket_30 : decode cX10_basket 30 = .ok (.goto 11, 3) := by decide +kernel
theorem dX10_basket_33 : decode cX10_basket 33 = .ok (.aload_n 0, 1) := by decide +kernel
theorem dX10_basket_34 : decode cX10_basket 34 = .ok (.getfield 12, 3) := by decide +kernel
theorem dX10_basket_37 : decode cX10_basket 37 = .ok (.iload_n 1, 1) := by decide +kernel
theorem dX10_basket_38 : decode cX10_basket 38 = .ok (.invokevirtual 186, 3) := by decide +kernel
theorem dX10_basket_41 : decode cX10_basket 41 = .ok (.ireturn, 1) := by decide +kernel
theorem dX10_value_0 : decode cX10_value 0 = .ok (.iload_n 1, 1) := by decide +kernel
theorem dX10_value_1 : decode cX10_value 1 = .ok (.iconst 0, 1) := by decide +kernel
theorem dX10_value_2 : decode cX10_value 2 = .ok (.iconst 1, 1) := by decide +kernel
theorem dX10_value_3 : decode cX10_value 3 = .ok (.invokestatic 76, 3) := by decide +kernel
theorem dX10_value_6 : decode cX10_value 6 = .ok (.ifCond .ne 6, 3) := by decide +kernel
theorem dX10_value_9 : decode cX10_value 9 = .ok (.ldc 134, 2) := by decide +kernel
theorem dX10_value_11 : decode cX10_value 11 = .ok (.ireturn, 1) := by decide +kernel
theorem dX10_value_12 : decode cX10_value 12 = .ok (.iload_n 1, 1) := by decide +kernel
theorem dX10_value_13 : decode cX10_value 13 = .ok (.ifCond .ne 13, 3) := by decide +kernel
theorem dX10_value_16 : decode cX10_value 16 = .ok (.aload_n 0, 1) := by decide +kernel
theorem dX10_value_17 : decode cX10_value 17 = .ok (.getfield 12, 3) := by decide +kernel
theorem dX10_value_20 : decode cX10_value 20 = .ok (.invokevirtual 189, 3) := by decide +kernel
theorem dX10_value_23 : decode cX10_value 23 = .ok (.goto 10, 3) := by decide +kernel
theorem dX10_value_26 : decode cX10_value 26 = .ok (.aload_n 0, 1) := by decide +kernel
theorem dX10_value_27 : decode cX10_value 27 = .ok (.getfield 12, 3) := by decide +kernel
theorem dX10_value_30 : decode cX10_value 30 = .ok (.invokevirtual 192, 3) := by decide +kernel
theorem dX10_value_33 : decode cX10_value 33 = .ok (.ireturn, 1) := by decide +kernel
theorem dX10_year_0 : decode cX10_year 0 = .ok (.aload_n 0, 1) := by decide +kernel
theorem dX10_year_1 : decode cX10_year 1 = .ok (.getfield 12, 3) := by decide +kernel
theorem dX10_year_4 : decode cX10_year 4 = .ok (.getfield 169, 3) := by decide +kernel
theorem dX10_year_7 : decode cX10_year 7 = .ok (.sipush 9999, 3) := by decide +kernel
theorem dX10_year_10 : decode cX10_year 10 = .ok (.if_icmp .lt 8, 3) := by decide +kernel
theorem dX10_year_13 : decode cX10_year 13 = .ok (.bipush (-3), 2) := by decide +kernel
theorem dX10_year_15 : decode cX10_year 15 = .ok (.goto 10, 3) := by decide +kernel
theorem dX10_year_18 : decode cX10_year 18 = .ok (.aload_n 0, 1) := by decide +kernel
theorem dX10_year_19 : decode cX10_year 19 = .ok (.getfield 12, 3) := by decide +kernel
theorem dX10_year_22 : decode cX10_year 22 = .ok (.invokevirtual 195, 3) := by decide +kernel
theorem dX10_year_25 : decode cX10_year 25 = .ok (.ireturn, 1) := by decide +kernel
theorem dX10_seed_0 : decode cX10_seed 0 = .ok (.iload_n 1, 1) := by decide +kernel
theorem dX10_seed_1 : decode cX10_seed 1 = .ok (.ifCond .ge 5, 3) := by decide +kernel
theorem dX10_seed_4 : decode cX10_seed 4 = .ok (.iconst (-1), 1) := by decide +kernel
theorem dX10_seed_5 : decode cX10_seed 5 = .ok (.ireturn, 1) := by decide +kernel
theorem dX10_seed_6 : decode cX10_seed 6 = .ok (.aload_n 0, 1) := by decide +kernel
theorem dX10_seed_7 : decode cX10_seed 7 = .ok (.getfield 12, 3) := by decide +kernel
theorem dX10_seed_10 : decode cX10_seed 10 = .ok (.getfield 198, 3) := by decide +kernel
theorem dX10_seed_13 : decode cX10_seed 13 = .ok (.istore_n 2, 1) := by decide +kernel
theorem dX10_seed_14 : decode cX10_seed 14 = .ok (.aload_n 0, 1) := by decide +kernel
theorem dX10_seed_15 : decode cX10_seed 15 = .ok (.getfield 12, 3) := by decide +kernel
theorem dX10_seed_18 : decode cX10_seed 18 = .ok (.iload_n 1, 1) := by decide +kernel
theorem dX10_seed_19 : decode cX10_seed 19 = .ok (.putfield 198, 3) := by decide +kernel
theorem dX10_seed_22 : decode cX10_seed 22 = .ok (.iload_n 2, 1) := by decide +kernel
theorem dX10_seed_23 : decode cX10_seed 23 = .ok (.ireturn, 1) := by decide +kernel
theorem dX10_best_0 : decode cX10_best 0 = .ok (.iload_n 1, 1) := by decide +kernel
theorem dX10_best_1 : decode cX10_best 1 = .ok (.iconst (-1), 1) := by decide +kernel
theorem dX10_best_2 : decode cX10_best 2 = .ok (.if_icmp .eq 17, 3) := by decide +kernel
theorem dX10_best_5 : decode cX10_best 5 = .ok (.aload_n 0, 1) := by decide +kernel
theorem dX10_best_6 : decode cX10_best 6 = .ok (.getfield 12, 3) := by decide +kernel
theorem dX10_best_9 : decode cX10_best 9 = .ok (.iload_n 1, 1) := by decide +kernel
theorem dX10_best_10 : decode cX10_best 10 = .ok (.invokevirtual 88, 3) := by decide +kernel
theorem dX10_best_13 : decode cX10_best 13 = .ok (.ifCond .ne 6, 3) := by decide +kernel
theorem dX10_best_16 : decode cX10_best 16 = .ok (.ldc 134, 2) := by decide +kernel
theorem dX10_best_18 : decode cX10_best 18 = .ok (.ireturn, 1) := by decide +kernel
theorem dX10_best_19 : decode cX10_best 19 = .ok (.aload_n 0, 1) := by decide +kernel
theorem dX10_best_20 : decode cX10_best 20 = .ok (.getfield 35, 3) := by decide +kernel
theorem dX10_best_23 : decode cX10_best 23 = .ok (.aload_n 0, 1) := by decide +kernel
theorem dX10_best_24 : decode cX10_best 24 = .ok (.getfield 12, 3) := by decide +kernel
theorem dX10_best_27 : decode cX10_best 27 = .ok (.invokevirtual 201, 3) := by decide +kernel
theorem dX10_best_30 : decode cX10_best 30 = .ok (.aload_n 0, 1) := by decide +kernel
theorem dX10_best_31 : decode cX10_best 31 = .ok (.getfield 44, 3) := by decide +kernel
theorem dX10_best_34 : decode cX10_best 34 = .ok (.aload_n 0, 1) := by decide +kernel
theorem dX10_best_35 : decode cX10_best 35 = .ok (.getfield 35, 3) := by decide +kernel
theorem dX10_best_38 : decode cX10_best 38 = .ok (.getfield 204, 3) := by decide +kernel
theorem dX10_best_41 : decode cX10_best 41 = .ok (.iconst 0, 1) := by decide +kernel
theorem dX10_best_42 : decode cX10_best 42 = .ok (.invokevirtual 207, 3) := by decide +kernel
theorem dX10_best_45 : decode cX10_best 45 = .ok (.istore_n 2, 1) := by decide +kernel
theorem dX10_best_46 : decode cX10_best 46 = .ok (.iload_n 1, 1) := by decide +kernel
theorem dX10_best_47 : decode cX10_best 47 = .ok (.iconst (-1), 1) := by decide +kernel
theorem dX10_best_48 : decode cX10_best 48 = .ok (.if_icmp .ne 5, 3) := by decide +kernel
theorem dX10_best_51 : decode cX10_best 51 = .ok (.iload_n 2, 1) := by decide +kernel
theorem dX10_best_52 : decode cX10_best 52 = .ok (.ireturn, 1) := by decide +kernel
theorem dX10_best_53 : decode cX10_best 53 = .ok (.aload_n 0, 1) := by decide +kernel
theorem dX10_best_54 : decode cX10_best 54 = .ok (.getfield 44, 3) := by decide +kernel
theorem dX10_best_57 : decode cX10_best 57 = .ok (.invokevirtual 210, 3) := by decide +kernel
theorem dX10_best_60 : decode cX10_best 60 = .ok (.aload_n 0, 1) := by decide +kernel
theorem dX10_best_61 : decode cX10_best 61 = .ok (.getfield 44, 3) := by decide +kernel
theorem dX10_best_64 : decode cX10_best 64 = .ok (.getfield 213, 3) := by decide +kernel
theorem dX10_best_67 : decode cX10_best 67 = .ok (.iload_n 1, 1) := by decide +kernel
theorem dX10_best_68 : decode cX10_best 68 = .ok (.iaload, 1) := by decide +kernel
theorem dX10_best_69 : decode cX10_best 69 = .ok (.ireturn, 1) := by decide +kernel
theorem dX10_worth_0 : decode cX10_worth 0 = .ok (.aload_n 0, 1) := by decide +kernel
theorem dX10_worth_1 : decode cX10_worth 1 = .ok (.getfield 12, 3) := by decide +kernel
theorem dX10_worth_4 : decode cX10_worth 4 = .ok (.iload_n 1, 1) := by decide +kernel
theorem dX10_worth_5 : decode cX10_worth 5 = .ok (.invokevirtual 106, 3) := by decide +kernel
theorem dX10_worth_8 : decode cX10_worth 8 = .ok (.ifCond .ne 6, 3) := by decide +kernel
theorem dX10_worth_11 : decode cX10_worth 11 = .ok (.ldc 134, 2) := by decide +kernel
theorem dX10_worth_13 : decode cX10_worth 13 = .ok (.ireturn, 1) := by decide +kernel
theorem dX10_worth_14 : decode cX10_worth 14 = .ok (.aload_n 0, 1) := by decide +kernel
theorem dX10_worth_15 : decode cX10_worth 15 = .ok (.getfield 35, 3) := by decide +kernel
theorem dX10_worth_18 : decode cX10_worth 18 = .ok (.aload_n 0, 1) := by decide +kernel
theorem dX10_worth_19 : decode cX10_worth 19 = .ok (.getfield 12, 3) := by decide +kernel
theorem dX10_worth_22 : decode cX10_worth 22 = .ok (.invokevirtual 201, 3) := by decide +kernel
theorem dX10_worth_25 : decode cX10_worth 25 = .ok (.aload_n 0, 1) := by decide +kernel
theorem dX10_worth_26 : decode cX10_worth 26 = .ok (.getfield 44, 3) := by decide +kernel
theorem dX10_worth_29 : decode cX10_worth 29 = .ok (.aload_n 0, 1) := by decide +kernel
theorem dX10_worth_30 : decode cX10_worth 30 = .ok (.getfield 35, 3) := by decide +kernel
theorem dX10_worth_33 : decode cX10_worth 33 = .ok (.getfield 204, 3) := by decide +kernel
theorem dX10_worth_36 : decode cX10_worth 36 = .ok (.iconst 0, 1) := by decide +kernel
theorem dX10_worth_37 : decode cX10_worth 37 = .ok (.invokevirtual 207, 3) := by decide +kernel
theorem dX10_worth_40 : decode cX10_worth 40 = .ok (.aload_n 0, 1) := by decide +kernel
theorem dX10_worth_41 : decode cX10_worth 41 = .ok (.getfield 44, 3) := by decide +kernel
theorem dX10_worth_44 : decode cX10_worth 44 = .ok (.aload_n 0, 1) := by decide +kernel
theorem dX10_worth_45 : decode cX10_worth 45 = .ok (.getfield 35, 3) := by decide +kernel
theorem dX10_worth_48 : decode cX10_worth 48 = .ok (.getfield 204, 3) := by decide +kernel
theorem dX10_worth_51 : decode cX10_worth 51 = .ok (.iconst 1, 1) := by decide +kernel
theorem dX10_worth_52 : decode cX10_worth 52 = .ok (.iload_n 1, 1) := by decide +kernel
theorem dX10_worth_53 : decode cX10_worth 53 = .ok (.ishl, 1) := by decide +kernel
theorem dX10_worth_54 : decode cX10_worth 54 = .ok (.iconst (-1), 1) := by decide +kernel
theorem dX10_worth_55 : decode cX10_worth 55 = .ok (.ixor, 1) := by decide +kernel
theorem dX10_worth_56 : decode cX10_worth 56 = .ok (.iand, 1) := by decide +kernel
theorem dX10_worth_57 : decode cX10_worth 57 = .ok (.iconst 0, 1) := by decide +kernel
theorem dX10_worth_58 : decode cX10_worth 58 = .ok (.invokevirtual 207, 3) := by decide +kernel
theorem dX10_worth_61 : decode cX10_worth 61 = .ok (.isub, 1) := by decide +kernel
theorem dX10_worth_62 : decode cX10_worth 62 = .ok (.ireturn, 1) := by decide +kernel
theorem dX10_game_0 : decode cX10_game 0 = .ok (.aload_n 0, 1) := by decide +kernel
theorem dX10_game_1 : decode cX10_game 1 = .ok (.getfield 12, 3) := by decide +kernel
theorem dX10_game_4 : decode cX10_game 4 = .ok (.iload_n 1, 1) := by decide +kernel
theorem dX10_game_5 : decode cX10_game 5 = .ok (.invokevirtual 138, 3) := by decide +kernel
theorem dX10_game_8 : decode cX10_game 8 = .ok (.ifCond .ne 6, 3) := by decide +kernel
theorem dX10_game_11 : decode cX10_game 11 = .ok (.ldc 134, 2) := by decide +kernel
theorem dX10_game_13 : decode cX10_game 13 = .ok (.ireturn, 1) := by decide +kernel
theorem dX10_game_14 : decode cX10_game 14 = .ok (.aload_n 0, 1) := by decide +kernel
theorem dX10_game_15 : decode cX10_game 15 = .ok (.getfield 35, 3) := by decide +kernel
theorem dX10_game_18 : decode cX10_game 18 = .ok (.aload_n 0, 1) := by decide +kernel
theorem dX10_game_19 : decode cX10_game 19 = .ok (.getfield 12, 3) := by decide +kernel
theorem dX10_game_22 : decode cX10_game 22 = .ok (.invokevirtual 201, 3) := by decide +kernel
theorem dX10_game_25 : decode cX10_game 25 = .ok (.aload_n 0, 1) := by decide +kernel
theorem dX10_game_26 : decode cX10_game 26 = .ok (.getfield 58, 3) := by decide +kernel
theorem dX10_game_29 : decode cX10_game 29 = .ok (.iload_n 1, 1) := by decide +kernel
theorem dX10_game_30 : decode cX10_game 30 = .ok (.invokevirtual 216, 3) := by decide +kernel
theorem dX10_game_33 : decode cX10_game 33 = .ok (.ireturn, 1) := by decide +kernel
theorem dX10_fences_0 : decode cX10_fences 0 = .ok (.aload_n 0, 1) := by decide +kernel
theorem dX10_fences_1 : decode cX10_fences 1 = .ok (.getfield 12, 3) := by decide +kernel
theorem dX10_fences_4 : decode cX10_fences 4 = .ok (.iload_n 1, 1) := by decide +kernel
theorem dX10_fences_5 : decode cX10_fences 5 = .ok (.invokevirtual 138, 3) := by decide +kernel
theorem dX10_fences_8 : decode cX10_fences 8 = .ok (.ifCond .eq 16, 3) := by decide +kernel
theorem dX10_fences_11 : decode cX10_fences 11 = .ok (.iload_n 2, 1) := by decide +kernel
theorem dX10_fences_12 : decode cX10_fences 12 = .ok (.sipush (-9999), 3) := by decide +kernel
theorem dX10_fences_15 : decode cX10_fences 15 = .ok (.sipush 9999, 3) := by decide +kernel
theorem dX10_fences_18 : decode cX10_fences 18 = .ok (.invokestatic 76, 3) := by decide +kernel
theorem dX10_fences_21 : decode cX10_fences 21 = .ok (.ifCond .ne 5, 3) := by decide +kernel
theorem dX10_fences_24 : decode cX10_fences 24 = .ok (.iconst (-1), 1) := by decide +kernel
theorem dX10_fences_25 : decode cX10_fences 25 = .ok (.ireturn, 1) := by decide +kernel
theorem dX10_fences_26 : decode cX10_fences 26 = .ok (.aload_n 0, 1) := by decide +kernel
theorem dX10_fences_27 : decode cX10_fences 27 = .ok (.getfield 35, 3) := by decide +kernel
theorem dX10_fences_30 : decode cX10_fences 30 = .ok (.aload_n 0, 1) := by decide +kernel
theorem dX10_fences_31 : decode cX10_fences 31 = .ok (.getfield 12, 3) := by decide +kernel
theorem dX10_fences_34 : decode cX10_fences 34 = .ok (.invokevirtual 201, 3) := by decide +kernel
theorem dX10_fences_37 : decode cX10_fences 37 = .ok (.aload_n 0, 1) := by decide +kernel
theorem dX10_fences_38 : decode cX10_fences 38 = .ok (.getfield 44, 3) := by decide +kernel
theorem dX10_fences_41 : decode cX10_fences 41 = .ok (.iload_n 1, 1) := by decide +kernel
theorem dX10_fences_42 : decode cX10_fences 42 = .ok (.iload_n 2, 1) := by decide +kernel
theorem dX10_fences_43 : decode cX10_fences 43 = .ok (.invokevirtual 219, 3) := by decide +kernel
theorem dX10_fences_46 : decode cX10_fences 46 = .ok (.ireturn, 1) := by decide +kernel
theorem dX10_upper_0 : decode cX10_upper 0 = .ok (.aload_n 0, 1) := by decide +kernel
theorem dX10_upper_1 : decode cX10_upper 1 = .ok (.getfield 12, 3) := by decide +kernel
theorem dX10_upper_4 : decode cX10_upper 4 = .ok (.invokevirtual 222, 3) := by decide +kernel
theorem dX10_upper_7 : decode cX10_upper 7 = .ok (.istore_n 1, 1) := by decide +kernel
theorem dX10_upper_8 : decode cX10_upper 8 = .ok (.iload_n 1, 1) := by decide +kernel
theorem dX10_upper_9 : decode cX10_upper 9 = .ok (.iload_n 1, 1) := by decide +kernel
theorem dX10_upper_10 : decode cX10_upper 10 = .ok (.invokestatic 225, 3) := by decide +kernel
theorem dX10_upper_13 : decode cX10_upper 13 = .ok (.idiv, 1) := by decide +kernel
theorem dX10_upper_14 : decode cX10_upper 14 = .ok (.ireturn, 1) := by decide +kernel
theorem dX10_lower_0 : decode cX10_lower 0 = .ok (.bipush 10, 2) := by decide +kernel
theorem dX10_lower_2 : decode cX10_lower 2 = .ok (.aload_n 0, 1) := by decide +kernel
theorem dX10_lower_3 : decode cX10_lower 3 = .ok (.getfield 12, 3) := by decide +kernel
theorem dX10_lower_6 : decode cX10_lower 6 = .ok (.invokevirtual 222, 3) := by decide +kernel
theorem dX10_lower_9 : decode cX10_lower 9 = .ok (.invokestatic 225, 3) := by decide +kernel
theorem dX10_lower_12 : decode cX10_lower 12 = .ok (.idiv, 1) := by decide +kernel
theorem dX10_lower_13 : decode cX10_lower 13 = .ok (.ireturn, 1) := by decide +kernel
theorem dX10_send_0 : decode cX10_send 0 = .ok (.aload_n 0, 1) := by decide +kernel
theorem dX10_send_1 : decode cX10_send 1 = .ok (.getfield 35, 3) := by decide +kernel
theorem dX10_send_4 : decode cX10_send 4 = .ok (.aload_n 0, 1) := by decide +kernel
theorem dX10_send_5 : decode cX10_send 5 = .ok (.getfield 12, 3) := by decide +kernel
theorem dX10_send_8 : decode cX10_send 8 = .ok (.invokevirtual 201, 3) := by decide +kernel
theorem dX10_send_11 : decode cX10_send 11 = .ok (.aload_n 0, 1) := by decide +kernel
theorem dX10_send_12 : decode cX10_send 12 = .ok (.getfield 44, 3) := by decide +kernel
theorem dX10_send_15 : decode cX10_send 15 = .ok (.aload_n 0, 1) := by decide +kernel
theorem dX10_send_16 : decode cX10_send 16 = .ok (.getfield 35, 3) := by decide +kernel
theorem dX10_send_19 : decode cX10_send 19 = .ok (.getfield 204, 3) := by decide +kernel
theorem dX10_send_22 : decode cX10_send 22 = .ok (.iconst 0, 1) := by decide +kernel
theorem dX10_send_23 : decode cX10_send 23 = .ok (.invokevirtual 207, 3) := by decide +kernel
theorem dX10_send_26 : decode cX10_send 26 = .ok (.istore_n 1, 1) := by decide +kernel
theorem dX10_send_27 : decode cX10_send 27 = .ok (.aload_n 0, 1) := by decide +kernel
theorem dX10_send_28 : decode cX10_send 28 = .ok (.getfield 44, 3) := by decide +kernel
theorem dX10_send_31 : decode cX10_send 31 = .ok (.invokevirtual 210, 3) := by decide +kernel
theorem dX10_send_34 : decode cX10_send 34 = .ok (.iconst 0, 1) := by decide +kernel
theorem dX10_send_35 : decode cX10_send 35 = .ok (.istore_n 2, 1) := by decide +kernel
theorem dX10_send_36 : decode cX10_send 36 = .ok (.iload_n 2, 1) := by decide +kernel
theorem dX10_send_37 : decode cX10_send 37 = .ok (.aload_n 0, 1) := by decide +kernel
theorem dX10_send_38 : decode cX10_send 38 = .ok (.getfield 12, 3) := by decide +kernel
theorem dX10_send_41 : decode cX10_send 41 = .ok (.getfield 80, 3) := by decide +kernel
theorem dX10_send_44 : decode cX10_send 44 = .ok (.if_icmp .ge 30, 3) := by decide +kernel
theorem dX10_send_47 : decode cX10_send 47 = .ok (.aload_n 0, 1) := by decide +kernel
theorem dX10_send_48 : decode cX10_send 48 = .ok (.getfield 12, 3) := by decide +kernel
theorem dX10_send_51 : decode cX10_send 51 = .ok (.getfield 122, 3) := by decide +kernel
theorem dX10_send_54 : decode cX10_send 54 = .ok (.iload_n 2, 1) := by decide +kernel
theorem dX10_send_55 : decode cX10_send 55 = .ok (.aaload, 1) := by decide +kernel
theorem dX10_send_56 : decode cX10_send 56 = .ok (.aload_n 0, 1) := by decide +kernel
theorem dX10_send_57 : decode cX10_send 57 = .ok (.getfield 44, 3) := by decide +kernel
theorem dX10_send_60 : decode cX10_send 60 = .ok (.getfield 213, 3) := by decide +kernel
theorem dX10_send_63 : decode cX10_send 63 = .ok (.iload_n 2, 1) := by decide +kernel
theorem dX10_send_64 : decode cX10_send 64 = .ok (.iaload, 1) := by decide +kernel
theorem dX10_send_65 : decode cX10_send 65 = .ok (.putfield 141, 3) := by decide +kernel
theorem dX10_send_68 : decode cX10_send 68 = .ok (.iinc 2 1, 3) := by decide +kernel
theorem dX10_send_71 : decode cX10_send 71 = .ok (.goto (-35), 3) := by decide +kernel
theorem dX10_send_74 : decode cX10_send 74 = .ok (.iload_n 1, 1) := by decide +kernel
theorem dX10_send_75 : decode cX10_send 75 = .ok (.ireturn, 1) := by decide +kernel
theorem dX10_image_0 : decode cX10_image 0 = .ok (.aload_n 0, 1) := by decide +kernel
theorem dX10_image_1 : decode cX10_image 1 = .ok (.getfield 16, 3) := by decide +kernel
theorem dX10_image_4 : decode cX10_image 4 = .ok (.aload_n 0, 1) := by decide +kernel
theorem dX10_image_5 : decode cX10_image 5 = .ok (.getfield 12, 3) := by decide +kernel
theorem dX10_image_8 : decode cX10_image 8 = .ok (.invokevirtual 228, 3) := by decide +kernel
theorem dX10_image_11 : decode cX10_image 11 = .ok (.aload_n 0, 1) := by decide +kernel
theorem dX10_image_12 : decode cX10_image 12 = .ok (.iconst 1, 1) := by decide +kernel
theorem dX10_image_13 : decode cX10_image 13 = .ok (.putfield 231, 3) := by decide +kernel
theorem dX10_image_16 : decode cX10_image 16 = .ok (.iconst 1, 1) := by decide +kernel
theorem dX10_image_17 : decode cX10_image 17 = .ok (.ireturn, 1) := by decide +kernel
theorem dX10_restore_0 : decode cX10_restore 0 = .ok (.aload_n 0, 1) := by decide +kernel
theorem dX10_restore_1 : decode cX10_restore 1 = .ok (.getfield 231, 3) := by decide +kernel
theorem dX10_restore_4 : decode cX10_restore 4 = .ok (.ifCond .ne 6, 3) := by decide +kernel
theorem dX10_restore_7 : decode cX10_restore 7 = .ok (.bipush (-4), 2) := by decide +kernel
theorem dX10_restore_9 : decode cX10_restore 9 = .ok (.ireturn, 1) := by decide +kernel
theorem dX10_restore_10 : decode cX10_restore 10 = .ok (.aload_n 0, 1) := by decide +kernel
theorem dX10_restore_11 : decode cX10_restore 11 = .ok (.getfield 12, 3) := by decide +kernel
theorem dX10_restore_14 : decode cX10_restore 14 = .ok (.aload_n 0, 1) := by decide +kernel
theorem dX10_restore_15 : decode cX10_restore 15 = .ok (.getfield 16, 3) := by decide +kernel
theorem dX10_restore_18 : decode cX10_restore 18 = .ok (.invokevirtual 228, 3) := by decide +kernel
theorem dX10_restore_21 : decode cX10_restore 21 = .ok (.iconst 1, 1) := by decide +kernel
theorem dX10_restore_22 : decode cX10_restore 22 = .ok (.ireturn, 1) := by decide +kernel
theorem dX10_hired_0 : decode cX10_hired 0 = .ok (.iload_n 1, 1) := by decide +kernel
theorem dX10_hired_1 : decode cX10_hired 1 = .ok (.invokestatic 235, 3) := by decide +kernel
theorem dX10_hired_4 : decode cX10_hired 4 = .ok (.ifCond .eq 28, 3) := by decide +kernel
theorem dX10_hired_7 : decode cX10_hired 7 = .ok (.iload_n 2, 1) := by decide +kernel
theorem dX10_hired_8 : decode cX10_hired 8 = .ok (.invokestatic 238, 3) := by decide +kernel
theorem dX10_hired_11 : decode cX10_hired 11 = .ok (.ifCond .eq 21, 3) := by decide +kernel
theorem dX10_hired_14 : decode cX10_hired 14 = .ok (.iload 4, 2) := by decide +kernel
theorem dX10_hired_16 : decode cX10_hired 16 = .ok (.iconst (-1), 1) := by decide +kernel
theorem dX10_hired_17 : decode cX10_hired 17 = .ok (.if_icmp .eq 17, 3) := by decide +kernel
theorem dX10_hired_20 : decode cX10_hired 20 = .ok (.aload_n 0, 1) := by decide +kernel
theorem dX10_hired_21 : decode cX10_hired 21 = .ok (.getfield 12, 3) := by decide +kernel
theorem dX10_hired_24 : decode cX10_hired 24 = .ok (.iload 4, 2) := by decide +kernel
theorem dX10_hired_26 : decode cX10_hired 26 = .ok (.invokevirtual 88, 3) := by decide +kernel
theorem dX10_hired_29 : decode cX10_hired 29 = .ok (.ifCond .ne 5, 3) := by decide +kernel
theorem dX10_hired_32 : decode cX10_hired 32 = .ok (.iconst (-1), 1) := by decide +kernel
theorem dX10_hired_33 : decode cX10_hired 33 = .ok (.ireturn, 1) := by decide +kernel
theorem dX10_hired_34 : decode cX10_hired 34 = .ok (.aload_n 0, 1) := by decide +kernel
theorem dX10_hired_35 : decode cX10_hired 35 = .ok (.iload_n 1, 1) := by decide +kernel
theorem dX10_hired_36 : decode cX10_hired 36 = .ok (.iload_n 2, 1) := by decide +kernel
theorem dX10_hired_37 : decode cX10_hired 37 = .ok (.iload_n 3, 1) := by decide +kernel
theorem dX10_hired_38 : decode cX10_hired 38 = .ok (.bipush 10, 2) := by decide +kernel
theorem dX10_hired_40 : decode cX10_hired 40 = .ok (.invokevirtual 241, 3) := by decide +kernel
theorem dX10_hired_43 : decode cX10_hired 43 = .ok (.istore 5, 2) := by decide +kernel
theorem dX10_hired_45 : decode cX10_hired 45 = .ok (.iload 5, 2) := by decide +kernel
theorem dX10_hired_47 : decode cX10_hired 47 = .ok (.ifCond .eq 6, 3) := by decide +kernel
theorem dX10_hired_50 : decode cX10_hired 50 = .ok (.iload 5, 2) := by decide +kernel
theorem dX10_hired_52 : decode cX10_hired 52 = .ok (.ireturn, 1) := by decide +kernel
theorem dX10_hired_53 : decode cX10_hired 53 = .ok (.aload_n 0, 1) := by decide +kernel
theorem dX10_hired_54 : decode cX10_hired 54 = .ok (.getfield 35, 3) := by decide +kernel
theorem dX10_hired_57 : decode cX10_hired 57 = .ok (.aload_n 0, 1) := by decide +kernel
theorem dX10_hired_58 : decode cX10_hired 58 = .ok (.getfield 12, 3) := by decide +kernel
theorem dX10_hired_61 : decode cX10_hired 61 = .ok (.invokevirtual 201, 3) := by decide +kernel
theorem dX10_hired_64 : decode cX10_hired 64 = .ok (.aload_n 0, 1) := by decide +kernel
theorem dX10_hired_65 : decode cX10_hired 65 = .ok (.getfield 51, 3) := by decide +kernel
theorem dX10_hired_68 : decode cX10_hired 68 = .ok (.aload_n 0, 1) := by decide +kernel
theorem dX10_hired_69 : decode cX10_hired 69 = .ok (.getfield 28, 3) := by decide +kernel
theorem dX10_hired_72 : decode cX10_hired 72 = .ok (.iload_n 1, 1) := by decide +kernel
theorem dX10_hired_73 : decode cX10_hired 73 = .ok (.aaload, 1) := by decide +kernel
theorem dX10_hired_74 : decode cX10_hired 74 = .ok (.iload_n 3, 1) := by decide +kernel
theorem dX10_hired_75 : decode cX10_hired 75 = .ok (.invokevirtual 244, 3) := by decide +kernel
theorem dX10_hired_78 : decode cX10_hired 78 = .ok (.aload_n 0, 1) := by decide +kernel
theorem dX10_hired_79 : decode cX10_hired 79 = .ok (.getfield 51, 3) := by decide +kernel
theorem dX10_hired_82 : decode cX10_hired 82 = .ok (.invokevirtual 248, 3) := by decide +kernel
theorem dX10_hired_85 : decode cX10_hired 85 = .ok (.ifCond .ne 6, 3) := by decide +kernel
theorem dX10_hired_88 : decode cX10_hired 88 = .ok (.bipush (-4), 2) := by decide +kernel
theorem dX10_hired_90 : decode cX10_hired 90 = .ok (.ireturn, 1) := by decide +kernel
theorem dX10_hired_91 : decode cX10_hired 91 = .ok (.iload 4, 2) := by decide +kernel
theorem dX10_hired_93 : decode cX10_hired 93 = .ok (.iconst (-1), 1) := by decide +kernel
theorem dX10_hired_94 : decode cX10_hired 94 = .ok (.if_icmp .ne 13, 3) := by decide +kernel
theorem dX10_hired_97 : decode cX10_hired 97 = .ok (.aload_n 0, 1) := by decide +kernel
theorem dX10_hired_98 : decode cX10_hired 98 = .ok (.getfield 51, 3) := by decide +kernel
theorem dX10_hired_101 : decode cX10_hired 101 = .ok (.getfield 252, 3) := by decide +kernel
theorem dX10_hired_104 : decode cX10_hired 104 = .ok (.goto 13, 3) := by decide +kernel
theorem dX10_hired_107 : decode cX10_hired 107 = .ok (.aload_n 0, 1) := by decide +kernel
theorem dX10_hired_108 : decode cX10_hired 108 = .ok (.getfield 51, 3) := by decide +kernel
theorem dX10_hired_111 : decode cX10_hired 111 = .ok (.getfield 255, 3) := by decide +kernel
theorem dX10_hired_114 : decode cX10_hired 114 = .ok (.iload 4, 2) := by decide +kernel
theorem dX10_hired_116 : decode cX10_hired 116 = .ok (.iaload, 1) := by decide +kernel
theorem dX10_hired_117 : decode cX10_hired 117 = .ok (.ireturn, 1) := by decide +kernel
theorem dX10_night_0 : decode cX10_night 0 = .ok (.iload_n 1, 1) := by decide +kernel
theorem dX10_night_1 : decode cX10_night 1 = .ok (.invokestatic 235, 3) := by decide +kernel
theorem dX10_night_4 : decode cX10_night 4 = .ok (.ifCond .eq 20, 3) := by decide +kernel
theorem dX10_night_7 : decode cX10_night 7 = .ok (.iload_n 2, 1) := by decide +kernel
theorem dX10_night_8 : decode cX10_night 8 = .ok (.invokestatic 238, 3) := by decide +kernel
theorem dX10_night_11 : decode cX10_night 11 = .ok (.ifCond .eq 13, 3) := by decide +kernel
theorem dX10_night_14 : decode cX10_night 14 = .ok (.iload 4, 2) := by decide +kernel
theorem dX10_night_16 : decode cX10_night 16 = .ok (.iconst 0, 1) := by decide +kernel
theorem dX10_night_17 : decode cX10_night 17 = .ok (.iconst 1, 1) := by decide +kernel
theorem dX10_night_18 : decode cX10_night 18 = .ok (.invokestatic 76, 3) := by decide +kernel
theorem dX10_night_21 : decode cX10_night 21 = .ok (.ifCond .ne 5, 3) := by decide +kernel
theorem dX10_night_24 : decode cX10_night 24 = .ok (.iconst (-1), 1) := by decide +kernel
theorem dX10_night_25 : decode cX10_night 25 = .ok (.ireturn, 1) := by decide +kernel
theorem dX10_night_26 : decode cX10_night 26 = .ok (.aload_n 0, 1) := by decide +kernel
theorem dX10_night_27 : decode cX10_night 27 = .ok (.iload_n 1, 1) := by decide +kernel
theorem dX10_night_28 : decode cX10_night 28 = .ok (.iload_n 2, 1) := by decide +kernel
theorem dX10_night_29 : decode cX10_night 29 = .ok (.iload_n 3, 1) := by decide +kernel
theorem dX10_night_30 : decode cX10_night 30 = .ok (.aload_n 0, 1) := by decide +kernel
theorem dX10_night_31 : decode cX10_night 31 = .ok (.getfield 12, 3) := by decide +kernel
theorem dX10_night_34 : decode cX10_night 34 = .ok (.getfield 80, 3) := by decide +kernel
theorem dX10_night_37 : decode cX10_night 37 = .ok (.invokevirtual 241, 3) := by decide +kernel
theorem dX10_night_40 : decode cX10_night 40 = .ok (.istore 5, 2) := by decide +kernel
theorem dX10_night_42 : decode cX10_night 42 = .ok (.iload 5, 2) := by decide +kernel
theorem dX10_night_44 : decode cX10_night 44 = .ok (.ifCond .eq 6, 3) := by decide +kernel
theorem dX10_night_47 : decode cX10_night 47 = .ok (.iload 5, 2) := by decide +kernel
theorem dX10_night_49 : decode cX10_night 49 = .ok (.ireturn, 1) := by decide +kernel
theorem dX10_night_50 : decode cX10_night 50 = .ok (.iconst 0, 1) := by decide +kernel
theorem dX10_night_51 : decode cX10_night 51 = .ok (.istore 6, 2) := by decide +kernel
theorem dX10_night_53 : decode cX10_night 53 = .ok (.iload 6, 2) := by decide +kernel
theorem dX10_night_55 : decode cX10_night 55 = .ok (.aload_n 0, 1) := by decide +kernel
theorem dX10_night_56 : decode cX10_night 56 = .ok (.getfield 12, 3) := by decide +kernel
theorem dX10_night_59 : decode cX10_night 59 = .ok (.getfield 80, 3) := by decide +kernel
theorem dX10_night_62 : decode cX10_night 62 = .ok (.if_icmp .ge 31, 3) := by decide +kernel
theorem dX10_night_65 : decode cX10_night 65 = .ok (.aload_n 0, 1) := by decide +kernel
theorem dX10_night_66 : decode cX10_night 66 = .ok (.getfield 71, 3) := by decide +kernel
theorem dX10_night_69 : decode cX10_night 69 = .ok (.iload 6, 2) := by decide +kernel
theorem dX10_night_71 : decode cX10_night 71 = .ok (.aload_n 0, 1) := by decide +kernel
theorem dX10_night_72 : decode cX10_night 72 = .ok (.getfield 28, 3) := by decide +kernel
theorem dX10_night_75 : decode cX10_night 75 = .ok (.iload_n 1, 1) := by decide +kernel
theorem dX10_night_76 : decode cX10_night 76 = .ok (.aaload, 1) := by decide +kernel
theorem dX10_night_77 : decode cX10_night 77 = .ok (.iload_n 3, 1) := by decide +kernel
theorem dX10_night_78 : decode cX10_night 78 = .ok (.iload 6, 2) := by decide +kernel
theorem dX10_night_80 : decode cX10_night 80 = .ok (.iadd, 1) := by decide +kernel
theorem dX10_night_81 : decode cX10_night 81 = .ok (.bipush 10, 2) := by decide +kernel
theorem dX10_night_83 : decode cX10_night 83 = .ok (.invokevirtual 258, 3) := by decide +kernel
theorem dX10_night_86 : decode cX10_night 86 = .ok (.iastore, 1) := by decide +kernel
theorem dX10_night_87 : decode cX10_night 87 = .ok (.iinc 6 1, 3) := by decide +kernel
theorem dX10_night_90 : decode cX10_night 90 = .ok (.goto (-37), 3) := by decide +kernel
theorem dX10_night_93 : decode cX10_night 93 = .ok (.aload_n 0, 1) := by decide +kernel
theorem dX10_night_94 : decode cX10_night 94 = .ok (.getfield 35, 3) := by decide +kernel
theorem dX10_night_97 : decode cX10_night 97 = .ok (.aload_n 0, 1) := by decide +kernel
theorem dX10_night_98 : decode cX10_night 98 = .ok (.getfield 12, 3) := by decide +kernel
theorem dX10_night_101 : decode cX10_night 101 = .ok (.invokevirtual 201, 3) := by decide +kernel
theorem dX10_night_104 : decode cX10_night 104 = .ok (.aload_n 0, 1) := by decide +kernel
theorem dX10_night_105 : decode cX10_night 105 = .ok (.getfield 44, 3) := by decide +kernel
theorem dX10_night_108 : decode cX10_night 108 = .ok (.aload_n 0, 1) := by decide +kernel
theorem dX10_night_109 : decode cX10_night 109 = .ok (.getfield 71, 3) := by decide +kernel
theorem dX10_night_112 : decode cX10_night 112 = .ok (.invokevirtual 261, 3) := by decide +kernel
theorem dX10_night_115 : decode cX10_night 115 = .ok (.iload 4, 2) := by decide +kernel
theorem dX10_night_117 : decode cX10_night 117 = .ok (.ifCond .ne 11, 3) := by decide +kernel
theorem dX10_night_120 : decode cX10_night 120 = .ok (.aload_n 0, 1) := by decide +kernel
theorem dX10_night_121 : decode cX10_night 121 = .ok (.getfield 44, 3) := by decide +kernel
theorem dX10_night_124 : decode cX10_night 124 = .ok (.getfield 265, 3) := by decide +kernel
theorem dX10_night_127 : decode cX10_night 127 = .ok (.ireturn, 1) := by decide +kernel
theorem dX10_night_128 : decode cX10_night 128 = .ok (.aload_n 0, 1) := by decide +kernel
theorem dX10_night_129 : decode cX10_night 129 = .ok (.getfield 44, 3) := by decide +kernel
theorem dX10_night_132 : decode cX10_night 132 = .ok (.getfield 265, 3) := by decide +kernel
theorem dX10_night_135 : decode cX10_night 135 = .ok (.ifCond .ne 8, 3) := by decide +kernel
theorem dX10_night_138 : decode cX10_night 138 = .ok (.bipush (-4), 2) := by decide +kernel
theorem dX10_night_140 : decode cX10_night 140 = .ok (.goto 10, 3) := by decide +kernel
theorem dX10_night_143 : decode cX10_night 143 = .ok (.aload_n 0, 1) := by decide +kernel
theorem dX10_night_144 : decode cX10_night 144 = .ok (.getfield 44, 3) := by decide +kernel
theorem dX10_night_147 : decode cX10_night 147 = .ok (.getfield 268, 3) := by decide +kernel
theorem dX10_night_150 : decode cX10_night 150 = .ok (.ireturn, 1) := by decide +kernel
theorem dX10_pie_0 : decode cX10_pie 0 = .ok (.iload_n 1, 1) := by decide +kernel
theorem dX10_pie_1 : decode cX10_pie 1 = .ok (.invokestatic 235, 3) := by decide +kernel
theorem dX10_pie_4 : decode cX10_pie 4 = .ok (.ifCond .eq 20, 3) := by decide +kernel
theorem dX10_pie_7 : decode cX10_pie 7 = .ok (.iload_n 2, 1) := by decide +kernel
theorem dX10_pie_8 : decode cX10_pie 8 = .ok (.invokestatic 238, 3) := by decide +kernel
theorem dX10_pie_11 : decode cX10_pie 11 = .ok (.ifCond .eq 13, 3) := by decide +kernel
theorem dX10_pie_14 : decode cX10_pie 14 = .ok (.iload 4, 2) := by decide +kernel
theorem dX10_pie_16 : decode cX10_pie 16 = .ok (.iconst 0, 1) := by decide +kernel
theorem dX10_pie_17 : decode cX10_pie 17 = .ok (.iconst 1, 1) := by decide +kernel
theorem dX10_pie_18 : decode cX10_pie 18 = .ok (.invokestatic 76, 3) := by decide +kernel
theorem dX10_pie_21 : decode cX10_pie 21 = .ok (.ifCond .ne 5, 3) := by decide +kernel
theorem dX10_pie_24 : decode cX10_pie 24 = .ok (.iconst (-1), 1) := by decide +kernel
theorem dX10_pie_25 : decode cX10_pie 25 = .ok (.ireturn, 1) := by decide +kernel
theorem dX10_pie_26 : decode cX10_pie 26 = .ok (.aload_n 0, 1) := by decide +kernel
theorem dX10_pie_27 : decode cX10_pie 27 = .ok (.iload_n 1, 1) := by decide +kernel
theorem dX10_pie_28 : decode cX10_pie 28 = .ok (.iload_n 2, 1) := by decide +kernel
theorem dX10_pie_29 : decode cX10_pie 29 = .ok (.iload_n 3, 1) := by decide +kernel
theorem dX10_pie_30 : decode cX10_pie 30 = .ok (.bipush 10, 2) := by decide +kernel
theorem dX10_pie_32 : decode cX10_pie 32 = .ok (.invokevirtual 241, 3) := by decide +kernel
theorem dX10_pie_35 : decode cX10_pie 35 = .ok (.istore 5, 2) := by decide +kernel
theorem dX10_pie_37 : decode cX10_pie 37 = .ok (.iload 5, 2) := by decide +kernel
theorem dX10_pie_39 : decode cX10_pie 39 = .ok (.ifCond .eq 6, 3) := by decide +kernel
theorem dX10_pie_42 : decode cX10_pie 42 = .ok (.iload 5, 2) := by decide +kernel
theorem dX10_pie_44 : decode cX10_pie 44 = .ok (.ireturn, 1) := by decide +kernel
theorem dX10_pie_45 : decode cX10_pie 45 = .ok (.aload_n 0, 1) := by decide +kernel
theorem dX10_pie_46 : decode cX10_pie 46 = .ok (.getfield 35, 3) := by decide +kernel
theorem dX10_pie_49 : decode cX10_pie 49 = .ok (.aload_n 0, 1) := by decide +kernel
theorem dX10_pie_50 : decode cX10_pie 50 = .ok (.getfield 12, 3) := by decide +kernel
theorem dX10_pie_53 : decode cX10_pie 53 = .ok (.invokevirtual 201, 3) := by decide +kernel
theorem dX10_pie_56 : decode cX10_pie 56 = .ok (.aload_n 0, 1) := by decide +kernel
theorem dX10_pie_57 : decode cX10_pie 57 = .ok (.getfield 51, 3) := by decide +kernel
theorem dX10_pie_60 : decode cX10_pie 60 = .ok (.aload_n 0, 1) := by decide +kernel
theorem dX10_pie_61 : decode cX10_pie 61 = .ok (.getfield 28, 3) := by decide +kernel
theorem dX10_pie_64 : decode cX10_pie 64 = .ok (.iload_n 1, 1) := by decide +kernel
theorem dX10_pie_65 : decode cX10_pie 65 = .ok (.aaload, 1) := by decide +kernel
theorem dX10_pie_66 : decode cX10_pie 66 = .ok (.iload_n 3, 1) := by decide +kernel
theorem dX10_pie_67 : decode cX10_pie 67 = .ok (.invokevirtual 244, 3) := by decide +kernel
theorem dX10_pie_70 : decode cX10_pie 70 = .ok (.aload_n 0, 1) := by decide +kernel
theorem dX10_pie_71 : decode cX10_pie 71 = .ok (.getfield 51, 3) := by decide +kernel
theorem dX10_pie_74 : decode cX10_pie 74 = .ok (.invokevirtual 271, 3) := by decide +kernel
theorem dX10_pie_77 : decode cX10_pie 77 = .ok (.iload 4, 2) := by decide +kernel
theorem dX10_pie_79 : decode cX10_pie 79 = .ok (.ifCond .ne 11, 3) := by decide +kernel
theorem dX10_pie_82 : decode cX10_pie 82 = .ok (.aload_n 0, 1) := by decide +kernel
theorem dX10_pie_83 : decode cX10_pie 83 = .ok (.getfield 51, 3) := by decide +kernel
theorem dX10_pie_86 : decode cX10_pie 86 = .ok (.getfield 274, 3) := by decide +kernel
theorem dX10_pie_89 : decode cX10_pie 89 = .ok (.ireturn, 1) := by decide +kernel
theorem dX10_pie_90 : decode cX10_pie 90 = .ok (.aload_n 0, 1) := by decide +kernel
theorem dX10_pie_91 : decode cX10_pie 91 = .ok (.getfield 51, 3) := by decide +kernel
theorem dX10_pie_94 : decode cX10_pie 94 = .ok (.getfield 274, 3) := by decide +kernel
theorem dX10_pie_97 : decode cX10_pie 97 = .ok (.ifCond .ne 8, 3) := by decide +kernel
theorem dX10_pie_100 : decode cX10_pie 100 = .ok (.bipush (-4), 2) := by decide +kernel
theorem dX10_pie_102 : decode cX10_pie 102 = .ok (.goto 10, 3) := by decide +kernel
theorem dX10_pie_105 : decode cX10_pie 105 = .ok (.aload_n 0, 1) := by decide +kernel
theorem dX10_pie_106 : decode cX10_pie 106 = .ok (.getfield 51, 3) := by decide +kernel
theorem dX10_pie_109 : decode cX10_pie 109 = .ok (.invokevirtual 275, 3) := by decide +kernel
theorem dX10_pie_112 : decode cX10_pie 112 = .ok (.ireturn, 1) := by decide +kernel
theorem dX10_earned_0 : decode cX10_earned 0 = .ok (.iload 5, 2) := by decide +kernel
theorem dX10_earned_2 : decode cX10_earned 2 = .ok (.iconst 0, 1) := by decide +kernel
theorem dX10_earned_3 : decode cX10_earned 3 = .ok (.sipush 200, 3) := by decide +kernel
theorem dX10_earned_6 : decode cX10_earned 6 = .ok (.invokestatic 76, 3) := by decide +kernel
theorem dX10_earned_9 : decode cX10_earned 9 = .ok (.ifCond .ne 6, 3) := by decide +kernel
theorem dX10_earned_12 : decode cX10_earned 12 = .ok (.ldc 134, 2) := by decide +kernel
theorem dX10_earned_14 : decode cX10_earned 14 = .ok (.ireturn, 1) := by decide +kernel
theorem dX10_earned_15 : decode cX10_earned 15 = .ok (.aload_n 0, 1) := by decide +kernel
theorem dX10_earned_16 : decode cX10_earned 16 = .ok (.iload_n 1, 1) := by decide +kernel
theorem dX10_earned_17 : decode cX10_earned 17 = .ok (.iload_n 2, 1) := by decide +kernel
theorem dX10_earned_18 : decode cX10_earned 18 = .ok (.iload_n 3, 1) := by decide +kernel
theorem dX10_earned_19 : decode cX10_earned 19 = .ok (.iload 4, 2) := by decide +kernel
theorem dX10_earned_21 : decode cX10_earned 21 = .ok (.invokevirtual 278, 3) := by decide +kernel
theorem dX10_earned_24 : decode cX10_earned 24 = .ok (.istore 6, 2) := by decide +kernel
theorem dX10_earned_26 : decode cX10_earned 26 = .ok (.iload 6, 2) := by decide +kernel
theorem dX10_earned_28 : decode cX10_earned 28 = .ok (.ifCond .eq 12, 3) := by decide +kernel
theorem dX10_earned_31 : decode cX10_earned 31 = .ok (.iload 6, 2) := by decide +kernel
theorem dX10_earned_33 : decode cX10_earned 33 = .ok (.ldc_w 281, 3) := by decide +kernel
theorem dX10_earned_36 : decode cX10_earned 36 = .ok (.isub, 1) := by decide +kernel
theorem dX10_earned_37 : decode cX10_earned 37 = .ok (.goto 12, 3) := by decide +kernel
theorem dX10_earned_40 : decode cX10_earned 40 = .ok (.aload_n 0, 1) := by decide +kernel
theorem dX10_earned_41 : decode cX10_earned 41 = .ok (.getfield 67, 3) := by decide +kernel
theorem dX10_earned_44 : decode cX10_earned 44 = .ok (.iload 5, 2) := by decide +kernel
theorem dX10_earned_46 : decode cX10_earned 46 = .ok (.invokevirtual 282, 3) := by decide +kernel
theorem dX10_earned_49 : decode cX10_earned 49 = .ok (.ireturn, 1) := by decide +kernel
theorem dX10_again_0 : decode cX10_again 0 = .ok (.iload 5, 2) := by decide +kernel
theorem dX10_again_2 : decode cX10_again 2 = .ok (.iconst 0, 1) := by decide +kernel
theorem dX10_again_3 : decode cX10_again 3 = .ok (.iconst 1, 1) := by decide +kernel
theorem dX10_again_4 : decode cX10_again 4 = .ok (.invokestatic 76, 3) := by decide +kernel
theorem dX10_again_7 : decode cX10_again 7 = .ok (.ifCond .ne 5, 3) := by decide +kernel
theorem dX10_again_10 : decode cX10_again 10 = .ok (.iconst (-1), 1) := by decide +kernel
theorem dX10_again_11 : decode cX10_again 11 = .ok (.ireturn, 1) := by decide +kernel
theorem dX10_again_12 : decode cX10_again 12 = .ok (.aload_n 0, 1) := by decide +kernel
theorem dX10_again_13 : decode cX10_again 13 = .ok (.iload_n 1, 1) := by decide +kernel
theorem dX10_again_14 : decode cX10_again 14 = .ok (.iload_n 2, 1) := by decide +kernel
theorem dX10_again_15 : decode cX10_again 15 = .ok (.iload_n 3, 1) := by decide +kernel
theorem dX10_again_16 : decode cX10_again 16 = .ok (.iload 4, 2) := by decide +kernel
theorem dX10_again_18 : decode cX10_again 18 = .ok (.invokevirtual 278, 3) := by decide +kernel
theorem dX10_again_21 : decode cX10_again 21 = .ok (.istore 6, 2) := by decide +kernel
theorem dX10_again_23 : decode cX10_again 23 = .ok (.iload 6, 2) := by decide +kernel
theorem dX10_again_25 : decode cX10_again 25 = .ok (.ifCond .eq 6, 3) := by decide +kernel
theorem dX10_again_28 : decode cX10_again 28 = .ok (.iload 6, 2) := by decide +kernel
theorem dX10_again_30 : decode cX10_again 30 = .ok (.ireturn, 1) := by decide +kernel
theorem dX10_again_31 : decode cX10_again 31 = .ok (.aload_n 0, 1) := by decide +kernel
theorem dX10_again_32 : decode cX10_again 32 = .ok (.getfield 67, 3) := by decide +kernel
theorem dX10_again_35 : decode cX10_again 35 = .ok (.invokevirtual 285, 3) := by decide +kernel
theorem dX10_again_38 : decode cX10_again 38 = .ok (.ifCond .ne 6, 3) := by decide +kernel
theorem dX10_again_41 : decode cX10_again 41 = .ok (.bipush (-4), 2) := by decide +kernel
theorem dX10_again_43 : decode cX10_again 43 = .ok (.ireturn, 1) := by decide +kernel
theorem dX10_again_44 : decode cX10_again 44 = .ok (.iload 5, 2) := by decide +kernel
theorem dX10_again_46 : decode cX10_again 46 = .ok (.ifCond .ne 13, 3) := by decide +kernel
theorem dX10_again_49 : decode cX10_again 49 = .ok (.aload_n 0, 1) := by decide +kernel
theorem dX10_again_50 : decode cX10_again 50 = .ok (.getfield 67, 3) := by decide +kernel
theorem dX10_again_53 : decode cX10_again 53 = .ok (.getfield 288, 3) := by decide +kernel
theorem dX10_again_56 : decode cX10_again 56 = .ok (.goto 10, 3) := by decide +kernel
theorem dX10_again_59 : decode cX10_again 59 = .ok (.aload_n 0, 1) := by decide +kernel
theorem dX10_again_60 : decode cX10_again 60 = .ok (.getfield 67, 3) := by decide +kernel
theorem dX10_again_63 : decode cX10_again 63 = .ok (.getfield 291, 3) := by decide +kernel
theorem dX10_again_66 : decode cX10_again 66 = .ok (.ireturn, 1) := by decide +kernel
theorem dX10_film_0 : decode cX10_film 0 = .ok (.iload_n 1, 1) := by decide +kernel
theorem dX10_film_1 : decode cX10_film 1 = .ok (.invokestatic 235, 3) := by decide +kernel
theorem dX10_film_4 : decode cX10_film 4 = .ok (.ifCond .eq 10, 3) := by decide +kernel
theorem dX10_film_7 : decode cX10_film 7 = .ok (.iload_n 2, 1) := by decide +kernel
theorem dX10_film_8 : decode cX10_film 8 = .ok (.invokestatic 238, 3) := by decide +kernel
theorem dX10_film_11 : decode cX10_film 11 = .ok (.ifCond .ne 5, 3) := by decide +kernel
theorem dX10_film_14 : decode cX10_film 14 = .ok (.iconst (-1), 1) := by decide +kernel
theorem dX10_film_15 : decode cX10_film 15 = .ok (.ireturn, 1) := by decide +kernel
theorem dX10_film_16 : decode cX10_film 16 = .ok (.aload_n 0, 1) := by decide +kernel
theorem dX10_film_17 : decode cX10_film 17 = .ok (.iload_n 1, 1) := by decide +kernel
theorem dX10_film_18 : decode cX10_film 18 = .ok (.iload_n 2, 1) := by decide +kernel
theorem dX10_film_19 : decode cX10_film 19 = .ok (.iload_n 3, 1) := by decide +kernel
