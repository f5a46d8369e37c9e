theorem dX10_film_20 : decode cX10_film 20 = .ok (.bipush 10, 2) := by decide +kernel
theorem dX10_film_22 : decode cX10_film 22 = .ok (.invokevirtual 241, 3) := by decide +kernel
theorem dX10_film_25 : decode cX10_film 25 = .ok (.istore 4, 2) := by decide +kernel
theorem dX10_film_27 : decode cX10_film 27 = .ok (.iload 4, 2) := by decide +kernel
theorem dX10_film_29 : decode cX10_film 29 = .ok (.ifCond .eq 6, 3) := by decide +kernel
theorem dX10_film_32 : decode cX10_film 32 = .ok (.iload 4, 2) := by decide +kernel
theorem dX10_film_34 : decode cX10_film 34 = .ok (.ireturn, 1) := by decide +kernel
theorem dX10_film_35 : decode cX10_film 35 = .ok (.iconst 0, 1) := by decide +kernel
theorem dX10_film_36 : decode cX10_film 36 = .ok (.istore 5, 2) := by decide +kernel
theorem dX10_film_38 : decode cX10_film 38 = .ok (.iload 5, 2) := by decide +kernel
theorem dX10_film_40 : decode cX10_film 40 = .ok (.bipush 10, 2) := by decide +kernel
theorem dX10_film_42 : decode cX10_film 42 = .ok (.if_icmp .ge 32, 3) := by decide +kernel
theorem dX10_film_45 : decode cX10_film 45 = .ok (.aload_n 0, 1) := by decide +kernel
theorem dX10_film_46 : decode cX10_film 46 = .ok (.getfield 28, 3) := by decide +kernel
theorem dX10_film_49 : decode cX10_film 49 = .ok (.iload_n 1, 1) := by decide +kernel
theorem dX10_film_50 : decode cX10_film 50 = .ok (.aaload, 1) := by decide +kernel
theorem dX10_film_51 : decode cX10_film 51 = .ok (.iload_n 3, 1) := by decide +kernel
theorem dX10_film_52 : decode cX10_film 52 = .ok (.iload 5, 2) := by decide +kernel
theorem dX10_film_54 : decode cX10_film 54 = .ok (.iadd, 1) := by decide +kernel
theorem dX10_film_55 : decode cX10_film 55 = .ok (.aload_n 0, 1) := by decide +kernel
theorem dX10_film_56 : decode cX10_film 56 = .ok (.getfield 12, 3) := by decide +kernel
theorem dX10_film_59 : decode cX10_film 59 = .ok (.iload 5, 2) := by decide +kernel
theorem dX10_film_61 : decode cX10_film 61 = .ok (.invokevirtual 183, 3) := by decide +kernel
theorem dX10_film_64 : decode cX10_film 64 = .ok (.i2l, 1) := by decide +kernel
theorem dX10_film_65 : decode cX10_film 65 = .ok (.invokevirtual 294, 3) := by decide +kernel
theorem dX10_film_68 : decode cX10_film 68 = .ok (.iinc 5 1, 3) := by decide +kernel
theorem dX10_film_71 : decode cX10_film 71 = .ok (.goto (-33), 3) := by decide +kernel
theorem dX10_film_74 : decode cX10_film 74 = .ok (.bipush 10, 2) := by decide +kernel
theorem dX10_film_76 : decode cX10_film 76 = .ok (.ireturn, 1) := by decide +kernel
theorem dX10_sheet_0 : decode cX10_sheet 0 = .ok (.iload_n 1, 1) := by decide +kernel
theorem dX10_sheet_1 : decode cX10_sheet 1 = .ok (.invokestatic 235, 3) := by decide +kernel
theorem dX10_sheet_4 : decode cX10_sheet 4 = .ok (.ifCond .eq 16, 3) := by decide +kernel
theorem dX10_sheet_7 : decode cX10_sheet 7 = .ok (.iload_n 2, 1) := by decide +kernel
theorem dX10_sheet_8 : decode cX10_sheet 8 = .ok (.invokestatic 238, 3) := by decide +kernel
theorem dX10_sheet_11 : decode cX10_sheet 11 = .ok (.ifCond .eq 9, 3) := by decide +kernel
theorem dX10_sheet_14 : decode cX10_sheet 14 = .ok (.iload_n 3, 1) := by decide +kernel
theorem dX10_sheet_15 : decode cX10_sheet 15 = .ok (.bipush 16, 2) := by decide +kernel
theorem dX10_sheet_17 : decode cX10_sheet 17 = .ok (.if_icmp .le 5, 3) := by decide +kernel
theorem dX10_sheet_20 : decode cX10_sheet 20 = .ok (.iconst (-1), 1) := by decide +kernel
theorem dX10_sheet_21 : decode cX10_sheet 21 = .ok (.ireturn, 1) := by decide +kernel
theorem dX10_sheet_22 : decode cX10_sheet 22 = .ok (.iload_n 3, 1) := by decide +kernel
theorem dX10_sheet_23 : decode cX10_sheet 23 = .ok (.ifCond .ge 6, 3) := by decide +kernel
theorem dX10_sheet_26 : decode cX10_sheet 26 = .ok (.bipush (-14), 2) := by decide +kernel
theorem dX10_sheet_28 : decode cX10_sheet 28 = .ok (.ireturn, 1) := by decide +kernel
theorem dX10_sheet_29 : decode cX10_sheet 29 = .ok (.aload_n 0, 1) := by decide +kernel
theorem dX10_sheet_30 : decode cX10_sheet 30 = .ok (.getfield 28, 3) := by decide +kernel
theorem dX10_sheet_33 : decode cX10_sheet 33 = .ok (.iload_n 1, 1) := by decide +kernel
theorem dX10_sheet_34 : decode cX10_sheet 34 = .ok (.aaload, 1) := by decide +kernel
theorem dX10_sheet_35 : decode cX10_sheet 35 = .ok (.iload_n 2, 1) := by decide +kernel
theorem dX10_sheet_36 : decode cX10_sheet 36 = .ok (.iload_n 3, 1) := by decide +kernel
theorem dX10_sheet_37 : decode cX10_sheet 37 = .ok (.invokevirtual 298, 3) := by decide +kernel
theorem dX10_sheet_40 : decode cX10_sheet 40 = .ok (.iload_n 3, 1) := by decide +kernel
theorem dX10_sheet_41 : decode cX10_sheet 41 = .ok (.ireturn, 1) := by decide +kernel
theorem dX10_drop_0 : decode cX10_drop 0 = .ok (.iload_n 1, 1) := by decide +kernel
theorem dX10_drop_1 : decode cX10_drop 1 = .ok (.invokestatic 235, 3) := by decide +kernel
theorem dX10_drop_4 : decode cX10_drop 4 = .ok (.ifCond .ne 5, 3) := by decide +kernel
theorem dX10_drop_7 : decode cX10_drop 7 = .ok (.iconst (-1), 1) := by decide +kernel
theorem dX10_drop_8 : decode cX10_drop 8 = .ok (.ireturn, 1) := by decide +kernel
theorem dX10_drop_9 : decode cX10_drop 9 = .ok (.aload_n 0, 1) := by decide +kernel
theorem dX10_drop_10 : decode cX10_drop 10 = .ok (.getfield 28, 3) := by decide +kernel
theorem dX10_drop_13 : decode cX10_drop 13 = .ok (.iload_n 1, 1) := by decide +kernel
theorem dX10_drop_14 : decode cX10_drop 14 = .ok (.aaload, 1) := by decide +kernel
theorem dX10_drop_15 : decode cX10_drop 15 = .ok (.getfield 301, 3) := by decide +kernel
theorem dX10_drop_18 : decode cX10_drop 18 = .ok (.ifCond .ne 6, 3) := by decide +kernel
theorem dX10_drop_21 : decode cX10_drop 21 = .ok (.bipush (-11), 2) := by decide +kernel
theorem dX10_drop_23 : decode cX10_drop 23 = .ok (.ireturn, 1) := by decide +kernel
theorem dX10_drop_24 : decode cX10_drop 24 = .ok (.aload_n 0, 1) := by decide +kernel
theorem dX10_drop_25 : decode cX10_drop 25 = .ok (.getfield 28, 3) := by decide +kernel
theorem dX10_drop_28 : decode cX10_drop 28 = .ok (.iload_n 1, 1) := by decide +kernel
theorem dX10_drop_29 : decode cX10_drop 29 = .ok (.aaload, 1) := by decide +kernel
theorem dX10_drop_30 : decode cX10_drop 30 = .ok (.iconst 0, 1) := by decide +kernel
theorem dX10_drop_31 : decode cX10_drop 31 = .ok (.putfield 301, 3) := by decide +kernel
theorem dX10_drop_34 : decode cX10_drop 34 = .ok (.aload_n 0, 1) := by decide +kernel
theorem dX10_drop_35 : decode cX10_drop 35 = .ok (.getfield 28, 3) := by decide +kernel
theorem dX10_drop_38 : decode cX10_drop 38 = .ok (.iload_n 1, 1) := by decide +kernel
theorem dX10_drop_39 : decode cX10_drop 39 = .ok (.aaload, 1) := by decide +kernel
theorem dX10_drop_40 : decode cX10_drop 40 = .ok (.getfield 304, 3) := by decide +kernel
theorem dX10_drop_43 : decode cX10_drop 43 = .ok (.ireturn, 1) := by decide +kernel
theorem dX10_item_0 : decode cX10_item 0 = .ok (.iload_n 1, 1) := by decide +kernel
theorem dX10_item_1 : decode cX10_item 1 = .ok (.invokestatic 235, 3) := by decide +kernel
theorem dX10_item_4 : decode cX10_item 4 = .ok (.ifCond .eq 10, 3) := by decide +kernel
theorem dX10_item_7 : decode cX10_item 7 = .ok (.iload_n 2, 1) := by decide +kernel
theorem dX10_item_8 : decode cX10_item 8 = .ok (.invokestatic 238, 3) := by decide +kernel
theorem dX10_item_11 : decode cX10_item 11 = .ok (.ifCond .ne 5, 3) := by decide +kernel
theorem dX10_item_14 : decode cX10_item 14 = .ok (.iconst (-1), 1) := by decide +kernel
theorem dX10_item_15 : decode cX10_item 15 = .ok (.ireturn, 1) := by decide +kernel
theorem dX10_item_16 : decode cX10_item 16 = .ok (.aload_n 0, 1) := by decide +kernel
theorem dX10_item_17 : decode cX10_item 17 = .ok (.iload_n 1, 1) := by decide +kernel
theorem dX10_item_18 : decode cX10_item 18 = .ok (.iload_n 2, 1) := by decide +kernel
theorem dX10_item_19 : decode cX10_item 19 = .ok (.iload_n 3, 1) := by decide +kernel
theorem dX10_item_20 : decode cX10_item 20 = .ok (.iconst 1, 1) := by decide +kernel
theorem dX10_item_21 : decode cX10_item 21 = .ok (.invokevirtual 241, 3) := by decide +kernel
theorem dX10_item_24 : decode cX10_item 24 = .ok (.istore 6, 2) := by decide +kernel
theorem dX10_item_26 : decode cX10_item 26 = .ok (.iload 6, 2) := by decide +kernel
theorem dX10_item_28 : decode cX10_item 28 = .ok (.ifCond .eq 6, 3) := by decide +kernel
theorem dX10_item_31 : decode cX10_item 31 = .ok (.iload 6, 2) := by decide +kernel
theorem dX10_item_33 : decode cX10_item 33 = .ok (.ireturn, 1) := by decide +kernel
theorem dX10_item_34 : decode cX10_item 34 = .ok (.aload_n 0, 1) := by decide +kernel
theorem dX10_item_35 : decode cX10_item 35 = .ok (.getfield 28, 3) := by decide +kernel
theorem dX10_item_38 : decode cX10_item 38 = .ok (.iload_n 1, 1) := by decide +kernel
theorem dX10_item_39 : decode cX10_item 39 = .ok (.aaload, 1) := by decide +kernel
theorem dX10_item_40 : decode cX10_item 40 = .ok (.iload_n 3, 1) := by decide +kernel
theorem dX10_item_41 : decode cX10_item 41 = .ok (.lload 4, 2) := by decide +kernel
theorem dX10_item_43 : decode cX10_item 43 = .ok (.invokevirtual 294, 3) := by decide +kernel
theorem dX10_item_46 : decode cX10_item 46 = .ok (.iconst 1, 1) := by decide +kernel
theorem dX10_item_47 : decode cX10_item 47 = .ok (.ireturn, 1) := by decide +kernel
theorem dX10_copy_0 : decode cX10_copy 0 = .ok (.iload_n 1, 1) := by decide +kernel
theorem dX10_copy_1 : decode cX10_copy 1 = .ok (.invokestatic 235, 3) := by decide +kernel
theorem dX10_copy_4 : decode cX10_copy 4 = .ok (.ifCond .eq 10, 3) := by decide +kernel
theorem dX10_copy_7 : decode cX10_copy 7 = .ok (.iload_n 3, 1) := by decide +kernel
theorem dX10_copy_8 : decode cX10_copy 8 = .ok (.invokestatic 235, 3) := by decide +kernel
theorem dX10_copy_11 : decode cX10_copy 11 = .ok (.ifCond .ne 5, 3) := by decide +kernel
theorem dX10_copy_14 : decode cX10_copy 14 = .ok (.iconst (-1), 1) := by decide +kernel
theorem dX10_copy_15 : decode cX10_copy 15 = .ok (.ireturn, 1) := by decide +kernel
theorem dX10_copy_16 : decode cX10_copy 16 = .ok (.aload_n 0, 1) := by decide +kernel
theorem dX10_copy_17 : decode cX10_copy 17 = .ok (.getfield 28, 3) := by decide +kernel
theorem dX10_copy_20 : decode cX10_copy 20 = .ok (.iload_n 1, 1) := by decide +kernel
theorem dX10_copy_21 : decode cX10_copy 21 = .ok (.aaload, 1) := by decide +kernel
theorem dX10_copy_22 : decode cX10_copy 22 = .ok (.astore 6, 2) := by decide +kernel
theorem dX10_copy_24 : decode cX10_copy 24 = .ok (.aload_n 0, 1) := by decide +kernel
theorem dX10_copy_25 : decode cX10_copy 25 = .ok (.getfield 28, 3) := by decide +kernel
theorem dX10_copy_28 : decode cX10_copy 28 = .ok (.iload_n 3, 1) := by decide +kernel
theorem dX10_copy_29 : decode cX10_copy 29 = .ok (.aaload, 1) := by decide +kernel
theorem dX10_copy_30 : decode cX10_copy 30 = .ok (.astore 7, 2) := by decide +kernel
theorem dX10_copy_32 : decode cX10_copy 32 = .ok (.aload 6, 2) := by decide +kernel
theorem dX10_copy_34 : decode cX10_copy 34 = .ok (.getfield 301, 3) := by decide +kernel
theorem dX10_copy_37 : decode cX10_copy 37 = .ok (.ifCond .eq 11, 3) := by decide +kernel
theorem dX10_copy_40 : decode cX10_copy 40 = .ok (.aload 7, 2) := by decide +kernel
theorem dX10_copy_42 : decode cX10_copy 42 = .ok (.getfield 301, 3) := by decide +kernel
theorem dX10_copy_45 : decode cX10_copy 45 = .ok (.ifCond .ne 6, 3) := by decide +kernel
theorem dX10_copy_48 : decode cX10_copy 48 = .ok (.bipush (-11), 2) := by decide +kernel
theorem dX10_copy_50 : decode cX10_copy 50 = .ok (.ireturn, 1) := by decide +kernel
theorem dX10_copy_51 : decode cX10_copy 51 = .ok (.aload 6, 2) := by decide +kernel
theorem dX10_copy_53 : decode cX10_copy 53 = .ok (.getfield 305, 3) := by decide +kernel
theorem dX10_copy_56 : decode cX10_copy 56 = .ok (.aload 7, 2) := by decide +kernel
theorem dX10_copy_58 : decode cX10_copy 58 = .ok (.getfield 305, 3) := by decide +kernel
theorem dX10_copy_61 : decode cX10_copy 61 = .ok (.if_icmp .eq 6, 3) := by decide +kernel
theorem dX10_copy_64 : decode cX10_copy 64 = .ok (.bipush (-12), 2) := by decide +kernel
theorem dX10_copy_66 : decode cX10_copy 66 = .ok (.ireturn, 1) := by decide +kernel
theorem dX10_copy_67 : decode cX10_copy 67 = .ok (.aload 6, 2) := by decide +kernel
theorem dX10_copy_69 : decode cX10_copy 69 = .ok (.iload_n 2, 1) := by decide +kernel
theorem dX10_copy_70 : decode cX10_copy 70 = .ok (.iload 5, 2) := by decide +kernel
theorem dX10_copy_72 : decode cX10_copy 72 = .ok (.invokevirtual 308, 3) := by decide +kernel
theorem dX10_copy_75 : decode cX10_copy 75 = .ok (.ifCond .eq 15, 3) := by decide +kernel
theorem dX10_copy_78 : decode cX10_copy 78 = .ok (.aload 7, 2) := by decide +kernel
theorem dX10_copy_80 : decode cX10_copy 80 = .ok (.iload 4, 2) := by decide +kernel
theorem dX10_copy_82 : decode cX10_copy 82 = .ok (.iload 5, 2) := by decide +kernel
theorem dX10_copy_84 : decode cX10_copy 84 = .ok (.invokevirtual 308, 3) := by decide +kernel
theorem dX10_copy_87 : decode cX10_copy 87 = .ok (.ifCond .ne 6, 3) := by decide +kernel
theorem dX10_copy_90 : decode cX10_copy 90 = .ok (.bipush (-13), 2) := by decide +kernel
theorem dX10_copy_92 : decode cX10_copy 92 = .ok (.ireturn, 1) := by decide +kernel
theorem dX10_copy_93 : decode cX10_copy 93 = .ok (.aload 6, 2) := by decide +kernel
theorem dX10_copy_95 : decode cX10_copy 95 = .ok (.getfield 311, 3) := by decide +kernel
theorem dX10_copy_98 : decode cX10_copy 98 = .ok (.iload_n 2, 1) := by decide +kernel
theorem dX10_copy_99 : decode cX10_copy 99 = .ok (.aload 7, 2) := by decide +kernel
theorem dX10_copy_101 : decode cX10_copy 101 = .ok (.getfield 311, 3) := by decide +kernel
theorem dX10_copy_104 : decode cX10_copy 104 = .ok (.iload 4, 2) := by decide +kernel
theorem dX10_copy_106 : decode cX10_copy 106 = .ok (.iload 5, 2) := by decide +kernel
theorem dX10_copy_108 : decode cX10_copy 108 = .ok (.invokestatic 315, 3) := by decide +kernel
theorem dX10_copy_111 : decode cX10_copy 111 = .ok (.iload 5, 2) := by decide +kernel
theorem dX10_copy_113 : decode cX10_copy 113 = .ok (.ireturn, 1) := by decide +kernel
theorem dX10_isWithin_0 : decode cX10_isWithin 0 = .ok (.iload_n 0, 1) := by decide +kernel
theorem dX10_isWithin_1 : decode cX10_isWithin 1 = .ok (.iload_n 1, 1) := by decide +kernel
theorem dX10_isWithin_2 : decode cX10_isWithin 2 = .ok (.if_icmp .lt 12, 3) := by decide +kernel
theorem dX10_isWithin_5 : decode cX10_isWithin 5 = .ok (.iload_n 0, 1) := by decide +kernel
theorem dX10_isWithin_6 : decode cX10_isWithin 6 = .ok (.iload_n 2, 1) := by decide +kernel
theorem dX10_isWithin_7 : decode cX10_isWithin 7 = .ok (.if_icmp .gt 7, 3) := by decide +kernel
theorem dX10_isWithin_10 : decode cX10_isWithin 10 = .ok (.iconst 1, 1) := by decide +kernel
theorem dX10_isWithin_11 : decode cX10_isWithin 11 = .ok (.goto 4, 3) := by decide +kernel
theorem dX10_isWithin_14 : decode cX10_isWithin 14 = .ok (.iconst 0, 1) := by decide +kernel
theorem dX10_isWithin_15 : decode cX10_isWithin 15 = .ok (.ireturn, 1) := by decide +kernel
theorem dX10_isFruit_0 : decode cX10_isFruit 0 = .ok (.iload_n 0, 1) := by decide +kernel
theorem dX10_isFruit_1 : decode cX10_isFruit 1 = .ok (.iconst 0, 1) := by decide +kernel
theorem dX10_isFruit_2 : decode cX10_isFruit 2 = .ok (.bipush 9, 2) := by decide +kernel
theorem dX10_isFruit_4 : decode cX10_isFruit 4 = .ok (.invokestatic 76, 3) := by decide +kernel
theorem dX10_isFruit_7 : decode cX10_isFruit 7 = .ok (.ireturn, 1) := by decide +kernel
theorem dX10_isSheet_0 : decode cX10_isSheet 0 = .ok (.iload_n 0, 1) := by decide +kernel
theorem dX10_isSheet_1 : decode cX10_isSheet 1 = .ok (.iconst 0, 1) := by decide +kernel
theorem dX10_isSheet_2 : decode cX10_isSheet 2 = .ok (.iconst 3, 1) := by decide +kernel
theorem dX10_isSheet_3 : decode cX10_isSheet 3 = .ok (.invokestatic 76, 3) := by decide +kernel
theorem dX10_isSheet_6 : decode cX10_isSheet 6 = .ok (.ireturn, 1) := by decide +kernel
theorem dX10_isLane_0 : decode cX10_isLane 0 = .ok (.iload_n 0, 1) := by decide +kernel
theorem dX10_isLane_1 : decode cX10_isLane 1 = .ok (.iconst 0, 1) := by decide +kernel
theorem dX10_isLane_2 : decode cX10_isLane 2 = .ok (.iconst 3, 1) := by decide +kernel
theorem dX10_isLane_3 : decode cX10_isLane 3 = .ok (.invokestatic 76, 3) := by decide +kernel
theorem dX10_isLane_6 : decode cX10_isLane 6 = .ok (.ireturn, 1) := by decide +kernel
theorem dX10_isTrait_0 : decode cX10_isTrait 0 = .ok (.iload_n 0, 1) := by decide +kernel
theorem dX10_isTrait_1 : decode cX10_isTrait 1 = .ok (.tableswitch 51 1 3 #[27, 35, 43], 27) := by decide +kernel
theorem dX10_isTrait_28 : decode cX10_isTrait 28 = .ok (.iload_n 1, 1) := by decide +kernel
theorem dX10_isTrait_29 : decode cX10_isTrait 29 = .ok (.iconst 1, 1) := by decide +kernel
theorem dX10_isTrait_30 : decode cX10_isTrait 30 = .ok (.bipush 9, 2) := by decide +kernel
theorem dX10_isTrait_32 : decode cX10_isTrait 32 = .ok (.invokestatic 76, 3) := by decide +kernel
theorem dX10_isTrait_35 : decode cX10_isTrait 35 = .ok (.ireturn, 1) := by decide +kernel
theorem dX10_isTrait_36 : decode cX10_isTrait 36 = .ok (.iload_n 1, 1) := by decide +kernel
theorem dX10_isTrait_37 : decode cX10_isTrait 37 = .ok (.iconst 0, 1) := by decide +kernel
theorem dX10_isTrait_38 : decode cX10_isTrait 38 = .ok (.bipush 99, 2) := by decide +kernel
theorem dX10_isTrait_40 : decode cX10_isTrait 40 = .ok (.invokestatic 76, 3) := by decide +kernel
theorem dX10_isTrait_43 : decode cX10_isTrait 43 = .ok (.ireturn, 1) := by decide +kernel
theorem dX10_isTrait_44 : decode cX10_isTrait 44 = .ok (.iload_n 1, 1) := by decide +kernel
theorem dX10_isTrait_45 : decode cX10_isTrait 45 = .ok (.iconst 0, 1) := by decide +kernel
theorem dX10_isTrait_46 : decode cX10_isTrait 46 = .ok (.bipush 10, 2) := by decide +kernel
theorem dX10_isTrait_48 : decode cX10_isTrait 48 = .ok (.invokestatic 76, 3) := by decide +kernel
theorem dX10_isTrait_51 : decode cX10_isTrait 51 = .ok (.ireturn, 1) := by decide +kernel
theorem dX10_isTrait_52 : decode cX10_isTrait 52 = .ok (.iconst 0, 1) := by decide +kernel
theorem dX10_isTrait_53 : decode cX10_isTrait 53 = .ok (.ireturn, 1) := by decide +kernel
theorem dX10_isIn_0 : decode cX10_isIn 0 = .ok (.iload_n 0, 1) := by decide +kernel
theorem dX10_isIn_1 : decode cX10_isIn 1 = .ok (.iload_n 1, 1) := by decide +kernel
theorem dX10_isIn_2 : decode cX10_isIn 2 = .ok (.ishr, 1) := by decide +kernel
theorem dX10_isIn_3 : decode cX10_isIn 3 = .ok (.iconst 1, 1) := by decide +kernel
theorem dX10_isIn_4 : decode cX10_isIn 4 = .ok (.iand, 1) := by decide +kernel
theorem dX10_isIn_5 : decode cX10_isIn 5 = .ok (.iconst 1, 1) := by decide +kernel
theorem dX10_isIn_6 : decode cX10_isIn 6 = .ok (.if_icmp .ne 7, 3) := by decide +kernel
theorem dX10_isIn_9 : decode cX10_isIn 9 = .ok (.iconst 1, 1) := by decide +kernel
theorem dX10_isIn_10 : decode cX10_isIn 10 = .ok (.goto 4, 3) := by decide +kernel
theorem dX10_isIn_13 : decode cX10_isIn 13 = .ok (.iconst 0, 1) := by decide +kernel
theorem dX10_isIn_14 : decode cX10_isIn 14 = .ok (.ireturn, 1) := by decide +kernel
theorem dX10_sharedWithTen_0 : decode cX10_sharedWithTen 0 = .ok (.iload_n 0, 1) := by decide +kernel
theorem dX10_sharedWithTen_1 : decode cX10_sharedWithTen 1 = .ok (.iconst 2, 1) := by decide +kernel
theorem dX10_sharedWithTen_2 : decode cX10_sharedWithTen 2 = .ok (.irem, 1) := by decide +kernel
theorem dX10_sharedWithTen_3 : decode cX10_sharedWithTen 3 = .ok (.ifCond .ne 7, 3) := by decide +kernel
theorem dX10_sharedWithTen_6 : decode cX10_sharedWithTen 6 = .ok (.iconst 2, 1) := by decide +kernel
theorem dX10_sharedWithTen_7 : decode cX10_sharedWithTen 7 = .ok (.goto 4, 3) := by decide +kernel
theorem dX10_sharedWithTen_10 : decode cX10_sharedWithTen 10 = .ok (.iconst 1, 1) := by decide +kernel
theorem dX10_sharedWithTen_11 : decode cX10_sharedWithTen 11 = .ok (.iload_n 0, 1) := by decide +kernel
theorem dX10_sharedWithTen_12 : decode cX10_sharedWithTen 12 = .ok (.iconst 5, 1) := by decide +kernel
theorem dX10_sharedWithTen_13 : decode cX10_sharedWithTen 13 = .ok (.irem, 1) := by decide +kernel
theorem dX10_sharedWithTen_14 : decode cX10_sharedWithTen 14 = .ok (.ifCond .ne 7, 3) := by decide +kernel
theorem dX10_sharedWithTen_17 : decode cX10_sharedWithTen 17 = .ok (.iconst 5, 1) := by decide +kernel
theorem dX10_sharedWithTen_18 : decode cX10_sharedWithTen 18 = .ok (.goto 4, 3) := by decide +kernel
theorem dX10_sharedWithTen_21 : decode cX10_sharedWithTen 21 = .ok (.iconst 1, 1) := by decide +kernel
theorem dX10_sharedWithTen_22 : decode cX10_sharedWithTen 22 = .ok (.imul, 1) := by decide +kernel
theorem dX10_sharedWithTen_23 : decode cX10_sharedWithTen 23 = .ok (.ireturn, 1) := by decide +kernel
theorem dX10_faultOf_0 : decode cX10_faultOf 0 = .ok (.aload_n 0, 1) := by decide +kernel
theorem dX10_faultOf_1 : decode cX10_faultOf 1 = .ok (.getfield 28, 3) := by decide +kernel
theorem dX10_faultOf_4 : decode cX10_faultOf 4 = .ok (.iload_n 1, 1) := by decide +kernel
theorem dX10_faultOf_5 : decode cX10_faultOf 5 = .ok (.aaload, 1) := by decide +kernel
theorem dX10_faultOf_6 : decode cX10_faultOf 6 = .ok (.astore 5, 2) := by decide +kernel
theorem dX10_faultOf_8 : decode cX10_faultOf 8 = .ok (.aload 5, 2) := by decide +kernel
theorem dX10_faultOf_10 : decode cX10_faultOf 10 = .ok (.getfield 301, 3) := by decide +kernel
theorem dX10_faultOf_13 : decode cX10_faultOf 13 = .ok (.ifCond .ne 6, 3) := by decide +kernel
theorem dX10_faultOf_16 : decode cX10_faultOf 16 = .ok (.bipush (-11), 2) := by decide +kernel
theorem dX10_faultOf_18 : decode cX10_faultOf 18 = .ok (.ireturn, 1) := by decide +kernel
theorem dX10_faultOf_19 : decode cX10_faultOf 19 = .ok (.aload 5, 2) := by decide +kernel
theorem dX10_faultOf_21 : decode cX10_faultOf 21 = .ok (.getfield 305, 3) := by decide +kernel
theorem dX10_faultOf_24 : decode cX10_faultOf 24 = .ok (.iload_n 2, 1) := by decide +kernel
theorem dX10_faultOf_25 : decode cX10_faultOf 25 = .ok (.if_icmp .eq 6, 3) := by decide +kernel
theorem dX10_faultOf_28 : decode cX10_faultOf 28 = .ok (.bipush (-12), 2) := by decide +kernel
theorem dX10_faultOf_30 : decode cX10_faultOf 30 = .ok (.ireturn, 1) := by decide +kernel
theorem dX10_faultOf_31 : decode cX10_faultOf 31 = .ok (.aload 5, 2) := by decide +kernel
theorem dX10_faultOf_33 : decode cX10_faultOf 33 = .ok (.iload_n 3, 1) := by decide +kernel
theorem dX10_faultOf_34 : decode cX10_faultOf 34 = .ok (.iload 4, 2) := by decide +kernel
theorem dX10_faultOf_36 : decode cX10_faultOf 36 = .ok (.invokevirtual 308, 3) := by decide +kernel
theorem dX10_faultOf_39 : decode cX10_faultOf 39 = .ok (.ifCond .eq 7, 3) := by decide +kernel
theorem dX10_faultOf_42 : decode cX10_faultOf 42 = .ok (.iconst 0, 1) := by decide +kernel
theorem dX10_faultOf_43 : decode cX10_faultOf 43 = .ok (.goto 5, 3) := by decide +kernel
theorem dX10_faultOf_46 : decode cX10_faultOf 46 = .ok (.bipush (-13), 2) := by decide +kernel
theorem dX10_faultOf_48 : decode cX10_faultOf 48 = .ok (.ireturn, 1) := by decide +kernel
theorem dX10_layRota_0 : decode cX10_layRota 0 = .ok (.iload_n 1, 1) := by decide +kernel
theorem dX10_layRota_1 : decode cX10_layRota 1 = .ok (.invokestatic 235, 3) := by decide +kernel
theorem dX10_layRota_4 : decode cX10_layRota 4 = .ok (.ifCond .eq 21, 3) := by decide +kernel
theorem dX10_layRota_7 : decode cX10_layRota 7 = .ok (.iload_n 2, 1) := by decide +kernel
theorem dX10_layRota_8 : decode cX10_layRota 8 = .ok (.invokestatic 238, 3) := by decide +kernel
theorem dX10_layRota_11 : decode cX10_layRota 11 = .ok (.ifCond .eq 14, 3) := by decide +kernel
theorem dX10_layRota_14 : decode cX10_layRota 14 = .ok (.iload 4, 2) := by decide +kernel
theorem dX10_layRota_16 : decode cX10_layRota 16 = .ok (.iconst 1, 1) := by decide +kernel
theorem dX10_layRota_17 : decode cX10_layRota 17 = .ok (.bipush 8, 2) := by decide +kernel
theorem dX10_layRota_19 : decode cX10_layRota 19 = .ok (.invokestatic 76, 3) := by decide +kernel
theorem dX10_layRota_22 : decode cX10_layRota 22 = .ok (.ifCond .ne 5, 3) := by decide +kernel
theorem dX10_layRota_25 : decode cX10_layRota 25 = .ok (.iconst (-1), 1) := by decide +kernel
theorem dX10_layRota_26 : decode cX10_layRota 26 = .ok (.ireturn, 1) := by decide +kernel
theorem dX10_layRota_27 : decode cX10_layRota 27 = .ok (.aload_n 0, 1) := by decide +kernel
theorem dX10_layRota_28 : decode cX10_layRota 28 = .ok (.iload_n 1, 1) := by decide +kernel
theorem dX10_layRota_29 : decode cX10_layRota 29 = .ok (.iload_n 2, 1) := by decide +kernel
theorem dX10_layRota_30 : decode cX10_layRota 30 = .ok (.iload_n 3, 1) := by decide +kernel
theorem dX10_layRota_31 : decode cX10_layRota 31 = .ok (.iload 4, 2) := by decide +kernel
theorem dX10_layRota_33 : decode cX10_layRota 33 = .ok (.invokevirtual 241, 3) := by decide +kernel
theorem dX10_layRota_36 : decode cX10_layRota 36 = .ok (.istore 5, 2) := by decide +kernel
theorem dX10_layRota_38 : decode cX10_layRota 38 = .ok (.iload 5, 2) := by decide +kernel
theorem dX10_layRota_40 : decode cX10_layRota 40 = .ok (.ifCond .eq 6, 3) := by decide +kernel
theorem dX10_layRota_43 : decode cX10_layRota 43 = .ok (.iload 5, 2) := by decide +kernel
theorem dX10_layRota_45 : decode cX10_layRota 45 = .ok (.ireturn, 1) := by decide +kernel
theorem dX10_layRota_46 : decode cX10_layRota 46 = .ok (.aload_n 0, 1) := by decide +kernel
theorem dX10_layRota_47 : decode cX10_layRota 47 = .ok (.getfield 67, 3) := by decide +kernel
theorem dX10_layRota_50 : decode cX10_layRota 50 = .ok (.aload_n 0, 1) := by decide +kernel
theorem dX10_layRota_51 : decode cX10_layRota 51 = .ok (.getfield 28, 3) := by decide +kernel
theorem dX10_layRota_54 : decode cX10_layRota 54 = .ok (.iload_n 1, 1) := by decide +kernel
theorem dX10_layRota_55 : decode cX10_layRota 55 = .ok (.aaload, 1) := by decide +kernel
theorem dX10_layRota_56 : decode cX10_layRota 56 = .ok (.iload_n 3, 1) := by decide +kernel
theorem dX10_layRota_57 : decode cX10_layRota 57 = .ok (.iload 4, 2) := by decide +kernel
theorem dX10_layRota_59 : decode cX10_layRota 59 = .ok (.invokevirtual 321, 3) := by decide +kernel
theorem dX10_layRota_62 : decode cX10_layRota 62 = .ok (.ifCond .eq 7, 3) := by decide +kernel
theorem dX10_layRota_65 : decode cX10_layRota 65 = .ok (.iconst 0, 1) := by decide +kernel
theorem dX10_layRota_66 : decode cX10_layRota 66 = .ok (.goto 5, 3) := by decide +kernel
theorem dX10_layRota_69 : decode cX10_layRota 69 = .ok (.bipush (-2), 2) := by decide +kernel
theorem dX10_layRota_71 : decode cX10_layRota 71 = .ok (.ireturn, 1) := by decide +kernel
theorem dX11_init_0 : decode cX11_init 0 = .ok (.aload_n 0, 1) := by decide +kernel
theorem dX11_init_1 : decode cX11_init 1 = .ok (.invokespecial 1, 3) := by decide +kernel
theorem dX11_init_4 : decode cX11_init 4 = .ok (.aload_n 0, 1) := by decide +kernel
theorem dX11_init_5 : decode cX11_init 5 = .ok (.sipush 154, 3) := by decide +kernel
theorem dX11_init_8 : decode cX11_init 8 = .ok (.newarray .int, 2) := by decide +kernel
theorem dX11_init_10 : decode cX11_init 10 = .ok (.putfield 7, 3) := by decide +kernel
theorem dX11_init_13 : decode cX11_init 13 = .ok (.aload_n 0, 1) := by decide +kernel
theorem dX11_init_14 : decode cX11_init 14 = .ok (.bipush 60, 2) := by decide +kernel
theorem dX11_init_16 : decode cX11_init 16 = .ok (.newarray .int, 2) := by decide +kernel
theorem dX11_init_18 : decode cX11_init 18 = .ok (.putfield 13, 3) := by decide +kernel
theorem dX11_init_21 : decode cX11_init 21 = .ok (.aload_n 0, 1) := by decide +kernel
theorem dX11_init_22 : decode cX11_init 22 = .ok (.bipush 18, 2) := by decide +kernel
theorem dX11_init_24 : decode cX11_init 24 = .ok (.newarray .int, 2) := by decide +kernel
theorem dX11_init_26 : decode cX11_init 26 = .ok (.putfield 16, 3) := by decide +kernel
theorem dX11_init_29 : decode cX11_init 29 = .ok (.aload_n 0, 1) := by decide +kernel
theorem dX11_init_30 : decode cX11_init 30 = .ok (.bipush 6, 2) := by decide +kernel
theorem dX11_init_32 : decode cX11_init 32 = .ok (.newarray .int, 2) := by decide +kernel
theorem dX11_init_34 : decode cX11_init 34 = .ok (.putfield 19, 3) := by decide +kernel
theorem dX11_init_37 : decode cX11_init 37 = .ok (.aload_n 0, 1) := by decide +kernel
theorem dX11_init_38 : decode cX11_init 38 = .ok (.bipush 36, 2) := by decide +kernel
theorem dX11_init_40 : decode cX11_init 40 = .ok (.newarray .int, 2) := by decide +kernel
theorem dX11_init_42 : decode cX11_init 42 = .ok (.putfield 22, 3) := by decide +kernel
theorem dX11_init_45 : decode cX11_init 45 = .ok (.aload_n 0, 1) := by decide +kernel
theorem dX11_init_46 : decode cX11_init 46 = .ok (.sipush 4096, 3) := by decide +kernel
theorem dX11_init_49 : decode cX11_init 49 = .ok (.newarray .int, 2) := by decide +kernel
theorem dX11_init_51 : decode cX11_init 51 = .ok (.putfield 25, 3) := by decide +kernel
theorem dX11_init_54 : decode cX11_init 54 = .ok (.aload_n 0, 1) := by decide +kernel
theorem dX11_init_55 : decode cX11_init 55 = .ok (.sipush 4096, 3) := by decide +kernel
theorem dX11_init_58 : decode cX11_init 58 = .ok (.newarray .boolean, 2) := by decide +kernel
theorem dX11_init_60 : decode cX11_init 60 = .ok (.putfield 28, 3) := by decide +kernel
theorem dX11_init_63 : decode cX11_init 63 = .ok (.aload_n 0, 1) := by decide +kernel
theorem dX11_init_64 : decode cX11_init 64 = .ok (.bipush 16, 2) := by decide +kernel
theorem dX11_init_66 : decode cX11_init 66 = .ok (.newarray .int, 2) := by decide +kernel
theorem dX11_init_68 : decode cX11_init 68 = .ok (.putfield 32, 3) := by decide +kernel
theorem dX11_init_71 : decode cX11_init 71 = .ok (.aload_n 0, 1) := by decide +kernel
theorem dX11_init_72 : decode cX11_init 72 = .ok (.iconst 4, 1) := by decide +kernel
theorem dX11_init_73 : decode cX11_init 73 = .ok (.newarray .int, 2) := by decide +kernel
theorem dX11_init_75 : decode cX11_init 75 = .ok (.putfield 35, 3) := by decide +kernel
theorem dX11_init_78 : decode cX11_init 78 = .ok (.aload_n 0, 1) := by decide +kernel
theorem dX11_init_79 : decode cX11_init 79 = .ok (.iconst 4, 1) := by decide +kernel
theorem dX11_init_80 : decode cX11_init 80 = .ok (.newarray .int, 2) := by decide +kernel
theorem dX11_init_82 : decode cX11_init 82 = .ok (.putfield 38, 3) := by decide +kernel
theorem dX11_init_85 : decode cX11_init 85 = .ok (.aload_n 0, 1) := by decide +kernel
theorem dX11_init_86 : decode cX11_init 86 = .ok (.bipush 64, 2) := by decide +kernel
theorem dX11_init_88 : decode cX11_init 88 = .ok (.newarray .long, 2) := by decide +kernel
theorem dX11_init_90 : decode cX11_init 90 = .ok (.putfield 41, 3) := by decide +kernel
theorem dX11_init_93 : decode cX11_init 93 = .ok (.aload_n 0, 1) := by decide +kernel
theorem dX11_init_94 : decode cX11_init 94 = .ok (.bipush 16, 2) := by decide +kernel
theorem dX11_init_96 : decode cX11_init 96 = .ok (.newarray .long, 2) := by decide +kernel
theorem dX11_init_98 : decode cX11_init 98 = .ok (.putfield 45, 3) := by decide +kernel
theorem dX11_init_101 : decode cX11_init 101 = .ok (.aload_n 0, 1) := by decide +kernel
theorem dX11_init_102 : decode cX11_init 102 = .ok (.sipush 4824, 3) := by decide +kernel
theorem dX11_init_105 : decode cX11_init 105 = .ok (.newarray .int, 2) := by decide +kernel
theorem dX11_init_107 : decode cX11_init 107 = .ok (.putfield 48, 3) := by decide +kernel
theorem dX11_init_110 : decode cX11_init 110 = .ok (.aload_n 0, 1) := by decide +kernel
theorem dX11_init_111 : decode cX11_init 111 = .ok (.getfield 7, 3) := by decide +kernel
theorem dX11_init_114 : decode cX11_init 114 = .ok (.bipush 74, 2) := by decide +kernel
theorem dX11_init_116 : decode cX11_init 116 = .ok (.iconst 1, 1) := by decide +kernel
theorem dX11_init_117 : decode cX11_init 117 = .ok (.iastore, 1) := by decide +kernel
theorem dX11_init_118 : decode cX11_init 118 = .ok (.iconst 0, 1) := by decide +kernel
theorem dX11_init_119 : decode cX11_init 119 = .ok (.istore_n 1, 1) := by decide +kernel
theorem dX11_init_120 : decode cX11_init 120 = .ok (.iload_n 1, 1) := by decide +kernel
theorem dX11_init_121 : decode cX11_init 121 = .ok (.bipush 10, 2) := by decide +kernel
theorem dX11_init_123 : decode cX11_init 123 = .ok (.if_icmp .ge 19, 3) := by decide +kernel
theorem dX11_init_126 : decode cX11_init 126 = .ok (.aload_n 0, 1) := by decide +kernel
theorem dX11_init_127 : decode cX11_init 127 = .ok (.getfield 7, 3) := by decide +kernel
theorem dX11_init_130 : decode cX11_init 130 = .ok (.bipush 64, 2) := by decide +kernel
theorem dX11_init_132 : decode cX11_init 132 = .ok (.iload_n 1, 1) := by decide +kernel
theorem dX11_init_133 : decode cX11_init 133 = .ok (.iadd, 1) := by decide +kernel
theorem dX11_init_134 : decode cX11_init 134 = .ok (.iload_n 1, 1) := by decide +kernel
theorem dX11_init_135 : decode cX11_init 135 = .ok (.iastore, 1) := by decide +kernel
theorem dX11_init_136 : decode cX11_init 136 = .ok (.iinc 1 1, 3) := by decide +kernel
theorem dX11_init_139 : decode cX11_init 139 = .ok (.goto (-19), 3) := by decide +kernel
theorem dX11_init_142 : decode cX11_init 142 = .ok (.iconst 0, 1) := by decide +kernel
theorem dX11_init_143 : decode cX11_init 143 = .ok (.istore_n 1, 1) := by decide +kernel
theorem dX11_init_144 : decode cX11_init 144 = .ok (.iload_n 1, 1) := by decide +kernel
theorem dX11_init_145 : decode cX11_init 145 = .ok (.iconst 4, 1) := by decide +kernel
theorem dX11_init_146 : decode cX11_init 146 = .ok (.if_icmp .ge 16, 3) := by decide +kernel
theorem dX11_init_149 : decode cX11_init 149 = .ok (.aload_n 0, 1) := by decide +kernel
theorem dX11_init_150 : decode cX11_init 150 = .ok (.getfield 35, 3) := by decide +kernel
theorem dX11_init_153 : decode cX11_init 153 = .ok (.iload_n 1, 1) := by decide +kernel
theorem dX11_init_154 : decode cX11_init 154 = .ok (.iconst (-1), 1) := by decide +kernel
theorem dX11_init_155 : decode cX11_init 155 = .ok (.iastore, 1) := by decide +kernel
theorem dX11_init_156 : decode cX11_init 156 = .ok (.iinc 1 1, 3) := by decide +kernel
theorem dX11_init_159 : decode cX11_init 159 = .ok (.goto (-15), 3) := by decide +kernel
theorem dX11_init_162 : decode cX11_init 162 = .ok (.return_, 1) := by decide +kernel
theorem dX11_in_0 : decode cX11_in 0 = .ok (.lload_n 0, 1) := by decide +kernel
theorem dX11_in_1 : decode cX11_in 1 = .ok (.lload_n 2, 1) := by decide +kernel
theorem dX11_in_2 : decode cX11_in 2 = .ok (.lcmp, 1) := by decide +kernel
theorem dX11_in_3 : decode cX11_in 3 = .ok (.ifCond .lt 14, 3) := by decide +kernel
theorem dX11_in_6 : decode cX11_in 6 = .ok (.lload_n 0, 1) := by decide +kernel
theorem dX11_in_7 : decode cX11_in 7 = .ok (.lload 4, 2) := by decide +kernel
theorem dX11_in_9 : decode cX11_in 9 = .ok (.lcmp, 1) := by decide +kernel
theorem dX11_in_10 : decode cX11_in 10 = .ok (.ifCond .gt 7, 3) := by decide +kernel
theorem dX11_in_13 : decode cX11_in 13 = .ok (.iconst 1, 1) := by decide +kernel
theorem dX11_in_14 : decode cX11_in 14 = .ok (.goto 4, 3) := by decide +kernel
theorem dX11_in_17 : decode cX11_in 17 = .ok (.iconst 0, 1) := by decide +kernel
theorem dX11_in_18 : decode cX11_in 18 = .ok (.ireturn, 1) := by decide +kernel
theorem dX11_has_0 : decode cX11_has 0 = .ok (.iload_n 0, 1) := by decide +kernel
theorem dX11_has_1 : decode cX11_has 1 = .ok (.iload_n 1, 1) := by decide +kernel
theorem dX11_has_2 : decode cX11_has 2 = .ok (.ishr, 1) := by decide +kernel
theorem dX11_has_3 : decode cX11_has 3 = .ok (.iconst 1, 1) := by decide +kernel
theorem dX11_has_4 : decode cX11_has 4 = .ok (.iand, 1) := by decide +kernel
theorem dX11_has_5 : decode cX11_has 5 = .ok (.iconst 1, 1) := by decide +kernel
theorem dX11_has_6 : decode cX11_has 6 = .ok (.if_icmp .ne 7, 3) := by decide +kernel
theorem dX11_has_9 : decode cX11_has 9 = .ok (.iconst 1, 1) := by decide +kernel
theorem dX11_has_10 : decode cX11_has 10 = .ok (.goto 4, 3) := by decide +kernel
theorem dX11_has_13 : decode cX11_has 13 = .ok (.iconst 0, 1) := by decide +kernel
theorem dX11_has_14 : decode cX11_has 14 = .ok (.ireturn, 1) := by decide +kernel
theorem dX11_size_0 : decode cX11_size 0 = .ok (.iconst 0, 1) := by decide +kernel
theorem dX11_size_1 : decode cX11_size 1 = .ok (.istore_n 1, 1) := by decide +kernel
theorem dX11_size_2 : decode cX11_size 2 = .ok (.iconst 0, 1) := by decide +kernel
theorem dX11_size_3 : decode cX11_size 3 = .ok (.istore_n 2, 1) := by decide +kernel
theorem dX11_size_4 : decode cX11_size 4 = .ok (.iload_n 2, 1) := by decide +kernel
theorem dX11_size_5 : decode cX11_size 5 = .ok (.bipush 6, 2) := by decide +kernel
theorem dX11_size_7 : decode cX11_size 7 = .ok (.if_icmp .ge 17, 3) := by decide +kernel
theorem dX11_size_10 : decode cX11_size 10 = .ok (.iload_n 1, 1) := by decide +kernel
theorem dX11_size_11 : decode cX11_size 11 = .ok (.iload_n 0, 1) := by decide +kernel
theorem dX11_size_12 : decode cX11_size 12 = .ok (.iload_n 2, 1) := by decide +kernel
theorem dX11_size_13 : decode cX11_size 13 = .ok (.ishr, 1) := by decide +kernel
theorem dX11_size_14 : decode cX11_size 14 = .ok (.iconst 1, 1) := by decide +kernel
theorem dX11_size_15 : decode cX11_size 15 = .ok (.iand, 1) := by decide +kernel
theorem dX11_size_16 : decode cX11_size 16 = .ok (.iadd, 1) := by decide +kernel
theorem dX11_size_17 : decode cX11_size 17 = .ok (.istore_n 1, 1) := by decide +kernel
theorem dX11_size_18 : decode cX11_size 18 = .ok (.iinc 2 1, 3) := by decide +kernel
theorem dX11_size_21 : decode cX11_size 21 = .ok (.goto (-17), 3) := by decide +kernel
theorem dX11_size_24 : decode cX11_size 24 = .ok (.iload_n 1, 1) := by decide +kernel
theorem dX11_size_25 : decode cX11_size 25 = .ok (.ireturn, 1) := by decide +kernel
theorem dX11_isTree_0 : decode cX11_isTree 0 = .ok (.iload_n 1, 1) := by decide +kernel
theorem dX11_isTree_1 : decode cX11_isTree 1 = .ok (.i2l, 1) := by decide +kernel
theorem dX11_isTree_2 : decode cX11_isTree 2 = .ok (.lconst 0, 1) := by decide +kernel
theorem dX11_isTree_3 : decode cX11_isTree 3 = .ok (.aload_n 0, 1) := by decide +kernel
theorem dX11_isTree_4 : decode cX11_isTree 4 = .ok (.getfield 7, 3) := by decide +kernel
theorem dX11_isTree_7 : decode cX11_isTree 7 = .ok (.iconst 0, 1) := by decide +kernel
theorem dX11_isTree_8 : decode cX11_isTree 8 = .ok (.iaload, 1) := by decide +kernel
theorem dX11_isTree_9 : decode cX11_isTree 9 = .ok (.iconst 1, 1) := by decide +kernel
theorem dX11_isTree_10 : decode cX11_isTree 10 = .ok (.isub, 1) := by decide +kernel
theorem dX11_isTree_11 : decode cX11_isTree 11 = .ok (.i2l, 1) := by decide +kernel
theorem dX11_isTree_12 : decode cX11_isTree 12 = .ok (.invokestatic 51, 3) := by decide +kernel
theorem dX11_isTree_15 : decode cX11_isTree 15 = .ok (.ireturn, 1) := by decide +kernel
theorem dX11_isClimber_0 : decode cX11_isClimber 0 = .ok (.iload_n 1, 1) := by decide +kernel
theorem dX11_isClimber_1 : decode cX11_isClimber 1 = .ok (.i2l, 1) := by decide +kernel
theorem dX11_isClimber_2 : decode cX11_isClimber 2 = .ok (.lconst 0, 1) := by decide +kernel
theorem dX11_isClimber_3 : decode cX11_isClimber 3 = .ok (.aload_n 0, 1) := by decide +kernel
theorem dX11_isClimber_4 : decode cX11_isClimber 4 = .ok (.getfield 7, 3) := by decide +kernel
theorem dX11_isClimber_7 : decode cX11_isClimber 7 = .ok (.bipush 43, 2) := by decide +kernel
theorem dX11_isClimber_9 : decode cX11_isClimber 9 = .ok (.iaload, 1) := by decide +kernel
theorem dX11_isClimber_10 : decode cX11_isClimber 10 = .ok (.iconst 1, 1) := by decide +kernel
theorem dX11_isClimber_11 : decode cX11_isClimber 11 = .ok (.isub, 1) := by decide +kernel
theorem dX11_isClimber_12 : decode cX11_isClimber 12 = .ok (.i2l, 1) := by decide +kernel
theorem dX11_isClimber_13 : decode cX11_isClimber 13 = .ok (.invokestatic 51, 3) := by decide +kernel
theorem dX11_isClimber_16 : decode cX11_isClimber 16 = .ok (.ireturn, 1) := by decide +kernel
theorem dX11_add_0 : decode cX11_add 0 = .ok (.aload_n 0, 1) := by decide +kernel
theorem dX11_add_1 : decode cX11_add 1 = .ok (.getfield 7, 3) := by decide +kernel
theorem dX11_add_4 : decode cX11_add 4 = .ok (.iconst 0, 1) := by decide +kernel
theorem dX11_add_5 : decode cX11_add 5 = .ok (.iaload, 1) := by decide +kernel
theorem dX11_add_6 : decode cX11_add 6 = .ok (.istore 6, 2) := by decide +kernel
theorem dX11_add_8 : decode cX11_add 8 = .ok (.aload_n 0, 1) := by decide +kernel
theorem dX11_add_9 : decode cX11_add 9 = .ok (.getfield 7, 3) := by decide +kernel
theorem dX11_add_12 : decode cX11_add 12 = .ok (.iconst 1, 1) := by decide +kernel
theorem dX11_add_13 : decode cX11_add 13 = .ok (.iload 6, 2) := by decide +kernel
theorem dX11_add_15 : decode cX11_add 15 = .ok (.iadd, 1) := by decide +kernel
theorem dX11_add_16 : decode cX11_add 16 = .ok (.iload_n 1, 1) := by decide +kernel
theorem dX11_add_17 : decode cX11_add 17 = .ok (.iastore, 1) := by decide +kernel
theorem dX11_add_18 : decode cX11_add 18 = .ok (.aload_n 0, 1) := by decide +kernel
theorem dX11_add_19 : decode cX11_add 19 = .ok (.getfield 7, 3) := by decide +kernel
theorem dX11_add_22 : decode cX11_add 22 = .ok (.bipush 7, 2) := by decide +kernel
theorem dX11_add_24 : decode cX11_add 24 = .ok (.iload 6, 2) := by decide +kernel
theorem dX11_add_26 : decode cX11_add 26 = .ok (.iadd, 1) := by decide +kernel
theorem dX11_add_27 : decode cX11_add 27 = .ok (.iconst 5, 1) := by decide +kernel
theorem dX11_add_28 : decode cX11_add 28 = .ok (.iastore, 1) := by decide +kernel
theorem dX11_add_29 : decode cX11_add 29 = .ok (.aload_n 0, 1) := by decide +kernel
theorem dX11_add_30 : decode cX11_add 30 = .ok (.getfield 7, 3) := by decide +kernel
theorem dX11_add_33 : decode cX11_add 33 = .ok (.bipush 13, 2) := by decide +kernel
theorem dX11_add_35 : decode cX11_add 35 = .ok (.iload 6, 2) := by decide +kernel
theorem dX11_add_37 : decode cX11_add 37 = .ok (.iadd, 1) := by decide +kernel
theorem dX11_add_38 : decode cX11_add 38 = .ok (.iload_n 2, 1) := by decide +kernel
theorem dX11_add_39 : decode cX11_add 39 = .ok (.iastore, 1) := by decide +kernel
theorem dX11_add_40 : decode cX11_add 40 = .ok (.aload_n 0, 1) := by decide +kernel
theorem dX11_add_41 : decode cX11_add 41 = .ok (.getfield 7, 3) := by decide +kernel
theorem dX11_add_44 : decode cX11_add 44 = .ok (.bipush 19, 2) := by decide +kernel
theorem dX11_add_46 : decode cX11_add 46 = .ok (.iload 6, 2) := by decide +kernel
theorem dX11_add_48 : decode cX11_add 48 = .ok (.iadd, 1) := by decide +kernel
theorem dX11_add_49 : decode cX11_add 49 = .ok (.iload_n 3, 1) := by decide +kernel
theorem dX11_add_50 : decode cX11_add 50 = .ok (.iastore, 1) := by decide +kernel
theorem dX11_add_51 : decode cX11_add 51 = .ok (.aload_n 0, 1) := by decide +kernel
theorem dX11_add_52 : decode cX11_add 52 = .ok (.getfield 7, 3) := by decide +kernel
theorem dX11_add_55 : decode cX11_add 55 = .ok (.bipush 25, 2) := by decide +kernel
theorem dX11_add_57 : decode cX11_add 57 = .ok (.iload 6, 2) := by decide +kernel
theorem dX11_add_59 : decode cX11_add 59 = .ok (.iadd, 1) := by decide +kernel
theorem dX11_add_60 : decode cX11_add 60 = .ok (.iload 4, 2) := by decide +kernel
theorem dX11_add_62 : decode cX11_add 62 = .ok (.iastore, 1) := by decide +kernel
theorem dX11_add_63 : decode cX11_add 63 = .ok (.aload_n 0, 1) := by decide +kernel
theorem dX11_add_64 : decode cX11_add 64 = .ok (.getfield 7, 3) := by decide +kernel
theorem dX11_add_67 : decode cX11_add 67 = .ok (.bipush 31, 2) := by decide +kernel
theorem dX11_add_69 : decode cX11_add 69 = .ok (.iload 6, 2) := by decide +kernel
theorem dX11_add_71 : decode cX11_add 71 = .ok (.iadd, 1) := by decide +kernel
theorem dX11_add_72 : decode cX11_add 72 = .ok (.iload 5, 2) := by decide +kernel
theorem dX11_add_74 : decode cX11_add 74 = .ok (.iastore, 1) := by decide +kernel
theorem dX11_add_75 : decode cX11_add 75 = .ok (.aload_n 0, 1) := by decide +kernel
theorem dX11_add_76 : decode cX11_add 76 = .ok (.getfield 7, 3) := by decide +kernel
theorem dX11_add_79 : decode cX11_add 79 = .ok (.bipush 37, 2) := by decide +kernel
theorem dX11_add_81 : decode cX11_add 81 = .ok (.iload 6, 2) := by decide +kernel
theorem dX11_add_83 : decode cX11_add 83 = .ok (.iadd, 1) := by decide +kernel
theorem dX11_add_84 : decode cX11_add 84 = .ok (.iconst 0, 1) := by decide +kernel
theorem dX11_add_85 : decode cX11_add 85 = .ok (.iastore, 1) := by decide +kernel
theorem dX11_add_86 : decode cX11_add 86 = .ok (.aload_n 0, 1) := by decide +kernel
theorem dX11_add_87 : decode cX11_add 87 = .ok (.getfield 7, 3) := by decide +kernel
theorem dX11_add_90 : decode cX11_add 90 = .ok (.iconst 0, 1) := by decide +kernel
theorem dX11_add_91 : decode cX11_add 91 = .ok (.dup2, 1) := by decide +kernel
theorem dX11_add_92 : decode cX11_add 92 = .ok (.iaload, 1) := by decide +kernel
theorem dX11_add_93 : decode cX11_add 93 = .ok (.iconst 1, 1) := by decide +kernel
theorem dX11_add_94 : decode cX11_add 94 = .ok (.iadd, 1) := by decide +kernel
theorem dX11_add_95 : decode cX11_add 95 = .ok (.iastore, 1) := by decide +kernel
theorem dX11_add_96 : decode cX11_add 96 = .ok (.iload 6, 2) := by decide +kernel
theorem dX11_add_98 : decode cX11_add 98 = .ok (.ireturn, 1) := by decide +kernel
theorem dX11_tree_0 : decode cX11_tree 0 = .ok (.iload_n 1, 1) := by decide +kernel
theorem dX11_tree_1 : decode cX11_tree 1 = .ok (.i2l, 1) := by decide +kernel
theorem dX11_tree_2 : decode cX11_tree 2 = .ok (.lconst 0, 1) := by decide +kernel
theorem dX11_tree_3 : decode cX11_tree 3 = .ok (.ldc2_w 55, 3) := by decide +kernel
theorem dX11_tree_6 : decode cX11_tree 6 = .ok (.invokestatic 51, 3) := by decide +kernel
theorem dX11_tree_9 : decode cX11_tree 9 = .ok (.ifCond .ne 5, 3) := by decide +kernel
theorem dX11_tree_12 : decode cX11_tree 12 = .ok (.iconst (-1), 1) := by decide +kernel
theorem dX11_tree_13 : decode cX11_tree 13 = .ok (.ireturn, 1) := by decide +kernel
theorem dX11_tree_14 : decode cX11_tree 14 = .ok (.aload_n 0, 1) := by decide +kernel
theorem dX11_tree_15 : decode cX11_tree 15 = .ok (.getfield 7, 3) := by decide +kernel
theorem dX11_tree_18 : decode cX11_tree 18 = .ok (.iconst 0, 1) := by decide +kernel
theorem dX11_tree_19 : decode cX11_tree 19 = .ok (.iaload, 1) := by decide +kernel
theorem dX11_tree_20 : decode cX11_tree 20 = .ok (.bipush 6, 2) := by decide +kernel
theorem dX11_tree_22 : decode cX11_tree 22 = .ok (.if_icmp .ne 8, 3) := by decide +kernel
theorem dX11_tree_25 : decode cX11_tree 25 = .ok (.bipush (-3), 2) := by decide +kernel
theorem dX11_tree_27 : decode cX11_tree 27 = .ok (.goto 12, 3) := by decide +kernel
theorem dX11_tree_30 : decode cX11_tree 30 = .ok (.aload_n 0, 1) := by decide +kernel
theorem dX11_tree_31 : decode cX11_tree 31 = .ok (.iload_n 1, 1) := by decide +kernel
theorem dX11_tree_32 : decode cX11_tree 32 = .ok (.iconst 5, 1) := by decide +kernel
theorem dX11_tree_33 : decode cX11_tree 33 = .ok (.iconst 5, 1) := by decide +kernel
theorem dX11_tree_34 : decode cX11_tree 34 = .ok (.iconst 0, 1) := by decide +kernel
theorem dX11_tree_35 : decode cX11_tree 35 = .ok (.iconst 0, 1) := by decide +kernel
theorem dX11_tree_36 : decode cX11_tree 36 = .ok (.invokevirtual 57, 3) := by decide +kernel
theorem dX11_tree_39 : decode cX11_tree 39 = .ok (.ireturn, 1) := by decide +kernel
theorem dX11_cutting_0 : decode cX11_cutting 0 = .ok (.aload_n 0, 1) := by decide +kernel
theorem dX11_cutting_1 : decode cX11_cutting 1 = .ok (.iload_n 1, 1) := by decide +kernel
theorem dX11_cutting_2 : decode cX11_cutting 2 = .ok (.invokevirtual 61, 3) := by decide +kernel
theorem dX11_cutting_5 : decode cX11_cutting 5 = .ok (.ifCond .ne 5, 3) := by decide +kernel
theorem dX11_cutting_8 : decode cX11_cutting 8 = .ok (.iconst (-1), 1) := by decide +kernel
theorem dX11_cutting_9 : decode cX11_cutting 9 = .ok (.ireturn, 1) := by decide +kernel
theorem dX11_cutting_10 : decode cX11_cutting 10 = .ok (.aload_n 0, 1) := by decide +kernel
theorem dX11_cutting_11 : decode cX11_cutting 11 = .ok (.getfield 7, 3) := by decide +kernel
theorem dX11_cutting_14 : decode cX11_cutting 14 = .ok (.iconst 0, 1) := by decide +kernel
theorem dX11_cutting_15 : decode cX11_cutting 15 = .ok (.iaload, 1) := by decide +kernel
theorem dX11_cutting_16 : decode cX11_cutting 16 = .ok (.bipush 6, 2) := by decide +kernel
theorem dX11_cutting_18 : decode cX11_cutting 18 = .ok (.if_icmp .ne 8, 3) := by decide +kernel
theorem dX11_cutting_21 : decode cX11_cutting 21 = .ok (.bipush (-3), 2) := by decide +kernel
theorem dX11_cutting_23 : decode cX11_cutting 23 = .ok (.goto 51, 3) := by decide +kernel
theorem dX11_cutting_26 : decode cX11_cutting 26 = .ok (.aload_n 0, 1) := by decide +kernel
theorem dX11_cutting_27 : decode cX11_cutting 27 = .ok (.aload_n 0, 1) := by decide +kernel
theorem dX11_cutting_28 : decode cX11_cutting 28 = .ok (.getfield 7, 3) := by decide +kernel
theorem dX11_cutting_31 : decode cX11_cutting 31 = .ok (.iconst 1, 1) := by decide +kernel
theorem dX11_cutting_32 : decode cX11_cutting 32 = .ok (.iload_n 1, 1) := by decide +kernel
theorem dX11_cutting_33 : decode cX11_cutting 33 = .ok (.iadd, 1) := by decide +kernel
theorem dX11_cutting_34 : decode cX11_cutting 34 = .ok (.iaload, 1) := by decide +kernel
theorem dX11_cutting_35 : decode cX11_cutting 35 = .ok (.aload_n 0, 1) := by decide +kernel
theorem dX11_cutting_36 : decode cX11_cutting 36 = .ok (.getfield 7, 3) := by decide +kernel
theorem dX11_cutting_39 : decode cX11_cutting 39 = .ok (.bipush 13, 2) := by decide +kernel
theorem dX11_cutting_41 : decode cX11_cutting 41 = .ok (.iload_n 1, 1) := by decide +kernel
theorem dX11_cutting_42 : decode cX11_cutting 42 = .ok (.iadd, 1) := by decide +kernel
theorem dX11_cutting_43 : decode cX11_cutting 43 = .ok (.iaload, 1) := by decide +kernel
theorem dX11_cutting_44 : decode cX11_cutting 44 = .ok (.aload_n 0, 1) := by decide +kernel
theorem dX11_cutting_45 : decode cX11_cutting 45 = .ok (.getfield 7, 3) := by decide +kernel
theorem dX11_cutting_48 : decode cX11_cutting 48 = .ok (.bipush 19, 2) := by decide +kernel
theorem dX11_cutting_50 : decode cX11_cutting 50 = .ok (.iload_n 1, 1) := by decide +kernel
theorem dX11_cutting_51 : decode cX11_cutting 51 = .ok (.iadd, 1) := by decide +kernel
theorem dX11_cutting_52 : decode cX11_cutting 52 = .ok (.iaload, 1) := by decide +kernel
theorem dX11_cutting_53 : decode cX11_cutting 53 = .ok (.aload_n 0, 1) := by decide +kernel
theorem dX11_cutting_54 : decode cX11_cutting 54 = .ok (.getfield 7, 3) := by decide +kernel
theorem dX11_cutting_57 : decode cX11_cutting 57 = .ok (.bipush 25, 2) := by decide +kernel
theorem dX11_cutting_59 : decode cX11_cutting 59 = .ok (.iload_n 1, 1) := by decide +kernel
theorem dX11_cutting_60 : decode cX11_cutting 60 = .ok (.iadd, 1) := by decide +kernel
theorem dX11_cutting_61 : decode cX11_cutting 61 = .ok (.iaload, 1) := by decide +kernel
theorem dX11_cutting_62 : decode cX11_cutting 62 = .ok (.aload_n 0, 1) := by decide +kernel
theorem dX11_cutting_63 : decode cX11_cutting 63 = .ok (.getfield 7, 3) := by decide +kernel
theorem dX11_cutting_66 : decode cX11_cutting 66 = .ok (.bipush 31, 2) := by decide +kernel
theorem dX11_cutting_68 : decode cX11_cutting 68 = .ok (.iload_n 1, 1) := by decide +kernel
theorem dX11_cutting_69 : decode cX11_cutting 69 = .ok (.iadd, 1) := by decide +kernel
theorem dX11_cutting_70 : decode cX11_cutting 70 = .ok (.iaload, 1) := by decide +kernel
theorem dX11_cutting_71 : decode cX11_cutting 71 = .ok (.invokevirtual 57, 3) := by decide +kernel
theorem dX11_cutting_74 : decode cX11_cutting 74 = .ok (.ireturn, 1) := by decide +kernel
theorem dX11_climber_0 : decode cX11_climber 0 = .ok (.iload_n 1, 1) := by decide +kernel
theorem dX11_climber_1 : decode cX11_climber 1 = .ok (.i2l, 1) := by decide +kernel
theorem dX11_climber_2 : decode cX11_climber 2 = .ok (.lconst 0, 1) := by decide +kernel
theorem dX11_climber_3 : decode cX11_climber 3 = .ok (.ldc2_w 55, 3) := by decide +kernel
theorem dX11_climber_6 : decode cX11_climber 6 = .ok (.invokestatic 51, 3) := by decide +kernel
theorem dX11_climber_9 : decode cX11_climber 9 = .ok (.ifCond .eq 40, 3) := by decide +kernel
theorem dX11_climber_12 : decode cX11_climber 12 = .ok (.iload_n 2, 1) := by decide +kernel
theorem dX11_climber_13 : decode cX11_climber 13 = .ok (.i2l, 1) := by decide +kernel
theorem dX11_climber_14 : decode cX11_climber 14 = .ok (.lconst 1, 1) := by decide +kernel
theorem dX11_climber_15 : decode cX11_climber 15 = .ok (.ldc2_w 65, 3) := by decide +kernel
theorem dX11_climber_18 : decode cX11_climber 18 = .ok (.invokestatic 51, 3) := by decide +kernel
theorem dX11_climber_21 : decode cX11_climber 21 = .ok (.ifCond .eq 28, 3) := by decide +kernel
theorem dX11_climber_24 : decode cX11_climber 24 = .ok (.iload_n 3, 1) := by decide +kernel
theorem dX11_climber_25 : decode cX11_climber 25 = .ok (.i2l, 1) := by decide +kernel
theorem dX11_climber_26 : decode cX11_climber 26 = .ok (.lconst 0, 1) := by decide +kernel
theorem dX11_climber_27 : decode cX11_climber 27 = .ok (.ldc2_w 67, 3) := by decide +kernel
theorem dX11_climber_30 : decode cX11_climber 30 = .ok (.invokestatic 51, 3) := by decide +kernel
theorem dX11_climber_33 : decode cX11_climber 33 = .ok (.ifCond .eq 16, 3) := by decide +kernel
theorem dX11_climber_36 : decode cX11_climber 36 = .ok (.iload 4, 2) := by decide +kernel
theorem dX11_climber_38 : decode cX11_climber 38 = .ok (.i2l, 1) := by decide +kernel
theorem dX11_climber_39 : decode cX11_climber 39 = .ok (.lconst 0, 1) := by decide +kernel
theorem dX11_climber_40 : decode cX11_climber 40 = .ok (.ldc2_w 69, 3) := by decide +kernel
theorem dX11_climber_43 : decode cX11_climber 43 = .ok (.invokestatic 51, 3) := by decide +kernel
theorem dX11_climber_46 : decode cX11_climber 46 = .ok (.ifCond .ne 5, 3) := by decide +kernel
theorem dX11_climber_49 : decode cX11_climber 49 = .ok (.iconst (-1), 1) := by decide +kernel
theorem dX11_climber_50 : decode cX11_climber 50 = .ok (.ireturn, 1) := by decide +kernel
theorem dX11_climber_51 : decode cX11_climber 51 = .ok (.aload_n 0, 1) := by decide +kernel
theorem dX11_climber_52 : decode cX11_climber 52 = .ok (.getfield 7, 3) := by decide +kernel
theorem dX11_climber_55 : decode cX11_climber 55 = .ok (.bipush 43, 2) := by decide +kernel
theorem dX11_climber_57 : decode cX11_climber 57 = .ok (.iaload, 1) := by decide +kernel
theorem dX11_climber_58 : decode cX11_climber 58 = .ok (.istore 5, 2) := by decide +kernel
theorem dX11_climber_60 : decode cX11_climber 60 = .ok (.iload 5, 2) := by decide +kernel
theorem dX11_climber_62 : decode cX11_climber 62 = .ok (.iconst 5, 1) := by decide +kernel
theorem dX11_climber_63 : decode cX11_climber 63 = .ok (.if_icmp .ne 6, 3) := by decide +kernel
theorem dX11_climber_66 : decode cX11_climber 66 = .ok (.bipush (-3), 2) := by decide +kernel
theorem dX11_climber_68 : decode cX11_climber 68 = .ok (.ireturn, 1) := by decide +kernel
theorem dX11_climber_69 : decode cX11_climber 69 = .ok (.aload_n 0, 1) := by decide +kernel
theorem dX11_climber_70 : decode cX11_climber 70 = .ok (.getfield 7, 3) := by decide +kernel
theorem dX11_climber_73 : decode cX11_climber 73 = .ok (.bipush 44, 2) := by decide +kernel
theorem dX11_climber_75 : decode cX11_climber 75 = .ok (.iload 5, 2) := by decide +kernel
theorem dX11_climber_77 : decode cX11_climber 77 = .ok (.iadd, 1) := by decide +kernel
theorem dX11_climber_78 : decode cX11_climber 78 = .ok (.iload_n 1, 1) := by decide +kernel
theorem dX11_climber_79 : decode cX11_climber 79 = .ok (.iastore, 1) := by decide +kernel
theorem dX11_climber_80 : decode cX11_climber 80 = .ok (.aload_n 0, 1) := by decide +kernel
theorem dX11_climber_81 : decode cX11_climber 81 = .ok (.getfield 7, 3) := by decide +kernel
theorem dX11_climber_84 : decode cX11_climber 84 = .ok (.bipush 49, 2) := by decide +kernel
theorem dX11_climber_86 : decode cX11_climber 86 = .ok (.iload 5, 2) := by decide +kernel
theorem dX11_climber_88 : decode cX11_climber 88 = .ok (.iadd, 1) := by decide +kernel
theorem dX11_climber_89 : decode cX11_climber 89 = .ok (.iload_n 2, 1) := by decide +kernel
theorem dX11_climber_90 : decode cX11_climber 90 = .ok (.iastore, 1) := by decide +kernel
theorem dX11_climber_91 : decode cX11_climber 91 = .ok (.aload_n 0, 1) := by decide +kernel
theorem dX11_climber_92 : decode cX11_climber 92 = .ok (.getfield 7, 3) := by decide +kernel
theorem dX11_climber_95 : decode cX11_climber 95 = .ok (.bipush 54, 2) := by decide +kernel
theorem dX11_climber_97 : decode cX11_climber 97 = .ok (.iload 5, 2) := by decide +kernel
theorem dX11_climber_99 : decode cX11_climber 99 = .ok (.iadd, 1) := by decide +kernel
theorem dX11_climber_100 : decode cX11_climber 100 = .ok (.iload_n 3, 1) := by decide +kernel
theorem dX11_climber_101 : decode cX11_climber 101 = .ok (.iastore, 1) := by decide +kernel
theorem dX11_climber_102 : decode cX11_climber 102 = .ok (.aload_n 0, 1) := by decide +kernel
theorem dX11_climber_103 : decode cX11_climber 103 = .ok (.getfield 7, 3) := by decide +kernel
theorem dX11_climber_106 : decode cX11_climber 106 = .ok (.bipush 59, 2) := by decide +kernel
theorem dX11_climber_108 : decode cX11_climber 108 = .ok (.iload 5, 2) := by decide +kernel
theorem dX11_climber_110 : decode cX11_climber 110 = .ok (.iadd, 1) := by decide +kernel
theorem dX11_climber_111 : decode cX11_climber 111 = .ok (.iload 4, 2) := by decide +kernel
theorem dX11_climber_113 : decode cX11_climber 113 = .ok (.iastore, 1) := by decide +kernel
theorem dX11_climber_114 : decode cX11_climber 114 = .ok (.aload_n 0, 1) := by decide +kernel
theorem dX11_climber_115 : decode cX11_climber 115 = .ok (.getfield 7, 3) := by decide +kernel
theorem dX11_climber_118 : decode cX11_climber 118 = .ok (.bipush 43, 2) := by decide +kernel
theorem dX11_climber_120 : decode cX11_climber 120 = .ok (.dup2, 1) := by decide +kernel
theorem dX11_climber_121 : decode cX11_climber 121 = .ok (.iaload, 1) := by decide +kernel
theorem dX11_climber_122 : decode cX11_climber 122 = .ok (.iconst 1, 1) := by decide +kernel
theorem dX11_climber_123 : decode cX11_climber 123 = .ok (.iadd, 1) := by decide +kernel
theorem dX11_climber_124 : decode cX11_climber 124 = .ok (.iastore, 1) := by decide +kernel
theorem dX11_climber_125 : decode cX11_climber 125 = .ok (.iload 5, 2) := by decide +kernel
theorem dX11_climber_127 : decode cX11_climber 127 = .ok (.ireturn, 1) := by decide +kernel
theorem dX11_set_0 : decode cX11_set 0 = .ok (.aload_n 0, 1) := by decide +kernel
theorem dX11_set_1 : decode cX11_set 1 = .ok (.iload_n 1, 1) := by decide +kernel
theorem dX11_set_2 : decode cX11_set 2 = .ok (.invokevirtual 71, 3) := by decide +kernel
theorem dX11_set_5 : decode cX11_set 5 = .ok (.ifCond .eq 58, 3) := by decide +kernel
theorem dX11_set_8 : decode cX11_set 8 = .ok (.iload_n 2, 1) := by decide +kernel
theorem dX11_set_9 : decode cX11_set 9 = .ok (.i2l, 1) := by decide +kernel
theorem dX11_set_10 : decode cX11_set 10 = .ok (.lconst 1, 1) := by decide +kernel
theorem dX11_set_11 : decode cX11_set 11 = .ok (.ldc2_w 55, 3) := by decide +kernel
theorem dX11_set_14 : decode cX11_set 14 = .ok (.invokestatic 51, 3) := by decide +kernel
theorem dX11_set_17 : decode cX11_set 17 = .ok (.ifCond .eq 46, 3) := by decide +kernel
theorem dX11_set_20 : decode cX11_set 20 = .ok (.iload_n 3, 1) := by decide +kernel
theorem dX11_set_21 : decode cX11_set 21 = .ok (.i2l, 1) := by decide +kernel
theorem dX11_set_22 : decode cX11_set 22 = .ok (.iload_n 2, 1) := by decide +kernel
theorem dX11_set_23 : decode cX11_set 23 = .ok (.iconst 1, 1) := by decide +kernel
theorem dX11_set_24 : decode cX11_set 24 = .ok (.if_icmp .ne 7, 3) := by decide +kernel
theorem dX11_set_27 : decode cX11_set 27 = .ok (.lconst 1, 1) := by decide +kernel
theorem dX11_set_28 : decode cX11_set 28 = .ok (.goto 4, 3) := by decide +kernel
theorem dX11_set_31 : decode cX11_set 31 = .ok (.lconst 0, 1) := by decide +kernel
theorem dX11_set_32 : decode cX11_set 32 = .ok (.iload_n 2, 1) := by decide +kernel
theorem dX11_set_33 : decode cX11_set 33 = .ok (.iconst 1, 1) := by decide +kernel
theorem dX11_set_34 : decode cX11_set 34 = .ok (.if_icmp .ne 9, 3) := by decide +kernel
theorem dX11_set_37 : decode cX11_set 37 = .ok (.ldc2_w 65, 3) := by decide +kernel
theorem dX11_set_40 : decode cX11_set 40 = .ok (.goto 17, 3) := by decide +kernel
theorem dX11_set_43 : decode cX11_set 43 = .ok (.iload_n 2, 1) := by decide +kernel
theorem dX11_set_44 : decode cX11_set 44 = .ok (.iconst 2, 1) := by decide +kernel
theorem dX11_set_45 : decode cX11_set 45 = .ok (.if_icmp .ne 9, 3) := by decide +kernel
theorem dX11_set_48 : decode cX11_set 48 = .ok (.ldc2_w 67, 3) := by decide +kernel
theorem dX11_set_51 : decode cX11_set 51 = .ok (.goto 6, 3) := by decide +kernel
theorem dX11_set_54 : decode cX11_set 54 = .ok (.ldc2_w 69, 3) := by decide +kernel
theorem dX11_set_57 : decode cX11_set 57 = .ok (.invokestatic 51, 3) := by decide +kernel
theorem dX11_set_60 : decode cX11_set 60 = .ok (.ifCond .ne 5, 3) := by decide +kernel
theorem dX11_set_63 : decode cX11_set 63 = .ok (.iconst (-1), 1) := by decide +kernel
theorem dX11_set_64 : decode cX11_set 64 = .ok (.ireturn, 1) := by decide +kernel
theorem dX11_set_65 : decode cX11_set 65 = .ok (.bipush 44, 2) := by decide +kernel
theorem dX11_set_67 : decode cX11_set 67 = .ok (.iconst 5, 1) := by decide +kernel
theorem dX11_set_68 : decode cX11_set 68 = .ok (.iload_n 2, 1) := by decide +kernel
theorem dX11_set_69 : decode cX11_set 69 = .ok (.imul, 1) := by decide +kernel
theorem dX11_set_70 : decode cX11_set 70 = .ok (.iadd, 1) := by decide +kernel
theorem dX11_set_71 : decode cX11_set 71 = .ok (.iload_n 1, 1) := by decide +kernel
theorem dX11_set_72 : decode cX11_set 72 = .ok (.iadd, 1) := by decide +kernel
theorem dX11_set_73 : decode cX11_set 73 = .ok (.istore 4, 2) := by decide +kernel
theorem dX11_set_75 : decode cX11_set 75 = .ok (.aload_n 0, 1) := by decide +kernel
theorem dX11_set_76 : decode cX11_set 76 = .ok (.getfield 7, 3) := by decide +kernel
theorem dX11_set_79 : decode cX11_set 79 = .ok (.iload 4, 2) := by decide +kernel
