theorem dX11_bearsNow_32 : decode cX11_bearsNow 32 = .ok (.bipush 19, 2) := by decide +kernel
theorem dX11_bearsNow_34 : decode cX11_bearsNow 34 = .ok (.iload_n 1, 1) := by decide +kernel
theorem dX11_bearsNow_35 : decode cX11_bearsNow 35 = .ok (.iadd, 1) := by decide +kernel
theorem dX11_bearsNow_36 : decode cX11_bearsNow 36 = .ok (.iaload, 1) := by decide +kernel
theorem dX11_bearsNow_37 : decode cX11_bearsNow 37 = .ok (.aload_n 0, 1) := by decide +kernel
theorem dX11_bearsNow_38 : decode cX11_bearsNow 38 = .ok (.getfield 7, 3) := by decide +kernel
theorem dX11_bearsNow_41 : decode cX11_bearsNow 41 = .ok (.bipush 31, 2) := by decide +kernel
theorem dX11_bearsNow_43 : decode cX11_bearsNow 43 = .ok (.iload_n 1, 1) := by decide +kernel
theorem dX11_bearsNow_44 : decode cX11_bearsNow 44 = .ok (.iadd, 1) := by decide +kernel
theorem dX11_bearsNow_45 : decode cX11_bearsNow 45 = .ok (.iaload, 1) := by decide +kernel
theorem dX11_bearsNow_46 : decode cX11_bearsNow 46 = .ok (.invokevirtual 130, 3) := by decide +kernel
theorem dX11_bearsNow_49 : decode cX11_bearsNow 49 = .ok (.ireturn, 1) := by decide +kernel
theorem dX11_bearsNext_0 : decode cX11_bearsNext 0 = .ok (.aload_n 0, 1) := by decide +kernel
theorem dX11_bearsNext_1 : decode cX11_bearsNext 1 = .ok (.aload_n 0, 1) := by decide +kernel
theorem dX11_bearsNext_2 : decode cX11_bearsNext 2 = .ok (.getfield 7, 3) := by decide +kernel
theorem dX11_bearsNext_5 : decode cX11_bearsNext 5 = .ok (.iconst 1, 1) := by decide +kernel
theorem dX11_bearsNext_6 : decode cX11_bearsNext 6 = .ok (.iload_n 1, 1) := by decide +kernel
theorem dX11_bearsNext_7 : decode cX11_bearsNext 7 = .ok (.iadd, 1) := by decide +kernel
theorem dX11_bearsNext_8 : decode cX11_bearsNext 8 = .ok (.iaload, 1) := by decide +kernel
theorem dX11_bearsNext_9 : decode cX11_bearsNext 9 = .ok (.iload_n 2, 1) := by decide +kernel
theorem dX11_bearsNext_10 : decode cX11_bearsNext 10 = .ok (.iload_n 3, 1) := by decide +kernel
theorem dX11_bearsNext_11 : decode cX11_bearsNext 11 = .ok (.iload 4, 2) := by decide +kernel
theorem dX11_bearsNext_13 : decode cX11_bearsNext 13 = .ok (.aload_n 0, 1) := by decide +kernel
theorem dX11_bearsNext_14 : decode cX11_bearsNext 14 = .ok (.getfield 7, 3) := by decide +kernel
theorem dX11_bearsNext_17 : decode cX11_bearsNext 17 = .ok (.bipush 13, 2) := by decide +kernel
theorem dX11_bearsNext_19 : decode cX11_bearsNext 19 = .ok (.iload_n 1, 1) := by decide +kernel
theorem dX11_bearsNext_20 : decode cX11_bearsNext 20 = .ok (.iadd, 1) := by decide +kernel
theorem dX11_bearsNext_21 : decode cX11_bearsNext 21 = .ok (.iaload, 1) := by decide +kernel
theorem dX11_bearsNext_22 : decode cX11_bearsNext 22 = .ok (.aload_n 0, 1) := by decide +kernel
theorem dX11_bearsNext_23 : decode cX11_bearsNext 23 = .ok (.getfield 7, 3) := by decide +kernel
theorem dX11_bearsNext_26 : decode cX11_bearsNext 26 = .ok (.bipush 25, 2) := by decide +kernel
theorem dX11_bearsNext_28 : decode cX11_bearsNext 28 = .ok (.iload_n 1, 1) := by decide +kernel
theorem dX11_bearsNext_29 : decode cX11_bearsNext 29 = .ok (.iadd, 1) := by decide +kernel
theorem dX11_bearsNext_30 : decode cX11_bearsNext 30 = .ok (.iaload, 1) := by decide +kernel
theorem dX11_bearsNext_31 : decode cX11_bearsNext 31 = .ok (.invokevirtual 130, 3) := by decide +kernel
theorem dX11_bearsNext_34 : decode cX11_bearsNext 34 = .ok (.ireturn, 1) := by decide +kernel
theorem dX11_worthNext_0 : decode cX11_worthNext 0 = .ok (.iconst 0, 1) := by decide +kernel
theorem dX11_worthNext_1 : decode cX11_worthNext 1 = .ok (.istore 4, 2) := by decide +kernel
theorem dX11_worthNext_3 : decode cX11_worthNext 3 = .ok (.iconst 0, 1) := by decide +kernel
theorem dX11_worthNext_4 : decode cX11_worthNext 4 = .ok (.istore 5, 2) := by decide +kernel
theorem dX11_worthNext_6 : decode cX11_worthNext 6 = .ok (.iload 5, 2) := by decide +kernel
theorem dX11_worthNext_8 : decode cX11_worthNext 8 = .ok (.bipush 10, 2) := by decide +kernel
theorem dX11_worthNext_10 : decode cX11_worthNext 10 = .ok (.if_icmp .ge 34, 3) := by decide +kernel
theorem dX11_worthNext_13 : decode cX11_worthNext 13 = .ok (.iload 4, 2) := by decide +kernel
theorem dX11_worthNext_15 : decode cX11_worthNext 15 = .ok (.aload_n 0, 1) := by decide +kernel
theorem dX11_worthNext_16 : decode cX11_worthNext 16 = .ok (.getfield 7, 3) := by decide +kernel
theorem dX11_worthNext_19 : decode cX11_worthNext 19 = .ok (.bipush 64, 2) := by decide +kernel
theorem dX11_worthNext_21 : decode cX11_worthNext 21 = .ok (.iload 5, 2) := by decide +kernel
theorem dX11_worthNext_23 : decode cX11_worthNext 23 = .ok (.iadd, 1) := by decide +kernel
theorem dX11_worthNext_24 : decode cX11_worthNext 24 = .ok (.iaload, 1) := by decide +kernel
theorem dX11_worthNext_25 : decode cX11_worthNext 25 = .ok (.aload_n 0, 1) := by decide +kernel
theorem dX11_worthNext_26 : decode cX11_worthNext 26 = .ok (.iload_n 1, 1) := by decide +kernel
theorem dX11_worthNext_27 : decode cX11_worthNext 27 = .ok (.iload 5, 2) := by decide +kernel
theorem dX11_worthNext_29 : decode cX11_worthNext 29 = .ok (.iload_n 2, 1) := by decide +kernel
theorem dX11_worthNext_30 : decode cX11_worthNext 30 = .ok (.iload_n 3, 1) := by decide +kernel
theorem dX11_worthNext_31 : decode cX11_worthNext 31 = .ok (.invokevirtual 134, 3) := by decide +kernel
theorem dX11_worthNext_34 : decode cX11_worthNext 34 = .ok (.imul, 1) := by decide +kernel
theorem dX11_worthNext_35 : decode cX11_worthNext 35 = .ok (.iadd, 1) := by decide +kernel
theorem dX11_worthNext_36 : decode cX11_worthNext 36 = .ok (.istore 4, 2) := by decide +kernel
theorem dX11_worthNext_38 : decode cX11_worthNext 38 = .ok (.iinc 5 1, 3) := by decide +kernel
theorem dX11_worthNext_41 : decode cX11_worthNext 41 = .ok (.goto (-35), 3) := by decide +kernel
theorem dX11_worthNext_44 : decode cX11_worthNext 44 = .ok (.iload 4, 2) := by decide +kernel
theorem dX11_worthNext_46 : decode cX11_worthNext 46 = .ok (.ireturn, 1) := by decide +kernel
theorem dX11_bears_0 : decode cX11_bears 0 = .ok (.aload_n 0, 1) := by decide +kernel
theorem dX11_bears_1 : decode cX11_bears 1 = .ok (.iload_n 1, 1) := by decide +kernel
theorem dX11_bears_2 : decode cX11_bears 2 = .ok (.invokevirtual 61, 3) := by decide +kernel
theorem dX11_bears_5 : decode cX11_bears 5 = .ok (.ifCond .eq 24, 3) := by decide +kernel
theorem dX11_bears_8 : decode cX11_bears 8 = .ok (.iload_n 2, 1) := by decide +kernel
theorem dX11_bears_9 : decode cX11_bears 9 = .ok (.i2l, 1) := by decide +kernel
theorem dX11_bears_10 : decode cX11_bears 10 = .ok (.lconst 0, 1) := by decide +kernel
theorem dX11_bears_11 : decode cX11_bears 11 = .ok (.ldc2_w 65, 3) := by decide +kernel
theorem dX11_bears_14 : decode cX11_bears 14 = .ok (.invokestatic 51, 3) := by decide +kernel
theorem dX11_bears_17 : decode cX11_bears 17 = .ok (.ifCond .eq 12, 3) := by decide +kernel
theorem dX11_bears_20 : decode cX11_bears 20 = .ok (.aload_n 0, 1) := by decide +kernel
theorem dX11_bears_21 : decode cX11_bears 21 = .ok (.iload_n 1, 1) := by decide +kernel
theorem dX11_bears_22 : decode cX11_bears 22 = .ok (.iload_n 2, 1) := by decide +kernel
theorem dX11_bears_23 : decode cX11_bears 23 = .ok (.invokevirtual 138, 3) := by decide +kernel
theorem dX11_bears_26 : decode cX11_bears 26 = .ok (.goto 4, 3) := by decide +kernel
theorem dX11_bears_29 : decode cX11_bears 29 = .ok (.iconst (-1), 1) := by decide +kernel
theorem dX11_bears_30 : decode cX11_bears 30 = .ok (.ireturn, 1) := by decide +kernel
theorem dX11_basketOf_0 : decode cX11_basketOf 0 = .ok (.iconst 0, 1) := by decide +kernel
theorem dX11_basketOf_1 : decode cX11_basketOf 1 = .ok (.istore_n 3, 1) := by decide +kernel
theorem dX11_basketOf_2 : decode cX11_basketOf 2 = .ok (.iconst 0, 1) := by decide +kernel
theorem dX11_basketOf_3 : decode cX11_basketOf 3 = .ok (.istore 4, 2) := by decide +kernel
theorem dX11_basketOf_5 : decode cX11_basketOf 5 = .ok (.iload 4, 2) := by decide +kernel
theorem dX11_basketOf_7 : decode cX11_basketOf 7 = .ok (.aload_n 0, 1) := by decide +kernel
theorem dX11_basketOf_8 : decode cX11_basketOf 8 = .ok (.getfield 7, 3) := by decide +kernel
theorem dX11_basketOf_11 : decode cX11_basketOf 11 = .ok (.iconst 0, 1) := by decide +kernel
theorem dX11_basketOf_12 : decode cX11_basketOf 12 = .ok (.iaload, 1) := by decide +kernel
theorem dX11_basketOf_13 : decode cX11_basketOf 13 = .ok (.if_icmp .ge 44, 3) := by decide +kernel
theorem dX11_basketOf_16 : decode cX11_basketOf 16 = .ok (.iload_n 3, 1) := by decide +kernel
theorem dX11_basketOf_17 : decode cX11_basketOf 17 = .ok (.iload_n 2, 1) := by decide +kernel
theorem dX11_basketOf_18 : decode cX11_basketOf 18 = .ok (.ifCond .ne 13, 3) := by decide +kernel
theorem dX11_basketOf_21 : decode cX11_basketOf 21 = .ok (.aload_n 0, 1) := by decide +kernel
theorem dX11_basketOf_22 : decode cX11_basketOf 22 = .ok (.iload 4, 2) := by decide +kernel
theorem dX11_basketOf_24 : decode cX11_basketOf 24 = .ok (.iload_n 1, 1) := by decide +kernel
theorem dX11_basketOf_25 : decode cX11_basketOf 25 = .ok (.invokevirtual 138, 3) := by decide +kernel
theorem dX11_basketOf_28 : decode cX11_basketOf 28 = .ok (.goto 21, 3) := by decide +kernel
theorem dX11_basketOf_31 : decode cX11_basketOf 31 = .ok (.aload_n 0, 1) := by decide +kernel
theorem dX11_basketOf_32 : decode cX11_basketOf 32 = .ok (.iload 4, 2) := by decide +kernel
theorem dX11_basketOf_34 : decode cX11_basketOf 34 = .ok (.iload_n 1, 1) := by decide +kernel
theorem dX11_basketOf_35 : decode cX11_basketOf 35 = .ok (.aload_n 0, 1) := by decide +kernel
theorem dX11_basketOf_36 : decode cX11_basketOf 36 = .ok (.getfield 7, 3) := by decide +kernel
theorem dX11_basketOf_39 : decode cX11_basketOf 39 = .ok (.bipush 7, 2) := by decide +kernel
theorem dX11_basketOf_41 : decode cX11_basketOf 41 = .ok (.iload 4, 2) := by decide +kernel
theorem dX11_basketOf_43 : decode cX11_basketOf 43 = .ok (.iadd, 1) := by decide +kernel
theorem dX11_basketOf_44 : decode cX11_basketOf 44 = .ok (.iaload, 1) := by decide +kernel
theorem dX11_basketOf_45 : decode cX11_basketOf 45 = .ok (.iconst 0, 1) := by decide +kernel
theorem dX11_basketOf_46 : decode cX11_basketOf 46 = .ok (.invokevirtual 134, 3) := by decide +kernel
theorem dX11_basketOf_49 : decode cX11_basketOf 49 = .ok (.iadd, 1) := by decide +kernel
theorem dX11_basketOf_50 : decode cX11_basketOf 50 = .ok (.istore_n 3, 1) := by decide +kernel
theorem dX11_basketOf_51 : decode cX11_basketOf 51 = .ok (.iinc 4 1, 3) := by decide +kernel
theorem dX11_basketOf_54 : decode cX11_basketOf 54 = .ok (.goto (-49), 3) := by decide +kernel
theorem dX11_basketOf_57 : decode cX11_basketOf 57 = .ok (.iload_n 3, 1) := by decide +kernel
theorem dX11_basketOf_58 : decode cX11_basketOf 58 = .ok (.ireturn, 1) := by decide +kernel
theorem dX11_basket_0 : decode cX11_basket 0 = .ok (.iload_n 1, 1) := by decide +kernel
theorem dX11_basket_1 : decode cX11_basket 1 = .ok (.i2l, 1) := by decide +kernel
theorem dX11_basket_2 : decode cX11_basket 2 = .ok (.lconst 0, 1) := by decide +kernel
theorem dX11_basket_3 : decode cX11_basket 3 = .ok (.ldc2_w 65, 3) := by decide +kernel
theorem dX11_basket_6 : decode cX11_basket 6 = .ok (.invokestatic 51, 3) := by decide +kernel
theorem dX11_basket_9 : decode cX11_basket 9 = .ok (.ifCond .eq 22, 3) := by decide +kernel
theorem dX11_basket_12 : decode cX11_basket 12 = .ok (.iload_n 2, 1) := by decide +kernel
theorem dX11_basket_13 : decode cX11_basket 13 = .ok (.i2l, 1) := by decide +kernel
theorem dX11_basket_14 : decode cX11_basket 14 = .ok (.lconst 0, 1) := by decide +kernel
theorem dX11_basket_15 : decode cX11_basket 15 = .ok (.lconst 1, 1) := by decide +kernel
theorem dX11_basket_16 : decode cX11_basket 16 = .ok (.invokestatic 51, 3) := by decide +kernel
theorem dX11_basket_19 : decode cX11_basket 19 = .ok (.ifCond .eq 12, 3) := by decide +kernel
theorem dX11_basket_22 : decode cX11_basket 22 = .ok (.aload_n 0, 1) := by decide +kernel
theorem dX11_basket_23 : decode cX11_basket 23 = .ok (.iload_n 1, 1) := by decide +kernel
theorem dX11_basket_24 : decode cX11_basket 24 = .ok (.iload_n 2, 1) := by decide +kernel
theorem dX11_basket_25 : decode cX11_basket 25 = .ok (.invokevirtual 142, 3) := by decide +kernel
theorem dX11_basket_28 : decode cX11_basket 28 = .ok (.goto 4, 3) := by decide +kernel
theorem dX11_basket_31 : decode cX11_basket 31 = .ok (.iconst (-1), 1) := by decide +kernel
theorem dX11_basket_32 : decode cX11_basket 32 = .ok (.ireturn, 1) := by decide +kernel
theorem dX11_valueOf_0 : decode cX11_valueOf 0 = .ok (.iconst 0, 1) := by decide +kernel
theorem dX11_valueOf_1 : decode cX11_valueOf 1 = .ok (.istore_n 2, 1) := by decide +kernel
theorem dX11_valueOf_2 : decode cX11_valueOf 2 = .ok (.iconst 0, 1) := by decide +kernel
theorem dX11_valueOf_3 : decode cX11_valueOf 3 = .ok (.istore_n 3, 1) := by decide +kernel
theorem dX11_valueOf_4 : decode cX11_valueOf 4 = .ok (.iload_n 3, 1) := by decide +kernel
theorem dX11_valueOf_5 : decode cX11_valueOf 5 = .ok (.bipush 10, 2) := by decide +kernel
theorem dX11_valueOf_7 : decode cX11_valueOf 7 = .ok (.if_icmp .ge 28, 3) := by decide +kernel
theorem dX11_valueOf_10 : decode cX11_valueOf 10 = .ok (.iload_n 2, 1) := by decide +kernel
theorem dX11_valueOf_11 : decode cX11_valueOf 11 = .ok (.aload_n 0, 1) := by decide +kernel
theorem dX11_valueOf_12 : decode cX11_valueOf 12 = .ok (.getfield 7, 3) := by decide +kernel
theorem dX11_valueOf_15 : decode cX11_valueOf 15 = .ok (.bipush 64, 2) := by decide +kernel
theorem dX11_valueOf_17 : decode cX11_valueOf 17 = .ok (.iload_n 3, 1) := by decide +kernel
theorem dX11_valueOf_18 : decode cX11_valueOf 18 = .ok (.iadd, 1) := by decide +kernel
theorem dX11_valueOf_19 : decode cX11_valueOf 19 = .ok (.iaload, 1) := by decide +kernel
theorem dX11_valueOf_20 : decode cX11_valueOf 20 = .ok (.aload_n 0, 1) := by decide +kernel
theorem dX11_valueOf_21 : decode cX11_valueOf 21 = .ok (.iload_n 3, 1) := by decide +kernel
theorem dX11_valueOf_22 : decode cX11_valueOf 22 = .ok (.iload_n 1, 1) := by decide +kernel
theorem dX11_valueOf_23 : decode cX11_valueOf 23 = .ok (.invokevirtual 142, 3) := by decide +kernel
theorem dX11_valueOf_26 : decode cX11_valueOf 26 = .ok (.imul, 1) := by decide +kernel
theorem dX11_valueOf_27 : decode cX11_valueOf 27 = .ok (.iadd, 1) := by decide +kernel
theorem dX11_valueOf_28 : decode cX11_valueOf 28 = .ok (.istore_n 2, 1) := by decide +kernel
theorem dX11_valueOf_29 : decode cX11_valueOf 29 = .ok (.iinc 3 1, 3) := by decide +kernel
theorem dX11_valueOf_32 : decode cX11_valueOf 32 = .ok (.goto (-28), 3) := by decide +kernel
theorem dX11_valueOf_35 : decode cX11_valueOf 35 = .ok (.iload_n 2, 1) := by decide +kernel
theorem dX11_valueOf_36 : decode cX11_valueOf 36 = .ok (.ireturn, 1) := by decide +kernel
theorem dX11_value_0 : decode cX11_value 0 = .ok (.iload_n 1, 1) := by decide +kernel
theorem dX11_value_1 : decode cX11_value 1 = .ok (.i2l, 1) := by decide +kernel
theorem dX11_value_2 : decode cX11_value 2 = .ok (.lconst 0, 1) := by decide +kernel
theorem dX11_value_3 : decode cX11_value 3 = .ok (.lconst 1, 1) := by decide +kernel
theorem dX11_value_4 : decode cX11_value 4 = .ok (.invokestatic 51, 3) := by decide +kernel
theorem dX11_value_7 : decode cX11_value 7 = .ok (.ifCond .eq 11, 3) := by decide +kernel
theorem dX11_value_10 : decode cX11_value 10 = .ok (.aload_n 0, 1) := by decide +kernel
theorem dX11_value_11 : decode cX11_value 11 = .ok (.iload_n 1, 1) := by decide +kernel
theorem dX11_value_12 : decode cX11_value 12 = .ok (.invokevirtual 145, 3) := by decide +kernel
theorem dX11_value_15 : decode cX11_value 15 = .ok (.goto 5, 3) := by decide +kernel
theorem dX11_value_18 : decode cX11_value 18 = .ok (.ldc 84, 2) := by decide +kernel
theorem dX11_value_20 : decode cX11_value 20 = .ok (.ireturn, 1) := by decide +kernel
theorem dX11_draw_0 : decode cX11_draw 0 = .ok (.aload_n 0, 1) := by decide +kernel
theorem dX11_draw_1 : decode cX11_draw 1 = .ok (.getfield 7, 3) := by decide +kernel
theorem dX11_draw_4 : decode cX11_draw 4 = .ok (.bipush 74, 2) := by decide +kernel
theorem dX11_draw_6 : decode cX11_draw 6 = .ok (.aload_n 0, 1) := by decide +kernel
theorem dX11_draw_7 : decode cX11_draw 7 = .ok (.getfield 7, 3) := by decide +kernel
theorem dX11_draw_10 : decode cX11_draw 10 = .ok (.bipush 74, 2) := by decide +kernel
theorem dX11_draw_12 : decode cX11_draw 12 = .ok (.iaload, 1) := by decide +kernel
theorem dX11_draw_13 : decode cX11_draw 13 = .ok (.i2l, 1) := by decide +kernel
theorem dX11_draw_14 : decode cX11_draw 14 = .ok (.ldc2_w 148, 3) := by decide +kernel
theorem dX11_draw_17 : decode cX11_draw 17 = .ok (.lmul, 1) := by decide +kernel
theorem dX11_draw_18 : decode cX11_draw 18 = .ok (.ldc2_w 150, 3) := by decide +kernel
theorem dX11_draw_21 : decode cX11_draw 21 = .ok (.ladd, 1) := by decide +kernel
theorem dX11_draw_22 : decode cX11_draw 22 = .ok (.ldc2_w 152, 3) := by decide +kernel
theorem dX11_draw_25 : decode cX11_draw 25 = .ok (.land, 1) := by decide +kernel
theorem dX11_draw_26 : decode cX11_draw 26 = .ok (.l2i, 1) := by decide +kernel
theorem dX11_draw_27 : decode cX11_draw 27 = .ok (.iastore, 1) := by decide +kernel
theorem dX11_draw_28 : decode cX11_draw 28 = .ok (.aload_n 0, 1) := by decide +kernel
theorem dX11_draw_29 : decode cX11_draw 29 = .ok (.getfield 7, 3) := by decide +kernel
theorem dX11_draw_32 : decode cX11_draw 32 = .ok (.bipush 74, 2) := by decide +kernel
theorem dX11_draw_34 : decode cX11_draw 34 = .ok (.iaload, 1) := by decide +kernel
theorem dX11_draw_35 : decode cX11_draw 35 = .ok (.ldc 154, 2) := by decide +kernel
theorem dX11_draw_37 : decode cX11_draw 37 = .ok (.idiv, 1) := by decide +kernel
theorem dX11_draw_38 : decode cX11_draw 38 = .ok (.iload_n 1, 1) := by decide +kernel
theorem dX11_draw_39 : decode cX11_draw 39 = .ok (.irem, 1) := by decide +kernel
theorem dX11_draw_40 : decode cX11_draw 40 = .ok (.ireturn, 1) := by decide +kernel
theorem dX11_turns_0 : decode cX11_turns 0 = .ok (.aload_n 0, 1) := by decide +kernel
theorem dX11_turns_1 : decode cX11_turns 1 = .ok (.getfield 7, 3) := by decide +kernel
theorem dX11_turns_4 : decode cX11_turns 4 = .ok (.bipush 19, 2) := by decide +kernel
theorem dX11_turns_6 : decode cX11_turns 6 = .ok (.iload_n 1, 1) := by decide +kernel
theorem dX11_turns_7 : decode cX11_turns 7 = .ok (.iadd, 1) := by decide +kernel
theorem dX11_turns_8 : decode cX11_turns 8 = .ok (.aload_n 0, 1) := by decide +kernel
theorem dX11_turns_9 : decode cX11_turns 9 = .ok (.getfield 7, 3) := by decide +kernel
theorem dX11_turns_12 : decode cX11_turns 12 = .ok (.bipush 13, 2) := by decide +kernel
theorem dX11_turns_14 : decode cX11_turns 14 = .ok (.iload_n 1, 1) := by decide +kernel
theorem dX11_turns_15 : decode cX11_turns 15 = .ok (.iadd, 1) := by decide +kernel
theorem dX11_turns_16 : decode cX11_turns 16 = .ok (.iaload, 1) := by decide +kernel
theorem dX11_turns_17 : decode cX11_turns 17 = .ok (.iastore, 1) := by decide +kernel
theorem dX11_turns_18 : decode cX11_turns 18 = .ok (.aload_n 0, 1) := by decide +kernel
theorem dX11_turns_19 : decode cX11_turns 19 = .ok (.getfield 7, 3) := by decide +kernel
theorem dX11_turns_22 : decode cX11_turns 22 = .ok (.bipush 31, 2) := by decide +kernel
theorem dX11_turns_24 : decode cX11_turns 24 = .ok (.iload_n 1, 1) := by decide +kernel
theorem dX11_turns_25 : decode cX11_turns 25 = .ok (.iadd, 1) := by decide +kernel
theorem dX11_turns_26 : decode cX11_turns 26 = .ok (.aload_n 0, 1) := by decide +kernel
theorem dX11_turns_27 : decode cX11_turns 27 = .ok (.getfield 7, 3) := by decide +kernel
theorem dX11_turns_30 : decode cX11_turns 30 = .ok (.bipush 25, 2) := by decide +kernel
theorem dX11_turns_32 : decode cX11_turns 32 = .ok (.iload_n 1, 1) := by decide +kernel
theorem dX11_turns_33 : decode cX11_turns 33 = .ok (.iadd, 1) := by decide +kernel
theorem dX11_turns_34 : decode cX11_turns 34 = .ok (.iaload, 1) := by decide +kernel
theorem dX11_turns_35 : decode cX11_turns 35 = .ok (.iastore, 1) := by decide +kernel
theorem dX11_turns_36 : decode cX11_turns 36 = .ok (.aload_n 0, 1) := by decide +kernel
theorem dX11_turns_37 : decode cX11_turns 37 = .ok (.getfield 7, 3) := by decide +kernel
theorem dX11_turns_40 : decode cX11_turns 40 = .ok (.bipush 13, 2) := by decide +kernel
theorem dX11_turns_42 : decode cX11_turns 42 = .ok (.iload_n 1, 1) := by decide +kernel
theorem dX11_turns_43 : decode cX11_turns 43 = .ok (.iadd, 1) := by decide +kernel
theorem dX11_turns_44 : decode cX11_turns 44 = .ok (.aload_n 0, 1) := by decide +kernel
theorem dX11_turns_45 : decode cX11_turns 45 = .ok (.getfield 7, 3) := by decide +kernel
theorem dX11_turns_48 : decode cX11_turns 48 = .ok (.bipush 7, 2) := by decide +kernel
theorem dX11_turns_50 : decode cX11_turns 50 = .ok (.iload_n 1, 1) := by decide +kernel
theorem dX11_turns_51 : decode cX11_turns 51 = .ok (.iadd, 1) := by decide +kernel
theorem dX11_turns_52 : decode cX11_turns 52 = .ok (.iaload, 1) := by decide +kernel
theorem dX11_turns_53 : decode cX11_turns 53 = .ok (.iastore, 1) := by decide +kernel
theorem dX11_turns_54 : decode cX11_turns 54 = .ok (.aload_n 0, 1) := by decide +kernel
theorem dX11_turns_55 : decode cX11_turns 55 = .ok (.getfield 7, 3) := by decide +kernel
theorem dX11_turns_58 : decode cX11_turns 58 = .ok (.bipush 25, 2) := by decide +kernel
theorem dX11_turns_60 : decode cX11_turns 60 = .ok (.iload_n 1, 1) := by decide +kernel
theorem dX11_turns_61 : decode cX11_turns 61 = .ok (.iadd, 1) := by decide +kernel
theorem dX11_turns_62 : decode cX11_turns 62 = .ok (.iload_n 2, 1) := by decide +kernel
theorem dX11_turns_63 : decode cX11_turns 63 = .ok (.iastore, 1) := by decide +kernel
theorem dX11_turns_64 : decode cX11_turns 64 = .ok (.aload_n 0, 1) := by decide +kernel
theorem dX11_turns_65 : decode cX11_turns 65 = .ok (.getfield 7, 3) := by decide +kernel
theorem dX11_turns_68 : decode cX11_turns 68 = .ok (.bipush 7, 2) := by decide +kernel
theorem dX11_turns_70 : decode cX11_turns 70 = .ok (.iload_n 1, 1) := by decide +kernel
theorem dX11_turns_71 : decode cX11_turns 71 = .ok (.iadd, 1) := by decide +kernel
theorem dX11_turns_72 : decode cX11_turns 72 = .ok (.iconst 5, 1) := by decide +kernel
theorem dX11_turns_73 : decode cX11_turns 73 = .ok (.iastore, 1) := by decide +kernel
theorem dX11_turns_74 : decode cX11_turns 74 = .ok (.return_, 1) := by decide +kernel
theorem dX11_year_0 : decode cX11_year 0 = .ok (.aload_n 0, 1) := by decide +kernel
theorem dX11_year_1 : decode cX11_year 1 = .ok (.getfield 7, 3) := by decide +kernel
theorem dX11_year_4 : decode cX11_year 4 = .ok (.bipush 75, 2) := by decide +kernel
theorem dX11_year_6 : decode cX11_year 6 = .ok (.iaload, 1) := by decide +kernel
theorem dX11_year_7 : decode cX11_year 7 = .ok (.sipush 9999, 3) := by decide +kernel
theorem dX11_year_10 : decode cX11_year 10 = .ok (.if_icmp .ne 6, 3) := by decide +kernel
theorem dX11_year_13 : decode cX11_year 13 = .ok (.bipush (-3), 2) := by decide +kernel
theorem dX11_year_15 : decode cX11_year 15 = .ok (.ireturn, 1) := by decide +kernel
theorem dX11_year_16 : decode cX11_year 16 = .ok (.aload_n 0, 1) := by decide +kernel
theorem dX11_year_17 : decode cX11_year 17 = .ok (.getfield 7, 3) := by decide +kernel
theorem dX11_year_20 : decode cX11_year 20 = .ok (.bipush 76, 2) := by decide +kernel
theorem dX11_year_22 : decode cX11_year 22 = .ok (.iconst 0, 1) := by decide +kernel
theorem dX11_year_23 : decode cX11_year 23 = .ok (.iastore, 1) := by decide +kernel
theorem dX11_year_24 : decode cX11_year 24 = .ok (.iconst 0, 1) := by decide +kernel
theorem dX11_year_25 : decode cX11_year 25 = .ok (.istore_n 1, 1) := by decide +kernel
theorem dX11_year_26 : decode cX11_year 26 = .ok (.iload_n 1, 1) := by decide +kernel
theorem dX11_year_27 : decode cX11_year 27 = .ok (.aload_n 0, 1) := by decide +kernel
theorem dX11_year_28 : decode cX11_year 28 = .ok (.getfield 7, 3) := by decide +kernel
theorem dX11_year_31 : decode cX11_year 31 = .ok (.iconst 0, 1) := by decide +kernel
theorem dX11_year_32 : decode cX11_year 32 = .ok (.iaload, 1) := by decide +kernel
theorem dX11_year_33 : decode cX11_year 33 = .ok (.if_icmp .ge 84, 3) := by decide +kernel
theorem dX11_year_36 : decode cX11_year 36 = .ok (.aload_n 0, 1) := by decide +kernel
theorem dX11_year_37 : decode cX11_year 37 = .ok (.getfield 7, 3) := by decide +kernel
theorem dX11_year_40 : decode cX11_year 40 = .ok (.bipush 7, 2) := by decide +kernel
theorem dX11_year_42 : decode cX11_year 42 = .ok (.iload_n 1, 1) := by decide +kernel
theorem dX11_year_43 : decode cX11_year 43 = .ok (.iadd, 1) := by decide +kernel
theorem dX11_year_44 : decode cX11_year 44 = .ok (.iaload, 1) := by decide +kernel
theorem dX11_year_45 : decode cX11_year 45 = .ok (.istore_n 2, 1) := by decide +kernel
theorem dX11_year_46 : decode cX11_year 46 = .ok (.iconst 0, 1) := by decide +kernel
theorem dX11_year_47 : decode cX11_year 47 = .ok (.istore_n 3, 1) := by decide +kernel
theorem dX11_year_48 : decode cX11_year 48 = .ok (.iload_n 2, 1) := by decide +kernel
theorem dX11_year_49 : decode cX11_year 49 = .ok (.iconst 5, 1) := by decide +kernel
theorem dX11_year_50 : decode cX11_year 50 = .ok (.if_icmp .eq 44, 3) := by decide +kernel
theorem dX11_year_53 : decode cX11_year 53 = .ok (.aload_n 0, 1) := by decide +kernel
theorem dX11_year_54 : decode cX11_year 54 = .ok (.bipush 10, 2) := by decide +kernel
theorem dX11_year_56 : decode cX11_year 56 = .ok (.invokevirtual 155, 3) := by decide +kernel
theorem dX11_year_59 : decode cX11_year 59 = .ok (.istore 4, 2) := by decide +kernel
theorem dX11_year_61 : decode cX11_year 61 = .ok (.iload 4, 2) := by decide +kernel
theorem dX11_year_63 : decode cX11_year 63 = .ok (.aload_n 0, 1) := by decide +kernel
theorem dX11_year_64 : decode cX11_year 64 = .ok (.getfield 7, 3) := by decide +kernel
theorem dX11_year_67 : decode cX11_year 67 = .ok (.bipush 59, 2) := by decide +kernel
theorem dX11_year_69 : decode cX11_year 69 = .ok (.iload_n 2, 1) := by decide +kernel
theorem dX11_year_70 : decode cX11_year 70 = .ok (.iadd, 1) := by decide +kernel
theorem dX11_year_71 : decode cX11_year 71 = .ok (.iaload, 1) := by decide +kernel
theorem dX11_year_72 : decode cX11_year 72 = .ok (.if_icmp .ge 20, 3) := by decide +kernel
theorem dX11_year_75 : decode cX11_year 75 = .ok (.aload_n 0, 1) := by decide +kernel
theorem dX11_year_76 : decode cX11_year 76 = .ok (.getfield 7, 3) := by decide +kernel
theorem dX11_year_79 : decode cX11_year 79 = .ok (.bipush 44, 2) := by decide +kernel
theorem dX11_year_81 : decode cX11_year 81 = .ok (.iload_n 2, 1) := by decide +kernel
theorem dX11_year_82 : decode cX11_year 82 = .ok (.iadd, 1) := by decide +kernel
theorem dX11_year_83 : decode cX11_year 83 = .ok (.iaload, 1) := by decide +kernel
theorem dX11_year_84 : decode cX11_year 84 = .ok (.iconst 3, 1) := by decide +kernel
theorem dX11_year_85 : decode cX11_year 85 = .ok (.if_icmp .eq 7, 3) := by decide +kernel
theorem dX11_year_88 : decode cX11_year 88 = .ok (.iconst 1, 1) := by decide +kernel
theorem dX11_year_89 : decode cX11_year 89 = .ok (.goto 4, 3) := by decide +kernel
theorem dX11_year_92 : decode cX11_year 92 = .ok (.iconst 0, 1) := by decide +kernel
theorem dX11_year_93 : decode cX11_year 93 = .ok (.istore_n 3, 1) := by decide +kernel
theorem dX11_year_94 : decode cX11_year 94 = .ok (.aload_n 0, 1) := by decide +kernel
theorem dX11_year_95 : decode cX11_year 95 = .ok (.getfield 7, 3) := by decide +kernel
theorem dX11_year_98 : decode cX11_year 98 = .ok (.bipush 76, 2) := by decide +kernel
theorem dX11_year_100 : decode cX11_year 100 = .ok (.dup2, 1) := by decide +kernel
theorem dX11_year_101 : decode cX11_year 101 = .ok (.iaload, 1) := by decide +kernel
theorem dX11_year_102 : decode cX11_year 102 = .ok (.iload_n 3, 1) := by decide +kernel
theorem dX11_year_103 : decode cX11_year 103 = .ok (.iadd, 1) := by decide +kernel
theorem dX11_year_104 : decode cX11_year 104 = .ok (.iastore, 1) := by decide +kernel
theorem dX11_year_105 : decode cX11_year 105 = .ok (.aload_n 0, 1) := by decide +kernel
theorem dX11_year_106 : decode cX11_year 106 = .ok (.iload_n 1, 1) := by decide +kernel
theorem dX11_year_107 : decode cX11_year 107 = .ok (.iload_n 3, 1) := by decide +kernel
theorem dX11_year_108 : decode cX11_year 108 = .ok (.invokevirtual 158, 3) := by decide +kernel
theorem dX11_year_111 : decode cX11_year 111 = .ok (.iinc 1 1, 3) := by decide +kernel
theorem dX11_year_114 : decode cX11_year 114 = .ok (.goto (-88), 3) := by decide +kernel
theorem dX11_year_117 : decode cX11_year 117 = .ok (.aload_n 0, 1) := by decide +kernel
theorem dX11_year_118 : decode cX11_year 118 = .ok (.getfield 7, 3) := by decide +kernel
theorem dX11_year_121 : decode cX11_year 121 = .ok (.bipush 75, 2) := by decide +kernel
theorem dX11_year_123 : decode cX11_year 123 = .ok (.dup2, 1) := by decide +kernel
theorem dX11_year_124 : decode cX11_year 124 = .ok (.iaload, 1) := by decide +kernel
theorem dX11_year_125 : decode cX11_year 125 = .ok (.iconst 1, 1) := by decide +kernel
theorem dX11_year_126 : decode cX11_year 126 = .ok (.iadd, 1) := by decide +kernel
theorem dX11_year_127 : decode cX11_year 127 = .ok (.iastore, 1) := by decide +kernel
theorem dX11_year_128 : decode cX11_year 128 = .ok (.aload_n 0, 1) := by decide +kernel
theorem dX11_year_129 : decode cX11_year 129 = .ok (.getfield 7, 3) := by decide +kernel
theorem dX11_year_132 : decode cX11_year 132 = .ok (.bipush 76, 2) := by decide +kernel
theorem dX11_year_134 : decode cX11_year 134 = .ok (.iaload, 1) := by decide +kernel
theorem dX11_year_135 : decode cX11_year 135 = .ok (.ireturn, 1) := by decide +kernel
theorem dX11_seed_0 : decode cX11_seed 0 = .ok (.iload_n 1, 1) := by decide +kernel
theorem dX11_seed_1 : decode cX11_seed 1 = .ok (.ifCond .ge 5, 3) := by decide +kernel
theorem dX11_seed_4 : decode cX11_seed 4 = .ok (.iconst (-1), 1) := by decide +kernel
theorem dX11_seed_5 : decode cX11_seed 5 = .ok (.ireturn, 1) := by decide +kernel
theorem dX11_seed_6 : decode cX11_seed 6 = .ok (.aload_n 0, 1) := by decide +kernel
theorem dX11_seed_7 : decode cX11_seed 7 = .ok (.getfield 7, 3) := by decide +kernel
theorem dX11_seed_10 : decode cX11_seed 10 = .ok (.bipush 74, 2) := by decide +kernel
theorem dX11_seed_12 : decode cX11_seed 12 = .ok (.iaload, 1) := by decide +kernel
theorem dX11_seed_13 : decode cX11_seed 13 = .ok (.istore_n 2, 1) := by decide +kernel
theorem dX11_seed_14 : decode cX11_seed 14 = .ok (.aload_n 0, 1) := by decide +kernel
theorem dX11_seed_15 : decode cX11_seed 15 = .ok (.getfield 7, 3) := by decide +kernel
theorem dX11_seed_18 : decode cX11_seed 18 = .ok (.bipush 74, 2) := by decide +kernel
theorem dX11_seed_20 : decode cX11_seed 20 = .ok (.iload_n 1, 1) := by decide +kernel
theorem dX11_seed_21 : decode cX11_seed 21 = .ok (.iastore, 1) := by decide +kernel
theorem dX11_seed_22 : decode cX11_seed 22 = .ok (.iload_n 2, 1) := by decide +kernel
theorem dX11_seed_23 : decode cX11_seed 23 = .ok (.ireturn, 1) := by decide +kernel
theorem dX11_orders_0 : decode cX11_orders 0 = .ok (.iconst 1, 1) := by decide +kernel
theorem dX11_orders_1 : decode cX11_orders 1 = .ok (.istore_n 1, 1) := by decide +kernel
theorem dX11_orders_2 : decode cX11_orders 2 = .ok (.iconst 0, 1) := by decide +kernel
theorem dX11_orders_3 : decode cX11_orders 3 = .ok (.istore_n 2, 1) := by decide +kernel
theorem dX11_orders_4 : decode cX11_orders 4 = .ok (.iload_n 2, 1) := by decide +kernel
theorem dX11_orders_5 : decode cX11_orders 5 = .ok (.aload_n 0, 1) := by decide +kernel
theorem dX11_orders_6 : decode cX11_orders 6 = .ok (.getfield 7, 3) := by decide +kernel
theorem dX11_orders_9 : decode cX11_orders 9 = .ok (.iconst 0, 1) := by decide +kernel
theorem dX11_orders_10 : decode cX11_orders 10 = .ok (.iaload, 1) := by decide +kernel
theorem dX11_orders_11 : decode cX11_orders 11 = .ok (.if_icmp .ge 14, 3) := by decide +kernel
theorem dX11_orders_14 : decode cX11_orders 14 = .ok (.iload_n 1, 1) := by decide +kernel
theorem dX11_orders_15 : decode cX11_orders 15 = .ok (.bipush 6, 2) := by decide +kernel
theorem dX11_orders_17 : decode cX11_orders 17 = .ok (.imul, 1) := by decide +kernel
theorem dX11_orders_18 : decode cX11_orders 18 = .ok (.istore_n 1, 1) := by decide +kernel
theorem dX11_orders_19 : decode cX11_orders 19 = .ok (.iinc 2 1, 3) := by decide +kernel
theorem dX11_orders_22 : decode cX11_orders 22 = .ok (.goto (-18), 3) := by decide +kernel
theorem dX11_orders_25 : decode cX11_orders 25 = .ok (.iload_n 1, 1) := by decide +kernel
theorem dX11_orders_26 : decode cX11_orders 26 = .ok (.ireturn, 1) := by decide +kernel
theorem dX11_layOrder_0 : decode cX11_layOrder 0 = .ok (.iload_n 1, 1) := by decide +kernel
theorem dX11_layOrder_1 : decode cX11_layOrder 1 = .ok (.istore 4, 2) := by decide +kernel
theorem dX11_layOrder_3 : decode cX11_layOrder 3 = .ok (.iconst 0, 1) := by decide +kernel
theorem dX11_layOrder_4 : decode cX11_layOrder 4 = .ok (.istore 5, 2) := by decide +kernel
theorem dX11_layOrder_6 : decode cX11_layOrder 6 = .ok (.aload_n 0, 1) := by decide +kernel
theorem dX11_layOrder_7 : decode cX11_layOrder 7 = .ok (.getfield 7, 3) := by decide +kernel
theorem dX11_layOrder_10 : decode cX11_layOrder 10 = .ok (.iconst 0, 1) := by decide +kernel
theorem dX11_layOrder_11 : decode cX11_layOrder 11 = .ok (.iaload, 1) := by decide +kernel
theorem dX11_layOrder_12 : decode cX11_layOrder 12 = .ok (.iconst 1, 1) := by decide +kernel
theorem dX11_layOrder_13 : decode cX11_layOrder 13 = .ok (.isub, 1) := by decide +kernel
theorem dX11_layOrder_14 : decode cX11_layOrder 14 = .ok (.istore 6, 2) := by decide +kernel
theorem dX11_layOrder_16 : decode cX11_layOrder 16 = .ok (.iload 6, 2) := by decide +kernel
theorem dX11_layOrder_18 : decode cX11_layOrder 18 = .ok (.ifCond .lt 130, 3) := by decide +kernel
theorem dX11_layOrder_21 : decode cX11_layOrder 21 = .ok (.iload 4, 2) := by decide +kernel
theorem dX11_layOrder_23 : decode cX11_layOrder 23 = .ok (.bipush 6, 2) := by decide +kernel
theorem dX11_layOrder_25 : decode cX11_layOrder 25 = .ok (.irem, 1) := by decide +kernel
theorem dX11_layOrder_26 : decode cX11_layOrder 26 = .ok (.istore 7, 2) := by decide +kernel
theorem dX11_layOrder_28 : decode cX11_layOrder 28 = .ok (.iload 4, 2) := by decide +kernel
theorem dX11_layOrder_30 : decode cX11_layOrder 30 = .ok (.bipush 6, 2) := by decide +kernel
theorem dX11_layOrder_32 : decode cX11_layOrder 32 = .ok (.idiv, 1) := by decide +kernel
theorem dX11_layOrder_33 : decode cX11_layOrder 33 = .ok (.istore 4, 2) := by decide +kernel
theorem dX11_layOrder_35 : decode cX11_layOrder 35 = .ok (.aload_n 0, 1) := by decide +kernel
theorem dX11_layOrder_36 : decode cX11_layOrder 36 = .ok (.getfield 19, 3) := by decide +kernel
theorem dX11_layOrder_39 : decode cX11_layOrder 39 = .ok (.iload 6, 2) := by decide +kernel
theorem dX11_layOrder_41 : decode cX11_layOrder 41 = .ok (.iload 7, 2) := by decide +kernel
theorem dX11_layOrder_43 : decode cX11_layOrder 43 = .ok (.iastore, 1) := by decide +kernel
theorem dX11_layOrder_44 : decode cX11_layOrder 44 = .ok (.iload 7, 2) := by decide +kernel
theorem dX11_layOrder_46 : decode cX11_layOrder 46 = .ok (.iconst 5, 1) := by decide +kernel
theorem dX11_layOrder_47 : decode cX11_layOrder 47 = .ok (.if_icmp .eq 95, 3) := by decide +kernel
theorem dX11_layOrder_50 : decode cX11_layOrder 50 = .ok (.aload_n 0, 1) := by decide +kernel
theorem dX11_layOrder_51 : decode cX11_layOrder 51 = .ok (.iload 7, 2) := by decide +kernel
theorem dX11_layOrder_53 : decode cX11_layOrder 53 = .ok (.invokevirtual 71, 3) := by decide +kernel
theorem dX11_layOrder_56 : decode cX11_layOrder 56 = .ok (.ifCond .eq 67, 3) := by decide +kernel
theorem dX11_layOrder_59 : decode cX11_layOrder 59 = .ok (.iload_n 2, 1) := by decide +kernel
theorem dX11_layOrder_60 : decode cX11_layOrder 60 = .ok (.iload 7, 2) := by decide +kernel
theorem dX11_layOrder_62 : decode cX11_layOrder 62 = .ok (.invokestatic 88, 3) := by decide +kernel
theorem dX11_layOrder_65 : decode cX11_layOrder 65 = .ok (.ifCond .eq 58, 3) := by decide +kernel
theorem dX11_layOrder_68 : decode cX11_layOrder 68 = .ok (.aload_n 0, 1) := by decide +kernel
theorem dX11_layOrder_69 : decode cX11_layOrder 69 = .ok (.getfield 7, 3) := by decide +kernel
theorem dX11_layOrder_72 : decode cX11_layOrder 72 = .ok (.bipush 37, 2) := by decide +kernel
theorem dX11_layOrder_74 : decode cX11_layOrder 74 = .ok (.iload 6, 2) := by decide +kernel
theorem dX11_layOrder_76 : decode cX11_layOrder 76 = .ok (.iadd, 1) := by decide +kernel
theorem dX11_layOrder_77 : decode cX11_layOrder 77 = .ok (.iaload, 1) := by decide +kernel
theorem dX11_layOrder_78 : decode cX11_layOrder 78 = .ok (.iload 7, 2) := by decide +kernel
theorem dX11_layOrder_80 : decode cX11_layOrder 80 = .ok (.invokestatic 88, 3) := by decide +kernel
theorem dX11_layOrder_83 : decode cX11_layOrder 83 = .ok (.ifCond .ne 40, 3) := by decide +kernel
theorem dX11_layOrder_86 : decode cX11_layOrder 86 = .ok (.iload_n 3, 1) := by decide +kernel
theorem dX11_layOrder_87 : decode cX11_layOrder 87 = .ok (.iload 6, 2) := by decide +kernel
theorem dX11_layOrder_89 : decode cX11_layOrder 89 = .ok (.invokestatic 88, 3) := by decide +kernel
theorem dX11_layOrder_92 : decode cX11_layOrder 92 = .ok (.ifCond .ne 31, 3) := by decide +kernel
theorem dX11_layOrder_95 : decode cX11_layOrder 95 = .ok (.iload 5, 2) := by decide +kernel
theorem dX11_layOrder_97 : decode cX11_layOrder 97 = .ok (.iload 7, 2) := by decide +kernel
theorem dX11_layOrder_99 : decode cX11_layOrder 99 = .ok (.invokestatic 88, 3) := by decide +kernel
theorem dX11_layOrder_102 : decode cX11_layOrder 102 = .ok (.ifCond .eq 17, 3) := by decide +kernel
theorem dX11_layOrder_105 : decode cX11_layOrder 105 = .ok (.aload_n 0, 1) := by decide +kernel
theorem dX11_layOrder_106 : decode cX11_layOrder 106 = .ok (.getfield 7, 3) := by decide +kernel
theorem dX11_layOrder_109 : decode cX11_layOrder 109 = .ok (.bipush 44, 2) := by decide +kernel
theorem dX11_layOrder_111 : decode cX11_layOrder 111 = .ok (.iload 7, 2) := by decide +kernel
theorem dX11_layOrder_113 : decode cX11_layOrder 113 = .ok (.iadd, 1) := by decide +kernel
theorem dX11_layOrder_114 : decode cX11_layOrder 114 = .ok (.iaload, 1) := by decide +kernel
theorem dX11_layOrder_115 : decode cX11_layOrder 115 = .ok (.iconst 2, 1) := by decide +kernel
theorem dX11_layOrder_116 : decode cX11_layOrder 116 = .ok (.if_icmp .ne 7, 3) := by decide +kernel
theorem dX11_layOrder_119 : decode cX11_layOrder 119 = .ok (.iconst 1, 1) := by decide +kernel
theorem dX11_layOrder_120 : decode cX11_layOrder 120 = .ok (.goto 4, 3) := by decide +kernel
theorem dX11_layOrder_123 : decode cX11_layOrder 123 = .ok (.iconst 0, 1) := by decide +kernel
theorem dX11_layOrder_124 : decode cX11_layOrder 124 = .ok (.istore 8, 2) := by decide +kernel
theorem dX11_layOrder_126 : decode cX11_layOrder 126 = .ok (.iload 8, 2) := by decide +kernel
theorem dX11_layOrder_128 : decode cX11_layOrder 128 = .ok (.ifCond .ne 5, 3) := by decide +kernel
theorem dX11_layOrder_131 : decode cX11_layOrder 131 = .ok (.iconst (-1), 1) := by decide +kernel
theorem dX11_layOrder_132 : decode cX11_layOrder 132 = .ok (.ireturn, 1) := by decide +kernel
theorem dX11_layOrder_133 : decode cX11_layOrder 133 = .ok (.iload 5, 2) := by decide +kernel
theorem dX11_layOrder_135 : decode cX11_layOrder 135 = .ok (.iconst 1, 1) := by decide +kernel
theorem dX11_layOrder_136 : decode cX11_layOrder 136 = .ok (.iload 7, 2) := by decide +kernel
theorem dX11_layOrder_138 : decode cX11_layOrder 138 = .ok (.ishl, 1) := by decide +kernel
theorem dX11_layOrder_139 : decode cX11_layOrder 139 = .ok (.ior, 1) := by decide +kernel
theorem dX11_layOrder_140 : decode cX11_layOrder 140 = .ok (.istore 5, 2) := by decide +kernel
theorem dX11_layOrder_142 : decode cX11_layOrder 142 = .ok (.iinc 6 (-1), 3) := by decide +kernel
theorem dX11_layOrder_145 : decode cX11_layOrder 145 = .ok (.goto (-129), 3) := by decide +kernel
theorem dX11_layOrder_148 : decode cX11_layOrder 148 = .ok (.iload 5, 2) := by decide +kernel
theorem dX11_layOrder_150 : decode cX11_layOrder 150 = .ok (.ireturn, 1) := by decide +kernel
theorem dX11_wagesOf_0 : decode cX11_wagesOf 0 = .ok (.iconst 0, 1) := by decide +kernel
theorem dX11_wagesOf_1 : decode cX11_wagesOf 1 = .ok (.istore_n 2, 1) := by decide +kernel
theorem dX11_wagesOf_2 : decode cX11_wagesOf 2 = .ok (.iconst 0, 1) := by decide +kernel
theorem dX11_wagesOf_3 : decode cX11_wagesOf 3 = .ok (.istore_n 3, 1) := by decide +kernel
theorem dX11_wagesOf_4 : decode cX11_wagesOf 4 = .ok (.iload_n 3, 1) := by decide +kernel
theorem dX11_wagesOf_5 : decode cX11_wagesOf 5 = .ok (.aload_n 0, 1) := by decide +kernel
theorem dX11_wagesOf_6 : decode cX11_wagesOf 6 = .ok (.getfield 7, 3) := by decide +kernel
theorem dX11_wagesOf_9 : decode cX11_wagesOf 9 = .ok (.bipush 43, 2) := by decide +kernel
theorem dX11_wagesOf_11 : decode cX11_wagesOf 11 = .ok (.iaload, 1) := by decide +kernel
theorem dX11_wagesOf_12 : decode cX11_wagesOf 12 = .ok (.if_icmp .ge 33, 3) := by decide +kernel
theorem dX11_wagesOf_15 : decode cX11_wagesOf 15 = .ok (.iload_n 2, 1) := by decide +kernel
theorem dX11_wagesOf_16 : decode cX11_wagesOf 16 = .ok (.iload_n 1, 1) := by decide +kernel
theorem dX11_wagesOf_17 : decode cX11_wagesOf 17 = .ok (.iload_n 3, 1) := by decide +kernel
theorem dX11_wagesOf_18 : decode cX11_wagesOf 18 = .ok (.invokestatic 88, 3) := by decide +kernel
theorem dX11_wagesOf_21 : decode cX11_wagesOf 21 = .ok (.ifCond .eq 15, 3) := by decide +kernel
theorem dX11_wagesOf_24 : decode cX11_wagesOf 24 = .ok (.aload_n 0, 1) := by decide +kernel
theorem dX11_wagesOf_25 : decode cX11_wagesOf 25 = .ok (.getfield 7, 3) := by decide +kernel
theorem dX11_wagesOf_28 : decode cX11_wagesOf 28 = .ok (.bipush 54, 2) := by decide +kernel
theorem dX11_wagesOf_30 : decode cX11_wagesOf 30 = .ok (.iload_n 3, 1) := by decide +kernel
theorem dX11_wagesOf_31 : decode cX11_wagesOf 31 = .ok (.iadd, 1) := by decide +kernel
theorem dX11_wagesOf_32 : decode cX11_wagesOf 32 = .ok (.iaload, 1) := by decide +kernel
theorem dX11_wagesOf_33 : decode cX11_wagesOf 33 = .ok (.goto 4, 3) := by decide +kernel
theorem dX11_wagesOf_36 : decode cX11_wagesOf 36 = .ok (.iconst 0, 1) := by decide +kernel
theorem dX11_wagesOf_37 : decode cX11_wagesOf 37 = .ok (.iadd, 1) := by decide +kernel
theorem dX11_wagesOf_38 : decode cX11_wagesOf 38 = .ok (.istore_n 2, 1) := by decide +kernel
theorem dX11_wagesOf_39 : decode cX11_wagesOf 39 = .ok (.iinc 3 1, 3) := by decide +kernel
theorem dX11_wagesOf_42 : decode cX11_wagesOf 42 = .ok (.goto (-38), 3) := by decide +kernel
theorem dX11_wagesOf_45 : decode cX11_wagesOf 45 = .ok (.iload_n 2, 1) := by decide +kernel
theorem dX11_wagesOf_46 : decode cX11_wagesOf 46 = .ok (.ireturn, 1) := by decide +kernel
theorem dX11_layWorths_0 : decode cX11_layWorths 0 = .ok (.iconst 0, 1) := by decide +kernel
theorem dX11_layWorths_1 : decode cX11_layWorths 1 = .ok (.istore_n 1, 1) := by decide +kernel
theorem dX11_layWorths_2 : decode cX11_layWorths 2 = .ok (.iload_n 1, 1) := by decide +kernel
theorem dX11_layWorths_3 : decode cX11_layWorths 3 = .ok (.aload_n 0, 1) := by decide +kernel
theorem dX11_layWorths_4 : decode cX11_layWorths 4 = .ok (.getfield 7, 3) := by decide +kernel
theorem dX11_layWorths_7 : decode cX11_layWorths 7 = .ok (.iconst 0, 1) := by decide +kernel
theorem dX11_layWorths_8 : decode cX11_layWorths 8 = .ok (.iaload, 1) := by decide +kernel
theorem dX11_layWorths_9 : decode cX11_layWorths 9 = .ok (.if_icmp .ge 58, 3) := by decide +kernel
theorem dX11_layWorths_12 : decode cX11_layWorths 12 = .ok (.iconst 0, 1) := by decide +kernel
theorem dX11_layWorths_13 : decode cX11_layWorths 13 = .ok (.istore_n 2, 1) := by decide +kernel
theorem dX11_layWorths_14 : decode cX11_layWorths 14 = .ok (.iload_n 2, 1) := by decide +kernel
theorem dX11_layWorths_15 : decode cX11_layWorths 15 = .ok (.bipush 6, 2) := by decide +kernel
theorem dX11_layWorths_17 : decode cX11_layWorths 17 = .ok (.if_icmp .ge 44, 3) := by decide +kernel
theorem dX11_layWorths_20 : decode cX11_layWorths 20 = .ok (.aload_n 0, 1) := by decide +kernel
theorem dX11_layWorths_21 : decode cX11_layWorths 21 = .ok (.getfield 22, 3) := by decide +kernel
theorem dX11_layWorths_24 : decode cX11_layWorths 24 = .ok (.bipush 6, 2) := by decide +kernel
theorem dX11_layWorths_26 : decode cX11_layWorths 26 = .ok (.iload_n 1, 1) := by decide +kernel
theorem dX11_layWorths_27 : decode cX11_layWorths 27 = .ok (.imul, 1) := by decide +kernel
theorem dX11_layWorths_28 : decode cX11_layWorths 28 = .ok (.iload_n 2, 1) := by decide +kernel
theorem dX11_layWorths_29 : decode cX11_layWorths 29 = .ok (.iadd, 1) := by decide +kernel
theorem dX11_layWorths_30 : decode cX11_layWorths 30 = .ok (.iload_n 2, 1) := by decide +kernel
theorem dX11_layWorths_31 : decode cX11_layWorths 31 = .ok (.iconst 5, 1) := by decide +kernel
theorem dX11_layWorths_32 : decode cX11_layWorths 32 = .ok (.if_icmp .eq 11, 3) := by decide +kernel
theorem dX11_layWorths_35 : decode cX11_layWorths 35 = .ok (.aload_n 0, 1) := by decide +kernel
theorem dX11_layWorths_36 : decode cX11_layWorths 36 = .ok (.iload_n 2, 1) := by decide +kernel
theorem dX11_layWorths_37 : decode cX11_layWorths 37 = .ok (.invokevirtual 71, 3) := by decide +kernel
theorem dX11_layWorths_40 : decode cX11_layWorths 40 = .ok (.ifCond .eq 13, 3) := by decide +kernel
theorem dX11_layWorths_43 : decode cX11_layWorths 43 = .ok (.aload_n 0, 1) := by decide +kernel
theorem dX11_layWorths_44 : decode cX11_layWorths 44 = .ok (.iload_n 1, 1) := by decide +kernel
theorem dX11_layWorths_45 : decode cX11_layWorths 45 = .ok (.iload_n 2, 1) := by decide +kernel
theorem dX11_layWorths_46 : decode cX11_layWorths 46 = .ok (.iconst 0, 1) := by decide +kernel
theorem dX11_layWorths_47 : decode cX11_layWorths 47 = .ok (.invokevirtual 162, 3) := by decide +kernel
theorem dX11_layWorths_50 : decode cX11_layWorths 50 = .ok (.goto 4, 3) := by decide +kernel
theorem dX11_layWorths_53 : decode cX11_layWorths 53 = .ok (.iconst 0, 1) := by decide +kernel
theorem dX11_layWorths_54 : decode cX11_layWorths 54 = .ok (.iastore, 1) := by decide +kernel
theorem dX11_layWorths_55 : decode cX11_layWorths 55 = .ok (.iinc 2 1, 3) := by decide +kernel
theorem dX11_layWorths_58 : decode cX11_layWorths 58 = .ok (.goto (-44), 3) := by decide +kernel
theorem dX11_layWorths_61 : decode cX11_layWorths 61 = .ok (.iinc 1 1, 3) := by decide +kernel
theorem dX11_layWorths_64 : decode cX11_layWorths 64 = .ok (.goto (-62), 3) := by decide +kernel
theorem dX11_layWorths_67 : decode cX11_layWorths 67 = .ok (.return_, 1) := by decide +kernel
theorem dX11_bestOf_0 : decode cX11_bestOf 0 = .ok (.aload_n 0, 1) := by decide +kernel
theorem dX11_bestOf_1 : decode cX11_bestOf 1 = .ok (.invokevirtual 166, 3) := by decide +kernel
theorem dX11_bestOf_4 : decode cX11_bestOf 4 = .ok (.ldc 169, 2) := by decide +kernel
theorem dX11_bestOf_6 : decode cX11_bestOf 6 = .ok (.istore_n 3, 1) := by decide +kernel
theorem dX11_bestOf_7 : decode cX11_bestOf 7 = .ok (.aload_n 0, 1) := by decide +kernel
theorem dX11_bestOf_8 : decode cX11_bestOf 8 = .ok (.iconst 0, 1) := by decide +kernel
theorem dX11_bestOf_9 : decode cX11_bestOf 9 = .ok (.putfield 170, 3) := by decide +kernel
theorem dX11_bestOf_12 : decode cX11_bestOf 12 = .ok (.iconst 0, 1) := by decide +kernel
theorem dX11_bestOf_13 : decode cX11_bestOf 13 = .ok (.istore 4, 2) := by decide +kernel
theorem dX11_bestOf_15 : decode cX11_bestOf 15 = .ok (.iload 4, 2) := by decide +kernel
theorem dX11_bestOf_17 : decode cX11_bestOf 17 = .ok (.aload_n 0, 1) := by decide +kernel
theorem dX11_bestOf_18 : decode cX11_bestOf 18 = .ok (.invokevirtual 173, 3) := by decide +kernel
theorem dX11_bestOf_21 : decode cX11_bestOf 21 = .ok (.if_icmp .ge 108, 3) := by decide +kernel
theorem dX11_bestOf_24 : decode cX11_bestOf 24 = .ok (.aload_n 0, 1) := by decide +kernel
theorem dX11_bestOf_25 : decode cX11_bestOf 25 = .ok (.iload 4, 2) := by decide +kernel
theorem dX11_bestOf_27 : decode cX11_bestOf 27 = .ok (.iload_n 1, 1) := by decide +kernel
theorem dX11_bestOf_28 : decode cX11_bestOf 28 = .ok (.iload_n 2, 1) := by decide +kernel
theorem dX11_bestOf_29 : decode cX11_bestOf 29 = .ok (.invokevirtual 176, 3) := by decide +kernel
theorem dX11_bestOf_32 : decode cX11_bestOf 32 = .ok (.istore 5, 2) := by decide +kernel
theorem dX11_bestOf_34 : decode cX11_bestOf 34 = .ok (.iload 5, 2) := by decide +kernel
theorem dX11_bestOf_36 : decode cX11_bestOf 36 = .ok (.ifCond .lt 87, 3) := by decide +kernel
theorem dX11_bestOf_39 : decode cX11_bestOf 39 = .ok (.aload_n 0, 1) := by decide +kernel
theorem dX11_bestOf_40 : decode cX11_bestOf 40 = .ok (.iload 5, 2) := by decide +kernel
theorem dX11_bestOf_42 : decode cX11_bestOf 42 = .ok (.invokevirtual 179, 3) := by decide +kernel
theorem dX11_bestOf_45 : decode cX11_bestOf 45 = .ok (.ineg, 1) := by decide +kernel
theorem dX11_bestOf_46 : decode cX11_bestOf 46 = .ok (.istore 6, 2) := by decide +kernel
theorem dX11_bestOf_48 : decode cX11_bestOf 48 = .ok (.iconst 0, 1) := by decide +kernel
theorem dX11_bestOf_49 : decode cX11_bestOf 49 = .ok (.istore 7, 2) := by decide +kernel
theorem dX11_bestOf_51 : decode cX11_bestOf 51 = .ok (.iload 7, 2) := by decide +kernel
theorem dX11_bestOf_53 : decode cX11_bestOf 53 = .ok (.aload_n 0, 1) := by decide +kernel
theorem dX11_bestOf_54 : decode cX11_bestOf 54 = .ok (.getfield 7, 3) := by decide +kernel
theorem dX11_bestOf_57 : decode cX11_bestOf 57 = .ok (.iconst 0, 1) := by decide +kernel
theorem dX11_bestOf_58 : decode cX11_bestOf 58 = .ok (.iaload, 1) := by decide +kernel
theorem dX11_bestOf_59 : decode cX11_bestOf 59 = .ok (.if_icmp .ge 32, 3) := by decide +kernel
theorem dX11_bestOf_62 : decode cX11_bestOf 62 = .ok (.iload 6, 2) := by decide +kernel
theorem dX11_bestOf_64 : decode cX11_bestOf 64 = .ok (.aload_n 0, 1) := by decide +kernel
theorem dX11_bestOf_65 : decode cX11_bestOf 65 = .ok (.getfield 22, 3) := by decide +kernel
theorem dX11_bestOf_68 : decode cX11_bestOf 68 = .ok (.bipush 6, 2) := by decide +kernel
theorem dX11_bestOf_70 : decode cX11_bestOf 70 = .ok (.iload 7, 2) := by decide +kernel
theorem dX11_bestOf_72 : decode cX11_bestOf 72 = .ok (.imul, 1) := by decide +kernel
theorem dX11_bestOf_73 : decode cX11_bestOf 73 = .ok (.aload_n 0, 1) := by decide +kernel
theorem dX11_bestOf_74 : decode cX11_bestOf 74 = .ok (.getfield 19, 3) := by decide +kernel
theorem dX11_bestOf_77 : decode cX11_bestOf 77 = .ok (.iload 7, 2) := by decide +kernel
theorem dX11_bestOf_79 : decode cX11_bestOf 79 = .ok (.iaload, 1) := by decide +kernel
theorem dX11_bestOf_80 : decode cX11_bestOf 80 = .ok (.iadd, 1) := by decide +kernel
theorem dX11_bestOf_81 : decode cX11_bestOf 81 = .ok (.iaload, 1) := by decide +kernel
theorem dX11_bestOf_82 : decode cX11_bestOf 82 = .ok (.iadd, 1) := by decide +kernel
theorem dX11_bestOf_83 : decode cX11_bestOf 83 = .ok (.istore 6, 2) := by decide +kernel
theorem dX11_bestOf_85 : decode cX11_bestOf 85 = .ok (.iinc 7 1, 3) := by decide +kernel
theorem dX11_bestOf_88 : decode cX11_bestOf 88 = .ok (.goto (-37), 3) := by decide +kernel
theorem dX11_bestOf_91 : decode cX11_bestOf 91 = .ok (.aload_n 0, 1) := by decide +kernel
theorem dX11_bestOf_92 : decode cX11_bestOf 92 = .ok (.iload 6, 2) := by decide +kernel
theorem dX11_bestOf_94 : decode cX11_bestOf 94 = .ok (.iload_n 3, 1) := by decide +kernel
theorem dX11_bestOf_95 : decode cX11_bestOf 95 = .ok (.if_icmp .le 8, 3) := by decide +kernel
theorem dX11_bestOf_98 : decode cX11_bestOf 98 = .ok (.iload 4, 2) := by decide +kernel
theorem dX11_bestOf_100 : decode cX11_bestOf 100 = .ok (.goto 7, 3) := by decide +kernel
theorem dX11_bestOf_103 : decode cX11_bestOf 103 = .ok (.aload_n 0, 1) := by decide +kernel
theorem dX11_bestOf_104 : decode cX11_bestOf 104 = .ok (.getfield 170, 3) := by decide +kernel
theorem dX11_bestOf_107 : decode cX11_bestOf 107 = .ok (.putfield 170, 3) := by decide +kernel
theorem dX11_bestOf_110 : decode cX11_bestOf 110 = .ok (.iload 6, 2) := by decide +kernel
theorem dX11_bestOf_112 : decode cX11_bestOf 112 = .ok (.iload_n 3, 1) := by decide +kernel
theorem dX11_bestOf_113 : decode cX11_bestOf 113 = .ok (.if_icmp .le 8, 3) := by decide +kernel
theorem dX11_bestOf_116 : decode cX11_bestOf 116 = .ok (.iload 6, 2) := by decide +kernel
theorem dX11_bestOf_118 : decode cX11_bestOf 118 = .ok (.goto 4, 3) := by decide +kernel
theorem dX11_bestOf_121 : decode cX11_bestOf 121 = .ok (.iload_n 3, 1) := by decide +kernel
theorem dX11_bestOf_122 : decode cX11_bestOf 122 = .ok (.istore_n 3, 1) := by decide +kernel
theorem dX11_bestOf_123 : decode cX11_bestOf 123 = .ok (.iinc 4 1, 3) := by decide +kernel
theorem dX11_bestOf_126 : decode cX11_bestOf 126 = .ok (.goto (-111), 3) := by decide +kernel
theorem dX11_bestOf_129 : decode cX11_bestOf 129 = .ok (.iload_n 3, 1) := by decide +kernel
theorem dX11_bestOf_130 : decode cX11_bestOf 130 = .ok (.ireturn, 1) := by decide +kernel
theorem dX11_everybody_0 : decode cX11_everybody 0 = .ok (.iconst 1, 1) := by decide +kernel
theorem dX11_everybody_1 : decode cX11_everybody 1 = .ok (.aload_n 0, 1) := by decide +kernel
theorem dX11_everybody_2 : decode cX11_everybody 2 = .ok (.getfield 7, 3) := by decide +kernel
theorem dX11_everybody_5 : decode cX11_everybody 5 = .ok (.bipush 43, 2) := by decide +kernel
theorem dX11_everybody_7 : decode cX11_everybody 7 = .ok (.iaload, 1) := by decide +kernel
theorem dX11_everybody_8 : decode cX11_everybody 8 = .ok (.ishl, 1) := by decide +kernel
theorem dX11_everybody_9 : decode cX11_everybody 9 = .ok (.iconst 1, 1) := by decide +kernel
theorem dX11_everybody_10 : decode cX11_everybody 10 = .ok (.isub, 1) := by decide +kernel
theorem dX11_everybody_11 : decode cX11_everybody 11 = .ok (.ireturn, 1) := by decide +kernel
theorem dX11_best_0 : decode cX11_best 0 = .ok (.iload_n 1, 1) := by decide +kernel
theorem dX11_best_1 : decode cX11_best 1 = .ok (.i2l, 1) := by decide +kernel
theorem dX11_best_2 : decode cX11_best 2 = .ok (.ldc2_w 182, 3) := by decide +kernel
theorem dX11_best_5 : decode cX11_best 5 = .ok (.aload_n 0, 1) := by decide +kernel
theorem dX11_best_6 : decode cX11_best 6 = .ok (.getfield 7, 3) := by decide +kernel
theorem dX11_best_9 : decode cX11_best 9 = .ok (.iconst 0, 1) := by decide +kernel
theorem dX11_best_10 : decode cX11_best 10 = .ok (.iaload, 1) := by decide +kernel
theorem dX11_best_11 : decode cX11_best 11 = .ok (.iconst 1, 1) := by decide +kernel
theorem dX11_best_12 : decode cX11_best 12 = .ok (.isub, 1) := by decide +kernel
theorem dX11_best_13 : decode cX11_best 13 = .ok (.i2l, 1) := by decide +kernel
theorem dX11_best_14 : decode cX11_best 14 = .ok (.invokestatic 51, 3) := by decide +kernel
theorem dX11_best_17 : decode cX11_best 17 = .ok (.ifCond .ne 6, 3) := by decide +kernel
theorem dX11_best_20 : decode cX11_best 20 = .ok (.ldc 84, 2) := by decide +kernel
theorem dX11_best_22 : decode cX11_best 22 = .ok (.ireturn, 1) := by decide +kernel
theorem dX11_best_23 : decode cX11_best 23 = .ok (.aload_n 0, 1) := by decide +kernel
theorem dX11_best_24 : decode cX11_best 24 = .ok (.aload_n 0, 1) := by decide +kernel
theorem dX11_best_25 : decode cX11_best 25 = .ok (.invokevirtual 184, 3) := by decide +kernel
theorem dX11_best_28 : decode cX11_best 28 = .ok (.iconst 0, 1) := by decide +kernel
theorem dX11_best_29 : decode cX11_best 29 = .ok (.invokevirtual 187, 3) := by decide +kernel
theorem dX11_best_32 : decode cX11_best 32 = .ok (.istore_n 2, 1) := by decide +kernel
theorem dX11_best_33 : decode cX11_best 33 = .ok (.aload_n 0, 1) := by decide +kernel
theorem dX11_best_34 : decode cX11_best 34 = .ok (.aload_n 0, 1) := by decide +kernel
theorem dX11_best_35 : decode cX11_best 35 = .ok (.getfield 170, 3) := by decide +kernel
theorem dX11_best_38 : decode cX11_best 38 = .ok (.aload_n 0, 1) := by decide +kernel
theorem dX11_best_39 : decode cX11_best 39 = .ok (.invokevirtual 184, 3) := by decide +kernel
theorem dX11_best_42 : decode cX11_best 42 = .ok (.iconst 0, 1) := by decide +kernel
theorem dX11_best_43 : decode cX11_best 43 = .ok (.invokevirtual 176, 3) := by decide +kernel
theorem dX11_best_46 : decode cX11_best 46 = .ok (.pop, 1) := by decide +kernel
theorem dX11_best_47 : decode cX11_best 47 = .ok (.iload_n 1, 1) := by decide +kernel
theorem dX11_best_48 : decode cX11_best 48 = .ok (.ifCond .ge 7, 3) := by decide +kernel
theorem dX11_best_51 : decode cX11_best 51 = .ok (.iload_n 2, 1) := by decide +kernel
theorem dX11_best_52 : decode cX11_best 52 = .ok (.goto 9, 3) := by decide +kernel
theorem dX11_best_55 : decode cX11_best 55 = .ok (.aload_n 0, 1) := by decide +kernel
theorem dX11_best_56 : decode cX11_best 56 = .ok (.getfield 19, 3) := by decide +kernel
theorem dX11_best_59 : decode cX11_best 59 = .ok (.iload_n 1, 1) := by decide +kernel
theorem dX11_best_60 : decode cX11_best 60 = .ok (.iaload, 1) := by decide +kernel
theorem dX11_best_61 : decode cX11_best 61 = .ok (.ireturn, 1) := by decide +kernel
theorem dX11_worth_0 : decode cX11_worth 0 = .ok (.aload_n 0, 1) := by decide +kernel
theorem dX11_worth_1 : decode cX11_worth 1 = .ok (.iload_n 1, 1) := by decide +kernel
theorem dX11_worth_2 : decode cX11_worth 2 = .ok (.invokevirtual 71, 3) := by decide +kernel
theorem dX11_worth_5 : decode cX11_worth 5 = .ok (.ifCond .ne 6, 3) := by decide +kernel
theorem dX11_worth_8 : decode cX11_worth 8 = .ok (.ldc 84, 2) := by decide +kernel
theorem dX11_worth_10 : decode cX11_worth 10 = .ok (.ireturn, 1) := by decide +kernel
theorem dX11_worth_11 : decode cX11_worth 11 = .ok (.aload_n 0, 1) := by decide +kernel
theorem dX11_worth_12 : decode cX11_worth 12 = .ok (.aload_n 0, 1) := by decide +kernel
theorem dX11_worth_13 : decode cX11_worth 13 = .ok (.invokevirtual 184, 3) := by decide +kernel
theorem dX11_worth_16 : decode cX11_worth 16 = .ok (.iconst 0, 1) := by decide +kernel
theorem dX11_worth_17 : decode cX11_worth 17 = .ok (.invokevirtual 187, 3) := by decide +kernel
theorem dX11_worth_20 : decode cX11_worth 20 = .ok (.aload_n 0, 1) := by decide +kernel
theorem dX11_worth_21 : decode cX11_worth 21 = .ok (.aload_n 0, 1) := by decide +kernel
theorem dX11_worth_22 : decode cX11_worth 22 = .ok (.invokevirtual 184, 3) := by decide +kernel
theorem dX11_worth_25 : decode cX11_worth 25 = .ok (.iconst 1, 1) := by decide +kernel
theorem dX11_worth_26 : decode cX11_worth 26 = .ok (.iload_n 1, 1) := by decide +kernel
theorem dX11_worth_27 : decode cX11_worth 27 = .ok (.ishl, 1) := by decide +kernel
theorem dX11_worth_28 : decode cX11_worth 28 = .ok (.iconst (-1), 1) := by decide +kernel
theorem dX11_worth_29 : decode cX11_worth 29 = .ok (.ixor, 1) := by decide +kernel
theorem dX11_worth_30 : decode cX11_worth 30 = .ok (.iand, 1) := by decide +kernel
theorem dX11_worth_31 : decode cX11_worth 31 = .ok (.iconst 0, 1) := by decide +kernel
theorem dX11_worth_32 : decode cX11_worth 32 = .ok (.invokevirtual 187, 3) := by decide +kernel
theorem dX11_worth_35 : decode cX11_worth 35 = .ok (.isub, 1) := by decide +kernel
theorem dX11_worth_36 : decode cX11_worth 36 = .ok (.ireturn, 1) := by decide +kernel
theorem dX11_send_0 : decode cX11_send 0 = .ok (.aload_n 0, 1) := by decide +kernel
theorem dX11_send_1 : decode cX11_send 1 = .ok (.aload_n 0, 1) := by decide +kernel
theorem dX11_send_2 : decode cX11_send 2 = .ok (.invokevirtual 184, 3) := by decide +kernel
theorem dX11_send_5 : decode cX11_send 5 = .ok (.iconst 0, 1) := by decide +kernel
theorem dX11_send_6 : decode cX11_send 6 = .ok (.invokevirtual 187, 3) := by decide +kernel
theorem dX11_send_9 : decode cX11_send 9 = .ok (.istore_n 1, 1) := by decide +kernel
theorem dX11_send_10 : decode cX11_send 10 = .ok (.aload_n 0, 1) := by decide +kernel
theorem dX11_send_11 : decode cX11_send 11 = .ok (.aload_n 0, 1) := by decide +kernel
theorem dX11_send_12 : decode cX11_send 12 = .ok (.getfield 170, 3) := by decide +kernel
theorem dX11_send_15 : decode cX11_send 15 = .ok (.aload_n 0, 1) := by decide +kernel
theorem dX11_send_16 : decode cX11_send 16 = .ok (.invokevirtual 184, 3) := by decide +kernel
theorem dX11_send_19 : decode cX11_send 19 = .ok (.iconst 0, 1) := by decide +kernel
theorem dX11_send_20 : decode cX11_send 20 = .ok (.invokevirtual 176, 3) := by decide +kernel
theorem dX11_send_23 : decode cX11_send 23 = .ok (.pop, 1) := by decide +kernel
theorem dX11_send_24 : decode cX11_send 24 = .ok (.iconst 0, 1) := by decide +kernel
theorem dX11_send_25 : decode cX11_send 25 = .ok (.istore_n 2, 1) := by decide +kernel
theorem dX11_send_26 : decode cX11_send 26 = .ok (.iload_n 2, 1) := by decide +kernel
theorem dX11_send_27 : decode cX11_send 27 = .ok (.aload_n 0, 1) := by decide +kernel
theorem dX11_send_28 : decode cX11_send 28 = .ok (.getfield 7, 3) := by decide +kernel
theorem dX11_send_31 : decode cX11_send 31 = .ok (.iconst 0, 1) := by decide +kernel
theorem dX11_send_32 : decode cX11_send 32 = .ok (.iaload, 1) := by decide +kernel
theorem dX11_send_33 : decode cX11_send 33 = .ok (.if_icmp .ge 24, 3) := by decide +kernel
theorem dX11_send_36 : decode cX11_send 36 = .ok (.aload_n 0, 1) := by decide +kernel
theorem dX11_send_37 : decode cX11_send 37 = .ok (.getfield 7, 3) := by decide +kernel
theorem dX11_send_40 : decode cX11_send 40 = .ok (.bipush 7, 2) := by decide +kernel
theorem dX11_send_42 : decode cX11_send 42 = .ok (.iload_n 2, 1) := by decide +kernel
theorem dX11_send_43 : decode cX11_send 43 = .ok (.iadd, 1) := by decide +kernel
theorem dX11_send_44 : decode cX11_send 44 = .ok (.aload_n 0, 1) := by decide +kernel
theorem dX11_send_45 : decode cX11_send 45 = .ok (.getfield 19, 3) := by decide +kernel
theorem dX11_send_48 : decode cX11_send 48 = .ok (.iload_n 2, 1) := by decide +kernel
theorem dX11_send_49 : decode cX11_send 49 = .ok (.iaload, 1) := by decide +kernel
theorem dX11_send_50 : decode cX11_send 50 = .ok (.iastore, 1) := by decide +kernel
theorem dX11_send_51 : decode cX11_send 51 = .ok (.iinc 2 1, 3) := by decide +kernel
theorem dX11_send_54 : decode cX11_send 54 = .ok (.goto (-28), 3) := by decide +kernel
theorem dX11_send_57 : decode cX11_send 57 = .ok (.iload_n 1, 1) := by decide +kernel
theorem dX11_send_58 : decode cX11_send 58 = .ok (.ireturn, 1) := by decide +kernel
theorem dX11_takenOf_0 : decode cX11_takenOf 0 = .ok (.iload_n 0, 1) := by decide +kernel
theorem dX11_takenOf_1 : decode cX11_takenOf 1 = .ok (.bipush 63, 2) := by decide +kernel
theorem dX11_takenOf_3 : decode cX11_takenOf 3 = .ok (.iand, 1) := by decide +kernel
theorem dX11_takenOf_4 : decode cX11_takenOf 4 = .ok (.ireturn, 1) := by decide +kernel
theorem dX11_usedOf_0 : decode cX11_usedOf 0 = .ok (.iload_n 0, 1) := by decide +kernel
theorem dX11_usedOf_1 : decode cX11_usedOf 1 = .ok (.bipush 6, 2) := by decide +kernel
theorem dX11_usedOf_3 : decode cX11_usedOf 3 = .ok (.ishr, 1) := by decide +kernel
theorem dX11_usedOf_4 : decode cX11_usedOf 4 = .ok (.bipush 31, 2) := by decide +kernel
theorem dX11_usedOf_6 : decode cX11_usedOf 6 = .ok (.iand, 1) := by decide +kernel
theorem dX11_usedOf_7 : decode cX11_usedOf 7 = .ok (.ireturn, 1) := by decide +kernel
