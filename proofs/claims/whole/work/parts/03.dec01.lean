theorem dX0_init_0 : decode cX0_init 0 = .ok (.aload_n 0, 1) := by decide +kernel
theorem dX0_init_1 : decode cX0_init 1 = .ok (.invokespecial 3, 3) := by decide +kernel
theorem dX0_init_4 : decode cX0_init 4 = .ok (.return_, 1) := by decide +kernel
theorem dX0_become_0 : decode cX0_become 0 = .ok (.aload_n 0, 1) := by decide +kernel
theorem dX0_become_1 : decode cX0_become 1 = .ok (.iload_n 1, 1) := by decide +kernel
theorem dX0_become_2 : decode cX0_become 2 = .ok (.putfield 9, 3) := by decide +kernel
theorem dX0_become_5 : decode cX0_become 5 = .ok (.aload_n 0, 1) := by decide +kernel
theorem dX0_become_6 : decode cX0_become 6 = .ok (.iload_n 2, 1) := by decide +kernel
theorem dX0_become_7 : decode cX0_become 7 = .ok (.putfield 15, 3) := by decide +kernel
theorem dX0_become_10 : decode cX0_become 10 = .ok (.aload_n 0, 1) := by decide +kernel
theorem dX0_become_11 : decode cX0_become 11 = .ok (.iload_n 3, 1) := by decide +kernel
theorem dX0_become_12 : decode cX0_become 12 = .ok (.putfield 18, 3) := by decide +kernel
theorem dX0_become_15 : decode cX0_become 15 = .ok (.aload_n 0, 1) := by decide +kernel
theorem dX0_become_16 : decode cX0_become 16 = .ok (.iload 4, 2) := by decide +kernel
theorem dX0_become_18 : decode cX0_become 18 = .ok (.putfield 21, 3) := by decide +kernel
theorem dX0_become_21 : decode cX0_become 21 = .ok (.return_, 1) := by decide +kernel
theorem dX0_trait_0 : decode cX0_trait 0 = .ok (.iload_n 1, 1) := by decide +kernel
theorem dX0_trait_1 : decode cX0_trait 1 = .ok (.tableswitch 51 0 3 #[31, 36, 41, 46], 31) := by decide +kernel
theorem dX0_trait_32 : decode cX0_trait 32 = .ok (.aload_n 0, 1) := by decide +kernel
theorem dX0_trait_33 : decode cX0_trait 33 = .ok (.getfield 9, 3) := by decide +kernel
theorem dX0_trait_36 : decode cX0_trait 36 = .ok (.ireturn, 1) := by decide +kernel
theorem dX0_trait_37 : decode cX0_trait 37 = .ok (.aload_n 0, 1) := by decide +kernel
theorem dX0_trait_38 : decode cX0_trait 38 = .ok (.getfield 15, 3) := by decide +kernel
theorem dX0_trait_41 : decode cX0_trait 41 = .ok (.ireturn, 1) := by decide +kernel
theorem dX0_trait_42 : decode cX0_trait 42 = .ok (.aload_n 0, 1) := by decide +kernel
theorem dX0_trait_43 : decode cX0_trait 43 = .ok (.getfield 18, 3) := by decide +kernel
theorem dX0_trait_46 : decode cX0_trait 46 = .ok (.ireturn, 1) := by decide +kernel
theorem dX0_trait_47 : decode cX0_trait 47 = .ok (.aload_n 0, 1) := by decide +kernel
theorem dX0_trait_48 : decode cX0_trait 48 = .ok (.getfield 21, 3) := by decide +kernel
theorem dX0_trait_51 : decode cX0_trait 51 = .ok (.ireturn, 1) := by decide +kernel
theorem dX0_trait_52 : decode cX0_trait 52 = .ok (.aload_n 0, 1) := by decide +kernel
theorem dX0_trait_53 : decode cX0_trait 53 = .ok (.invokevirtual 24, 3) := by decide +kernel
theorem dX0_trait_56 : decode cX0_trait 56 = .ok (.ireturn, 1) := by decide +kernel
theorem dX0_change_0 : decode cX0_change 0 = .ok (.iload_n 1, 1) := by decide +kernel
theorem dX0_change_1 : decode cX0_change 1 = .ok (.lookupswitch 43 #[(1, 27), (2, 35)], 27) := by decide +kernel
theorem dX0_change_28 : decode cX0_change 28 = .ok (.aload_n 0, 1) := by decide +kernel
theorem dX0_change_29 : decode cX0_change 29 = .ok (.iload_n 2, 1) := by decide +kernel
theorem dX0_change_30 : decode cX0_change 30 = .ok (.putfield 15, 3) := by decide +kernel
theorem dX0_change_33 : decode cX0_change 33 = .ok (.goto 16, 3) := by decide +kernel
theorem dX0_change_36 : decode cX0_change 36 = .ok (.aload_n 0, 1) := by decide +kernel
theorem dX0_change_37 : decode cX0_change 37 = .ok (.iload_n 2, 1) := by decide +kernel
theorem dX0_change_38 : decode cX0_change 38 = .ok (.putfield 18, 3) := by decide +kernel
theorem dX0_change_41 : decode cX0_change 41 = .ok (.goto 8, 3) := by decide +kernel
theorem dX0_change_44 : decode cX0_change 44 = .ok (.aload_n 0, 1) := by decide +kernel
theorem dX0_change_45 : decode cX0_change 45 = .ok (.iload_n 2, 1) := by decide +kernel
theorem dX0_change_46 : decode cX0_change 46 = .ok (.putfield 21, 3) := by decide +kernel
theorem dX0_change_49 : decode cX0_change 49 = .ok (.return_, 1) := by decide +kernel
theorem dX0_brings_0 : decode cX0_brings 0 = .ok (.aload_n 0, 1) := by decide +kernel
theorem dX0_brings_1 : decode cX0_brings 1 = .ok (.getfield 9, 3) := by decide +kernel
theorem dX0_brings_4 : decode cX0_brings 4 = .ok (.iconst 1, 1) := by decide +kernel
theorem dX0_brings_5 : decode cX0_brings 5 = .ok (.if_icmp .eq 11, 3) := by decide +kernel
theorem dX0_brings_8 : decode cX0_brings 8 = .ok (.aload_n 0, 1) := by decide +kernel
theorem dX0_brings_9 : decode cX0_brings 9 = .ok (.getfield 9, 3) := by decide +kernel
theorem dX0_brings_12 : decode cX0_brings 12 = .ok (.iconst 3, 1) := by decide +kernel
theorem dX0_brings_13 : decode cX0_brings 13 = .ok (.if_icmp .ne 13, 3) := by decide +kernel
theorem dX0_brings_16 : decode cX0_brings 16 = .ok (.bipush 10, 2) := by decide +kernel
theorem dX0_brings_18 : decode cX0_brings 18 = .ok (.aload_n 0, 1) := by decide +kernel
theorem dX0_brings_19 : decode cX0_brings 19 = .ok (.getfield 15, 3) := by decide +kernel
theorem dX0_brings_22 : decode cX0_brings 22 = .ok (.isub, 1) := by decide +kernel
theorem dX0_brings_23 : decode cX0_brings 23 = .ok (.goto 7, 3) := by decide +kernel
theorem dX0_brings_26 : decode cX0_brings 26 = .ok (.aload_n 0, 1) := by decide +kernel
theorem dX0_brings_27 : decode cX0_brings 27 = .ok (.getfield 15, 3) := by decide +kernel
theorem dX0_brings_30 : decode cX0_brings 30 = .ok (.ireturn, 1) := by decide +kernel
theorem dX0_isMonk_0 : decode cX0_isMonk 0 = .ok (.aload_n 0, 1) := by decide +kernel
theorem dX0_isMonk_1 : decode cX0_isMonk 1 = .ok (.getfield 9, 3) := by decide +kernel
theorem dX0_isMonk_4 : decode cX0_isMonk 4 = .ok (.iconst 2, 1) := by decide +kernel
theorem dX0_isMonk_5 : decode cX0_isMonk 5 = .ok (.if_icmp .ne 7, 3) := by decide +kernel
theorem dX0_isMonk_8 : decode cX0_isMonk 8 = .ok (.iconst 1, 1) := by decide +kernel
theorem dX0_isMonk_9 : decode cX0_isMonk 9 = .ok (.goto 4, 3) := by decide +kernel
theorem dX0_isMonk_12 : decode cX0_isMonk 12 = .ok (.iconst 0, 1) := by decide +kernel
theorem dX0_isMonk_13 : decode cX0_isMonk 13 = .ok (.ireturn, 1) := by decide +kernel
theorem dX0_fallOdds_0 : decode cX0_fallOdds 0 = .ok (.aload_n 0, 1) := by decide +kernel
theorem dX0_fallOdds_1 : decode cX0_fallOdds 1 = .ok (.getfield 9, 3) := by decide +kernel
theorem dX0_fallOdds_4 : decode cX0_fallOdds 4 = .ok (.iconst 3, 1) := by decide +kernel
theorem dX0_fallOdds_5 : decode cX0_fallOdds 5 = .ok (.if_icmp .ne 7, 3) := by decide +kernel
theorem dX0_fallOdds_8 : decode cX0_fallOdds 8 = .ok (.iconst 0, 1) := by decide +kernel
theorem dX0_fallOdds_9 : decode cX0_fallOdds 9 = .ok (.goto 7, 3) := by decide +kernel
theorem dX0_fallOdds_12 : decode cX0_fallOdds 12 = .ok (.aload_n 0, 1) := by decide +kernel
theorem dX0_fallOdds_13 : decode cX0_fallOdds 13 = .ok (.getfield 21, 3) := by decide +kernel
theorem dX0_fallOdds_16 : decode cX0_fallOdds 16 = .ok (.ireturn, 1) := by decide +kernel
theorem dX7_init_0 : decode cX7_init 0 = .ok (.aload_n 0, 1) := by decide +kernel
theorem dX7_init_1 : decode cX7_init 1 = .ok (.invokespecial 3, 3) := by decide +kernel
theorem dX7_init_4 : decode cX7_init 4 = .ok (.return_, 1) := by decide +kernel
theorem dX7_begin_0 : decode cX7_begin 0 = .ok (.aload_n 0, 1) := by decide +kernel
theorem dX7_begin_1 : decode cX7_begin 1 = .ok (.iload_n 1, 1) := by decide +kernel
theorem dX7_begin_2 : decode cX7_begin 2 = .ok (.putfield 9, 3) := by decide +kernel
theorem dX7_begin_5 : decode cX7_begin 5 = .ok (.aload_n 0, 1) := by decide +kernel
theorem dX7_begin_6 : decode cX7_begin 6 = .ok (.iconst 5, 1) := by decide +kernel
theorem dX7_begin_7 : decode cX7_begin 7 = .ok (.putfield 15, 3) := by decide +kernel
theorem dX7_begin_10 : decode cX7_begin 10 = .ok (.aload_n 0, 1) := by decide +kernel
theorem dX7_begin_11 : decode cX7_begin 11 = .ok (.iload_n 2, 1) := by decide +kernel
theorem dX7_begin_12 : decode cX7_begin 12 = .ok (.putfield 18, 3) := by decide +kernel
theorem dX7_begin_15 : decode cX7_begin 15 = .ok (.aload_n 0, 1) := by decide +kernel
theorem dX7_begin_16 : decode cX7_begin 16 = .ok (.iload_n 3, 1) := by decide +kernel
theorem dX7_begin_17 : decode cX7_begin 17 = .ok (.putfield 21, 3) := by decide +kernel
theorem dX7_begin_20 : decode cX7_begin 20 = .ok (.aload_n 0, 1) := by decide +kernel
theorem dX7_begin_21 : decode cX7_begin 21 = .ok (.iconst 0, 1) := by decide +kernel
theorem dX7_begin_22 : decode cX7_begin 22 = .ok (.putfield 24, 3) := by decide +kernel
theorem dX7_begin_25 : decode cX7_begin 25 = .ok (.aload_n 0, 1) := by decide +kernel
theorem dX7_begin_26 : decode cX7_begin 26 = .ok (.iconst 0, 1) := by decide +kernel
theorem dX7_begin_27 : decode cX7_begin 27 = .ok (.putfield 28, 3) := by decide +kernel
theorem dX7_begin_30 : decode cX7_begin 30 = .ok (.aload_n 0, 1) := by decide +kernel
theorem dX7_begin_31 : decode cX7_begin 31 = .ok (.iconst 0, 1) := by decide +kernel
theorem dX7_begin_32 : decode cX7_begin 32 = .ok (.putfield 31, 3) := by decide +kernel
theorem dX7_begin_35 : decode cX7_begin 35 = .ok (.return_, 1) := by decide +kernel
theorem dX7_becomeCuttingOf_0 : decode cX7_becomeCuttingOf 0 = .ok (.aload_n 0, 1) := by decide +kernel
theorem dX7_becomeCuttingOf_1 : decode cX7_becomeCuttingOf 1 = .ok (.aload_n 1, 1) := by decide +kernel
theorem dX7_becomeCuttingOf_2 : decode cX7_becomeCuttingOf 2 = .ok (.getfield 9, 3) := by decide +kernel
theorem dX7_becomeCuttingOf_5 : decode cX7_becomeCuttingOf 5 = .ok (.aload_n 1, 1) := by decide +kernel
theorem dX7_becomeCuttingOf_6 : decode cX7_becomeCuttingOf 6 = .ok (.getfield 18, 3) := by decide +kernel
theorem dX7_becomeCuttingOf_9 : decode cX7_becomeCuttingOf 9 = .ok (.aload_n 1, 1) := by decide +kernel
theorem dX7_becomeCuttingOf_10 : decode cX7_becomeCuttingOf 10 = .ok (.getfield 21, 3) := by decide +kernel
theorem dX7_becomeCuttingOf_13 : decode cX7_becomeCuttingOf 13 = .ok (.invokevirtual 34, 3) := by decide +kernel
theorem dX7_becomeCuttingOf_16 : decode cX7_becomeCuttingOf 16 = .ok (.aload_n 0, 1) := by decide +kernel
theorem dX7_becomeCuttingOf_17 : decode cX7_becomeCuttingOf 17 = .ok (.aload_n 1, 1) := by decide +kernel
theorem dX7_becomeCuttingOf_18 : decode cX7_becomeCuttingOf 18 = .ok (.getfield 24, 3) := by decide +kernel
theorem dX7_becomeCuttingOf_21 : decode cX7_becomeCuttingOf 21 = .ok (.putfield 24, 3) := by decide +kernel
theorem dX7_becomeCuttingOf_24 : decode cX7_becomeCuttingOf 24 = .ok (.aload_n 0, 1) := by decide +kernel
theorem dX7_becomeCuttingOf_25 : decode cX7_becomeCuttingOf 25 = .ok (.aload_n 1, 1) := by decide +kernel
theorem dX7_becomeCuttingOf_26 : decode cX7_becomeCuttingOf 26 = .ok (.getfield 28, 3) := by decide +kernel
theorem dX7_becomeCuttingOf_29 : decode cX7_becomeCuttingOf 29 = .ok (.putfield 28, 3) := by decide +kernel
theorem dX7_becomeCuttingOf_32 : decode cX7_becomeCuttingOf 32 = .ok (.return_, 1) := by decide +kernel
theorem dX7_become_0 : decode cX7_become 0 = .ok (.aload_n 0, 1) := by decide +kernel
theorem dX7_become_1 : decode cX7_become 1 = .ok (.aload_n 1, 1) := by decide +kernel
theorem dX7_become_2 : decode cX7_become 2 = .ok (.invokevirtual 38, 3) := by decide +kernel
theorem dX7_become_5 : decode cX7_become 5 = .ok (.aload_n 0, 1) := by decide +kernel
theorem dX7_become_6 : decode cX7_become 6 = .ok (.aload_n 1, 1) := by decide +kernel
theorem dX7_become_7 : decode cX7_become 7 = .ok (.getfield 15, 3) := by decide +kernel
theorem dX7_become_10 : decode cX7_become 10 = .ok (.putfield 15, 3) := by decide +kernel
theorem dX7_become_13 : decode cX7_become 13 = .ok (.aload_n 0, 1) := by decide +kernel
theorem dX7_become_14 : decode cX7_become 14 = .ok (.aload_n 1, 1) := by decide +kernel
theorem dX7_become_15 : decode cX7_become 15 = .ok (.getfield 31, 3) := by decide +kernel
theorem dX7_become_18 : decode cX7_become 18 = .ok (.putfield 31, 3) := by decide +kernel
theorem dX7_become_21 : decode cX7_become 21 = .ok (.return_, 1) := by decide +kernel
theorem dX7_mark_0 : decode cX7_mark 0 = .ok (.iload_n 1, 1) := by decide +kernel
theorem dX7_mark_1 : decode cX7_mark 1 = .ok (.tableswitch 85 0 5 #[39, 44, 49, 54, 59, 72], 39) := by decide +kernel
theorem dX7_mark_40 : decode cX7_mark 40 = .ok (.aload_n 0, 1) := by decide +kernel
theorem dX7_mark_41 : decode cX7_mark 41 = .ok (.getfield 9, 3) := by decide +kernel
theorem dX7_mark_44 : decode cX7_mark 44 = .ok (.ireturn, 1) := by decide +kernel
theorem dX7_mark_45 : decode cX7_mark 45 = .ok (.aload_n 0, 1) := by decide +kernel
theorem dX7_mark_46 : decode cX7_mark 46 = .ok (.getfield 15, 3) := by decide +kernel
theorem dX7_mark_49 : decode cX7_mark 49 = .ok (.ireturn, 1) := by decide +kernel
theorem dX7_mark_50 : decode cX7_mark 50 = .ok (.aload_n 0, 1) := by decide +kernel
theorem dX7_mark_51 : decode cX7_mark 51 = .ok (.getfield 18, 3) := by decide +kernel
theorem dX7_mark_54 : decode cX7_mark 54 = .ok (.ireturn, 1) := by decide +kernel
theorem dX7_mark_55 : decode cX7_mark 55 = .ok (.aload_n 0, 1) := by decide +kernel
theorem dX7_mark_56 : decode cX7_mark 56 = .ok (.getfield 21, 3) := by decide +kernel
theorem dX7_mark_59 : decode cX7_mark 59 = .ok (.ireturn, 1) := by decide +kernel
theorem dX7_mark_60 : decode cX7_mark 60 = .ok (.aload_n 0, 1) := by decide +kernel
theorem dX7_mark_61 : decode cX7_mark 61 = .ok (.getfield 24, 3) := by decide +kernel
theorem dX7_mark_64 : decode cX7_mark 64 = .ok (.ifCond .eq 7, 3) := by decide +kernel
theorem dX7_mark_67 : decode cX7_mark 67 = .ok (.iconst 1, 1) := by decide +kernel
theorem dX7_mark_68 : decode cX7_mark 68 = .ok (.goto 4, 3) := by decide +kernel
theorem dX7_mark_71 : decode cX7_mark 71 = .ok (.iconst 0, 1) := by decide +kernel
theorem dX7_mark_72 : decode cX7_mark 72 = .ok (.ireturn, 1) := by decide +kernel
theorem dX7_mark_73 : decode cX7_mark 73 = .ok (.aload_n 0, 1) := by decide +kernel
theorem dX7_mark_74 : decode cX7_mark 74 = .ok (.getfield 28, 3) := by decide +kernel
theorem dX7_mark_77 : decode cX7_mark 77 = .ok (.ifCond .eq 7, 3) := by decide +kernel
theorem dX7_mark_80 : decode cX7_mark 80 = .ok (.iconst 1, 1) := by decide +kernel
theorem dX7_mark_81 : decode cX7_mark 81 = .ok (.goto 4, 3) := by decide +kernel
theorem dX7_mark_84 : decode cX7_mark 84 = .ok (.iconst 0, 1) := by decide +kernel
theorem dX7_mark_85 : decode cX7_mark 85 = .ok (.ireturn, 1) := by decide +kernel
theorem dX7_mark_86 : decode cX7_mark 86 = .ok (.aload_n 0, 1) := by decide +kernel
theorem dX7_mark_87 : decode cX7_mark 87 = .ok (.getfield 31, 3) := by decide +kernel
theorem dX7_mark_90 : decode cX7_mark 90 = .ok (.ireturn, 1) := by decide +kernel
theorem dX7_passYear_0 : decode cX7_passYear 0 = .ok (.aload_n 0, 1) := by decide +kernel
theorem dX7_passYear_1 : decode cX7_passYear 1 = .ok (.aload_n 0, 1) := by decide +kernel
theorem dX7_passYear_2 : decode cX7_passYear 2 = .ok (.getfield 18, 3) := by decide +kernel
theorem dX7_passYear_5 : decode cX7_passYear 5 = .ok (.putfield 21, 3) := by decide +kernel
theorem dX7_passYear_8 : decode cX7_passYear 8 = .ok (.aload_n 0, 1) := by decide +kernel
theorem dX7_passYear_9 : decode cX7_passYear 9 = .ok (.aload_n 0, 1) := by decide +kernel
theorem dX7_passYear_10 : decode cX7_passYear 10 = .ok (.getfield 24, 3) := by decide +kernel
theorem dX7_passYear_13 : decode cX7_passYear 13 = .ok (.putfield 28, 3) := by decide +kernel
theorem dX7_passYear_16 : decode cX7_passYear 16 = .ok (.aload_n 0, 1) := by decide +kernel
theorem dX7_passYear_17 : decode cX7_passYear 17 = .ok (.aload_n 0, 1) := by decide +kernel
theorem dX7_passYear_18 : decode cX7_passYear 18 = .ok (.getfield 15, 3) := by decide +kernel
theorem dX7_passYear_21 : decode cX7_passYear 21 = .ok (.putfield 18, 3) := by decide +kernel
theorem dX7_passYear_24 : decode cX7_passYear 24 = .ok (.aload_n 0, 1) := by decide +kernel
theorem dX7_passYear_25 : decode cX7_passYear 25 = .ok (.iload_n 1, 1) := by decide +kernel
theorem dX7_passYear_26 : decode cX7_passYear 26 = .ok (.putfield 24, 3) := by decide +kernel
theorem dX7_passYear_29 : decode cX7_passYear 29 = .ok (.aload_n 0, 1) := by decide +kernel
theorem dX7_passYear_30 : decode cX7_passYear 30 = .ok (.iconst 5, 1) := by decide +kernel
theorem dX7_passYear_31 : decode cX7_passYear 31 = .ok (.putfield 15, 3) := by decide +kernel
theorem dX7_passYear_34 : decode cX7_passYear 34 = .ok (.return_, 1) := by decide +kernel
theorem dX7_shareOfLast_0 : decode cX7_shareOfLast 0 = .ok (.iload_n 1, 1) := by decide +kernel
theorem dX7_shareOfLast_1 : decode cX7_shareOfLast 1 = .ok (.ifCond .eq 7, 3) := by decide +kernel
theorem dX7_shareOfLast_4 : decode cX7_shareOfLast 4 = .ok (.iconst 1, 1) := by decide +kernel
theorem dX7_shareOfLast_5 : decode cX7_shareOfLast 5 = .ok (.goto 4, 3) := by decide +kernel
theorem dX7_shareOfLast_8 : decode cX7_shareOfLast 8 = .ok (.iconst 2, 1) := by decide +kernel
theorem dX7_shareOfLast_9 : decode cX7_shareOfLast 9 = .ok (.istore_n 2, 1) := by decide +kernel
theorem dX7_shareOfLast_10 : decode cX7_shareOfLast 10 = .ok (.iload_n 0, 1) := by decide +kernel
theorem dX7_shareOfLast_11 : decode cX7_shareOfLast 11 = .ok (.tableswitch 35 1 3 #[25, 29, 33], 25) := by decide +kernel
theorem dX7_shareOfLast_36 : decode cX7_shareOfLast 36 = .ok (.iload_n 2, 1) := by decide +kernel
theorem dX7_shareOfLast_37 : decode cX7_shareOfLast 37 = .ok (.iconst 2, 1) := by decide +kernel
theorem dX7_shareOfLast_38 : decode cX7_shareOfLast 38 = .ok (.idiv, 1) := by decide +kernel
theorem dX7_shareOfLast_39 : decode cX7_shareOfLast 39 = .ok (.ireturn, 1) := by decide +kernel
theorem dX7_shareOfLast_40 : decode cX7_shareOfLast 40 = .ok (.iload_n 2, 1) := by decide +kernel
theorem dX7_shareOfLast_41 : decode cX7_shareOfLast 41 = .ok (.iconst 2, 1) := by decide +kernel
theorem dX7_shareOfLast_42 : decode cX7_shareOfLast 42 = .ok (.imul, 1) := by decide +kernel
theorem dX7_shareOfLast_43 : decode cX7_shareOfLast 43 = .ok (.ireturn, 1) := by decide +kernel
theorem dX7_shareOfLast_44 : decode cX7_shareOfLast 44 = .ok (.iconst 0, 1) := by decide +kernel
theorem dX7_shareOfLast_45 : decode cX7_shareOfLast 45 = .ok (.ireturn, 1) := by decide +kernel
theorem dX7_shareOfLast_46 : decode cX7_shareOfLast 46 = .ok (.iload_n 2, 1) := by decide +kernel
theorem dX7_shareOfLast_47 : decode cX7_shareOfLast 47 = .ok (.ireturn, 1) := by decide +kernel
theorem dX7_shareOfBefore_0 : decode cX7_shareOfBefore 0 = .ok (.iload_n 1, 1) := by decide +kernel
theorem dX7_shareOfBefore_1 : decode cX7_shareOfBefore 1 = .ok (.ifCond .eq 7, 3) := by decide +kernel
theorem dX7_shareOfBefore_4 : decode cX7_shareOfBefore 4 = .ok (.iconst 1, 1) := by decide +kernel
theorem dX7_shareOfBefore_5 : decode cX7_shareOfBefore 5 = .ok (.goto 4, 3) := by decide +kernel
theorem dX7_shareOfBefore_8 : decode cX7_shareOfBefore 8 = .ok (.iconst 2, 1) := by decide +kernel
theorem dX7_shareOfBefore_9 : decode cX7_shareOfBefore 9 = .ok (.istore_n 2, 1) := by decide +kernel
theorem dX7_shareOfBefore_10 : decode cX7_shareOfBefore 10 = .ok (.iload_n 0, 1) := by decide +kernel
theorem dX7_shareOfBefore_11 : decode cX7_shareOfBefore 11 = .ok (.lookupswitch 31 #[(1, 25), (3, 29)], 25) := by decide +kernel
theorem dX7_shareOfBefore_36 : decode cX7_shareOfBefore 36 = .ok (.iload_n 2, 1) := by decide +kernel
theorem dX7_shareOfBefore_37 : decode cX7_shareOfBefore 37 = .ok (.iconst 2, 1) := by decide +kernel
theorem dX7_shareOfBefore_38 : decode cX7_shareOfBefore 38 = .ok (.idiv, 1) := by decide +kernel
theorem dX7_shareOfBefore_39 : decode cX7_shareOfBefore 39 = .ok (.ireturn, 1) := by decide +kernel
theorem dX7_shareOfBefore_40 : decode cX7_shareOfBefore 40 = .ok (.iload_n 2, 1) := by decide +kernel
theorem dX7_shareOfBefore_41 : decode cX7_shareOfBefore 41 = .ok (.ireturn, 1) := by decide +kernel
theorem dX7_shareOfBefore_42 : decode cX7_shareOfBefore 42 = .ok (.iconst 0, 1) := by decide +kernel
theorem dX7_shareOfBefore_43 : decode cX7_shareOfBefore 43 = .ok (.ireturn, 1) := by decide +kernel
theorem dX5_init_0 : decode cX5_init 0 = .ok (.aload_n 0, 1) := by decide +kernel
theorem dX5_init_1 : decode cX5_init 1 = .ok (.invokespecial 3, 3) := by decide +kernel
theorem dX5_init_4 : decode cX5_init 4 = .ok (.aload_n 0, 1) := by decide +kernel
theorem dX5_init_5 : decode cX5_init 5 = .ok (.bipush 16, 2) := by decide +kernel
theorem dX5_init_7 : decode cX5_init 7 = .ok (.newarray .long, 2) := by decide +kernel
theorem dX5_init_9 : decode cX5_init 9 = .ok (.putfield 9, 3) := by decide +kernel
theorem dX5_init_12 : decode cX5_init 12 = .ok (.return_, 1) := by decide +kernel
theorem dX5_begin_0 : decode cX5_begin 0 = .ok (.aload_n 0, 1) := by decide +kernel
theorem dX5_begin_1 : decode cX5_begin 1 = .ok (.getfield 9, 3) := by decide +kernel
theorem dX5_begin_4 : decode cX5_begin 4 = .ok (.lconst 0, 1) := by decide +kernel
theorem dX5_begin_5 : decode cX5_begin 5 = .ok (.invokestatic 15, 3) := by decide +kernel
theorem dX5_begin_8 : decode cX5_begin 8 = .ok (.aload_n 0, 1) := by decide +kernel
theorem dX5_begin_9 : decode cX5_begin 9 = .ok (.iload_n 1, 1) := by decide +kernel
theorem dX5_begin_10 : decode cX5_begin 10 = .ok (.putfield 21, 3) := by decide +kernel
theorem dX5_begin_13 : decode cX5_begin 13 = .ok (.aload_n 0, 1) := by decide +kernel
theorem dX5_begin_14 : decode cX5_begin 14 = .ok (.iload_n 2, 1) := by decide +kernel
theorem dX5_begin_15 : decode cX5_begin 15 = .ok (.putfield 25, 3) := by decide +kernel
theorem dX5_begin_18 : decode cX5_begin 18 = .ok (.aload_n 0, 1) := by decide +kernel
theorem dX5_begin_19 : decode cX5_begin 19 = .ok (.iconst 1, 1) := by decide +kernel
theorem dX5_begin_20 : decode cX5_begin 20 = .ok (.putfield 28, 3) := by decide +kernel
theorem dX5_begin_23 : decode cX5_begin 23 = .ok (.return_, 1) := by decide +kernel
theorem dX5_hasItems_0 : decode cX5_hasItems 0 = .ok (.iload_n 2, 1) := by decide +kernel
theorem dX5_hasItems_1 : decode cX5_hasItems 1 = .ok (.ifCond .lt 29, 3) := by decide +kernel
theorem dX5_hasItems_4 : decode cX5_hasItems 4 = .ok (.iload_n 2, 1) := by decide +kernel
theorem dX5_hasItems_5 : decode cX5_hasItems 5 = .ok (.aload_n 0, 1) := by decide +kernel
theorem dX5_hasItems_6 : decode cX5_hasItems 6 = .ok (.getfield 25, 3) := by decide +kernel
theorem dX5_hasItems_9 : decode cX5_hasItems 9 = .ok (.if_icmp .gt 21, 3) := by decide +kernel
theorem dX5_hasItems_12 : decode cX5_hasItems 12 = .ok (.iload_n 1, 1) := by decide +kernel
theorem dX5_hasItems_13 : decode cX5_hasItems 13 = .ok (.iconst 0, 1) := by decide +kernel
theorem dX5_hasItems_14 : decode cX5_hasItems 14 = .ok (.aload_n 0, 1) := by decide +kernel
theorem dX5_hasItems_15 : decode cX5_hasItems 15 = .ok (.getfield 25, 3) := by decide +kernel
theorem dX5_hasItems_18 : decode cX5_hasItems 18 = .ok (.iload_n 2, 1) := by decide +kernel
theorem dX5_hasItems_19 : decode cX5_hasItems 19 = .ok (.isub, 1) := by decide +kernel
theorem dX5_hasItems_20 : decode cX5_hasItems 20 = .ok (.invokestatic 32, 3) := by decide +kernel
theorem dX5_hasItems_23 : decode cX5_hasItems 23 = .ok (.ifCond .eq 7, 3) := by decide +kernel
theorem dX5_hasItems_26 : decode cX5_hasItems 26 = .ok (.iconst 1, 1) := by decide +kernel
theorem dX5_hasItems_27 : decode cX5_hasItems 27 = .ok (.goto 4, 3) := by decide +kernel
theorem dX5_hasItems_30 : decode cX5_hasItems 30 = .ok (.iconst 0, 1) := by decide +kernel
theorem dX5_hasItems_31 : decode cX5_hasItems 31 = .ok (.ireturn, 1) := by decide +kernel
theorem dX5_put_0 : decode cX5_put 0 = .ok (.aload_n 0, 1) := by decide +kernel
theorem dX5_put_1 : decode cX5_put 1 = .ok (.getfield 21, 3) := by decide +kernel
theorem dX5_put_4 : decode cX5_put 4 = .ok (.tableswitch 66 0 2 #[28, 41, 54], 28) := by decide +kernel
theorem dX5_put_32 : decode cX5_put 32 = .ok (.aload_n 0, 1) := by decide +kernel
theorem dX5_put_33 : decode cX5_put 33 = .ok (.getfield 9, 3) := by decide +kernel
theorem dX5_put_36 : decode cX5_put 36 = .ok (.iload_n 1, 1) := by decide +kernel
theorem dX5_put_37 : decode cX5_put 37 = .ok (.lload_n 2, 1) := by decide +kernel
theorem dX5_put_38 : decode cX5_put 38 = .ok (.l2i, 1) := by decide +kernel
theorem dX5_put_39 : decode cX5_put 39 = .ok (.i2b, 1) := by decide +kernel
theorem dX5_put_40 : decode cX5_put 40 = .ok (.i2l, 1) := by decide +kernel
theorem dX5_put_41 : decode cX5_put 41 = .ok (.lastore, 1) := by decide +kernel
theorem dX5_put_42 : decode cX5_put 42 = .ok (.goto 35, 3) := by decide +kernel
theorem dX5_put_45 : decode cX5_put 45 = .ok (.aload_n 0, 1) := by decide +kernel
theorem dX5_put_46 : decode cX5_put 46 = .ok (.getfield 9, 3) := by decide +kernel
theorem dX5_put_49 : decode cX5_put 49 = .ok (.iload_n 1, 1) := by decide +kernel
theorem dX5_put_50 : decode cX5_put 50 = .ok (.lload_n 2, 1) := by decide +kernel
theorem dX5_put_51 : decode cX5_put 51 = .ok (.l2i, 1) := by decide +kernel
theorem dX5_put_52 : decode cX5_put 52 = .ok (.i2s, 1) := by decide +kernel
theorem dX5_put_53 : decode cX5_put 53 = .ok (.i2l, 1) := by decide +kernel
theorem dX5_put_54 : decode cX5_put 54 = .ok (.lastore, 1) := by decide +kernel
theorem dX5_put_55 : decode cX5_put 55 = .ok (.goto 22, 3) := by decide +kernel
theorem dX5_put_58 : decode cX5_put 58 = .ok (.aload_n 0, 1) := by decide +kernel
theorem dX5_put_59 : decode cX5_put 59 = .ok (.getfield 9, 3) := by decide +kernel
theorem dX5_put_62 : decode cX5_put 62 = .ok (.iload_n 1, 1) := by decide +kernel
theorem dX5_put_63 : decode cX5_put 63 = .ok (.lload_n 2, 1) := by decide +kernel
theorem dX5_put_64 : decode cX5_put 64 = .ok (.l2i, 1) := by decide +kernel
theorem dX5_put_65 : decode cX5_put 65 = .ok (.i2l, 1) := by decide +kernel
theorem dX5_put_66 : decode cX5_put 66 = .ok (.lastore, 1) := by decide +kernel
theorem dX5_put_67 : decode cX5_put 67 = .ok (.goto 10, 3) := by decide +kernel
theorem dX5_put_70 : decode cX5_put 70 = .ok (.aload_n 0, 1) := by decide +kernel
theorem dX5_put_71 : decode cX5_put 71 = .ok (.getfield 9, 3) := by decide +kernel
theorem dX5_put_74 : decode cX5_put 74 = .ok (.iload_n 1, 1) := by decide +kernel
theorem dX5_put_75 : decode cX5_put 75 = .ok (.lload_n 2, 1) := by decide +kernel
theorem dX5_put_76 : decode cX5_put 76 = .ok (.lastore, 1) := by decide +kernel
theorem dX5_put_77 : decode cX5_put 77 = .ok (.return_, 1) := by decide +kernel
theorem dX5_near_0 : decode cX5_near 0 = .ok (.aload_n 0, 1) := by decide +kernel
theorem dX5_near_1 : decode cX5_near 1 = .ok (.getfield 9, 3) := by decide +kernel
theorem dX5_near_4 : decode cX5_near 4 = .ok (.iload_n 1, 1) := by decide +kernel
theorem dX5_near_5 : decode cX5_near 5 = .ok (.laload, 1) := by decide +kernel
theorem dX5_near_6 : decode cX5_near 6 = .ok (.lstore_n 3, 1) := by decide +kernel
theorem dX5_near_7 : decode cX5_near 7 = .ok (.lload_n 3, 1) := by decide +kernel
theorem dX5_near_8 : decode cX5_near 8 = .ok (.lconst 0, 1) := by decide +kernel
theorem dX5_near_9 : decode cX5_near 9 = .ok (.lcmp, 1) := by decide +kernel
theorem dX5_near_10 : decode cX5_near 10 = .ok (.ifCond .ge 7, 3) := by decide +kernel
theorem dX5_near_13 : decode cX5_near 13 = .ok (.iconst (-1), 1) := by decide +kernel
theorem dX5_near_14 : decode cX5_near 14 = .ok (.goto 16, 3) := by decide +kernel
theorem dX5_near_17 : decode cX5_near 17 = .ok (.lload_n 3, 1) := by decide +kernel
theorem dX5_near_18 : decode cX5_near 18 = .ok (.iload_n 2, 1) := by decide +kernel
theorem dX5_near_19 : decode cX5_near 19 = .ok (.i2l, 1) := by decide +kernel
theorem dX5_near_20 : decode cX5_near 20 = .ok (.lcmp, 1) := by decide +kernel
theorem dX5_near_21 : decode cX5_near 21 = .ok (.ifCond .le 7, 3) := by decide +kernel
theorem dX5_near_24 : decode cX5_near 24 = .ok (.iload_n 2, 1) := by decide +kernel
theorem dX5_near_25 : decode cX5_near 25 = .ok (.goto 5, 3) := by decide +kernel
theorem dX5_near_28 : decode cX5_near 28 = .ok (.lload_n 3, 1) := by decide +kernel
theorem dX5_near_29 : decode cX5_near 29 = .ok (.l2i, 1) := by decide +kernel
theorem dX5_near_30 : decode cX5_near 30 = .ok (.ireturn, 1) := by decide +kernel
theorem dX6_init_0 : decode cX6_init 0 = .ok (.aload_n 0, 1) := by decide +kernel
theorem dX6_init_1 : decode cX6_init 1 = .ok (.invokespecial 3, 3) := by decide +kernel
theorem dX6_init_4 : decode cX6_init 4 = .ok (.aload_n 0, 1) := by decide +kernel
theorem dX6_init_5 : decode cX6_init 5 = .ok (.bipush 60, 2) := by decide +kernel
theorem dX6_init_7 : decode cX6_init 7 = .ok (.newarray .int, 2) := by decide +kernel
theorem dX6_init_9 : decode cX6_init 9 = .ok (.putfield 9, 3) := by decide +kernel
theorem dX6_init_12 : decode cX6_init 12 = .ok (.aload_n 0, 1) := by decide +kernel
theorem dX6_init_13 : decode cX6_init 13 = .ok (.bipush 6, 2) := by decide +kernel
theorem dX6_init_15 : decode cX6_init 15 = .ok (.newarray .int, 2) := by decide +kernel
theorem dX6_init_17 : decode cX6_init 17 = .ok (.putfield 15, 3) := by decide +kernel
theorem dX6_init_20 : decode cX6_init 20 = .ok (.aload_n 0, 1) := by decide +kernel
theorem dX6_init_21 : decode cX6_init 21 = .ok (.bipush 6, 2) := by decide +kernel
theorem dX6_init_23 : decode cX6_init 23 = .ok (.newarray .int, 2) := by decide +kernel
theorem dX6_init_25 : decode cX6_init 25 = .ok (.putfield 18, 3) := by decide +kernel
theorem dX6_init_28 : decode cX6_init 28 = .ok (.aload_n 0, 1) := by decide +kernel
theorem dX6_init_29 : decode cX6_init 29 = .ok (.bipush 6, 2) := by decide +kernel
theorem dX6_init_31 : decode cX6_init 31 = .ok (.newarray .int, 2) := by decide +kernel
theorem dX6_init_33 : decode cX6_init 33 = .ok (.putfield 21, 3) := by decide +kernel
theorem dX6_init_36 : decode cX6_init 36 = .ok (.return_, 1) := by decide +kernel
theorem dX6_write_0 : decode cX6_write 0 = .ok (.aload_n 0, 1) := by decide +kernel
theorem dX6_write_1 : decode cX6_write 1 = .ok (.getfield 9, 3) := by decide +kernel
theorem dX6_write_4 : decode cX6_write 4 = .ok (.aload_n 0, 1) := by decide +kernel
theorem dX6_write_5 : decode cX6_write 5 = .ok (.getfield 24, 3) := by decide +kernel
theorem dX6_write_8 : decode cX6_write 8 = .ok (.iload_n 1, 1) := by decide +kernel
theorem dX6_write_9 : decode cX6_write 9 = .ok (.iastore, 1) := by decide +kernel
theorem dX6_write_10 : decode cX6_write 10 = .ok (.aload_n 0, 1) := by decide +kernel
theorem dX6_write_11 : decode cX6_write 11 = .ok (.dup, 1) := by decide +kernel
theorem dX6_write_12 : decode cX6_write 12 = .ok (.getfield 24, 3) := by decide +kernel
theorem dX6_write_15 : decode cX6_write 15 = .ok (.iconst 1, 1) := by decide +kernel
theorem dX6_write_16 : decode cX6_write 16 = .ok (.iadd, 1) := by decide +kernel
theorem dX6_write_17 : decode cX6_write 17 = .ok (.putfield 24, 3) := by decide +kernel
theorem dX6_write_20 : decode cX6_write 20 = .ok (.aload_n 0, 1) := by decide +kernel
theorem dX6_write_21 : decode cX6_write 21 = .ok (.getfield 24, 3) := by decide +kernel
theorem dX6_write_24 : decode cX6_write 24 = .ok (.ireturn, 1) := by decide +kernel
theorem dX6_parse_0 : decode cX6_parse 0 = .ok (.aload_n 0, 1) := by decide +kernel
theorem dX6_parse_1 : decode cX6_parse 1 = .ok (.iconst 0, 1) := by decide +kernel
theorem dX6_parse_2 : decode cX6_parse 2 = .ok (.putfield 28, 3) := by decide +kernel
theorem dX6_parse_5 : decode cX6_parse 5 = .ok (.iconst 1, 1) := by decide +kernel
theorem dX6_parse_6 : decode cX6_parse 6 = .ok (.istore_n 2, 1) := by decide +kernel
theorem dX6_parse_7 : decode cX6_parse 7 = .ok (.iload_n 2, 1) := by decide +kernel
theorem dX6_parse_8 : decode cX6_parse 8 = .ok (.bipush 6, 2) := by decide +kernel
theorem dX6_parse_10 : decode cX6_parse 10 = .ok (.if_icmp .gt 63, 3) := by decide +kernel
theorem dX6_parse_13 : decode cX6_parse 13 = .ok (.aload_n 0, 1) := by decide +kernel
theorem dX6_parse_14 : decode cX6_parse 14 = .ok (.iload_n 2, 1) := by decide +kernel
theorem dX6_parse_15 : decode cX6_parse 15 = .ok (.iconst 1, 1) := by decide +kernel
theorem dX6_parse_16 : decode cX6_parse 16 = .ok (.isub, 1) := by decide +kernel
theorem dX6_parse_17 : decode cX6_parse 17 = .ok (.iload_n 1, 1) := by decide +kernel
theorem dX6_parse_18 : decode cX6_parse 18 = .ok (.invokevirtual 31, 3) := by decide +kernel
theorem dX6_parse_21 : decode cX6_parse 21 = .ok (.ifCond .eq 52, 3) := by decide +kernel
theorem dX6_parse_24 : decode cX6_parse 24 = .ok (.aload_n 0, 1) := by decide +kernel
theorem dX6_parse_25 : decode cX6_parse 25 = .ok (.invokevirtual 35, 3) := by decide +kernel
theorem dX6_parse_28 : decode cX6_parse 28 = .ok (.istore_n 3, 1) := by decide +kernel
theorem dX6_parse_29 : decode cX6_parse 29 = .ok (.aload_n 0, 1) := by decide +kernel
theorem dX6_parse_30 : decode cX6_parse 30 = .ok (.getfield 28, 3) := by decide +kernel
theorem dX6_parse_33 : decode cX6_parse 33 = .ok (.aload_n 0, 1) := by decide +kernel
theorem dX6_parse_34 : decode cX6_parse 34 = .ok (.getfield 24, 3) := by decide +kernel
theorem dX6_parse_37 : decode cX6_parse 37 = .ok (.if_icmp .ne 5, 3) := by decide +kernel
theorem dX6_parse_40 : decode cX6_parse 40 = .ok (.iload_n 2, 1) := by decide +kernel
theorem dX6_parse_41 : decode cX6_parse 41 = .ok (.ireturn, 1) := by decide +kernel
theorem dX6_parse_42 : decode cX6_parse 42 = .ok (.iload_n 3, 1) := by decide +kernel
theorem dX6_parse_43 : decode cX6_parse 43 = .ok (.bipush 44, 2) := by decide +kernel
theorem dX6_parse_45 : decode cX6_parse 45 = .ok (.if_icmp .ne 28, 3) := by decide +kernel
theorem dX6_parse_48 : decode cX6_parse 48 = .ok (.iload_n 2, 1) := by decide +kernel
theorem dX6_parse_49 : decode cX6_parse 49 = .ok (.bipush 6, 2) := by decide +kernel
theorem dX6_parse_51 : decode cX6_parse 51 = .ok (.if_icmp .ne 6, 3) := by decide +kernel
theorem dX6_parse_54 : decode cX6_parse 54 = .ok (.goto 19, 3) := by decide +kernel
theorem dX6_parse_57 : decode cX6_parse 57 = .ok (.aload_n 0, 1) := by decide +kernel
theorem dX6_parse_58 : decode cX6_parse 58 = .ok (.dup, 1) := by decide +kernel
theorem dX6_parse_59 : decode cX6_parse 59 = .ok (.getfield 28, 3) := by decide +kernel
theorem dX6_parse_62 : decode cX6_parse 62 = .ok (.iconst 1, 1) := by decide +kernel
theorem dX6_parse_63 : decode cX6_parse 63 = .ok (.iadd, 1) := by decide +kernel
theorem dX6_parse_64 : decode cX6_parse 64 = .ok (.putfield 28, 3) := by decide +kernel
theorem dX6_parse_67 : decode cX6_parse 67 = .ok (.iinc 2 1, 3) := by decide +kernel
theorem dX6_parse_70 : decode cX6_parse 70 = .ok (.goto (-63), 3) := by decide +kernel
theorem dX6_parse_73 : decode cX6_parse 73 = .ok (.bipush (-20), 2) := by decide +kernel
theorem dX6_parse_75 : decode cX6_parse 75 = .ok (.aload_n 0, 1) := by decide +kernel
theorem dX6_parse_76 : decode cX6_parse 76 = .ok (.getfield 28, 3) := by decide +kernel
theorem dX6_parse_79 : decode cX6_parse 79 = .ok (.isub, 1) := by decide +kernel
theorem dX6_parse_80 : decode cX6_parse 80 = .ok (.ireturn, 1) := by decide +kernel
theorem dX6_parseTree_0 : decode cX6_parseTree 0 = .ok (.ldc 39, 2) := by decide +kernel
theorem dX6_parseTree_2 : decode cX6_parseTree 2 = .ok (.aload_n 0, 1) := by decide +kernel
theorem dX6_parseTree_3 : decode cX6_parseTree 3 = .ok (.invokevirtual 35, 3) := by decide +kernel
theorem dX6_parseTree_6 : decode cX6_parseTree 6 = .ok (.i2c, 1) := by decide +kernel
theorem dX6_parseTree_7 : decode cX6_parseTree 7 = .ok (.invokevirtual 41, 3) := by decide +kernel
theorem dX6_parseTree_10 : decode cX6_parseTree 10 = .ok (.istore_n 3, 1) := by decide +kernel
theorem dX6_parseTree_11 : decode cX6_parseTree 11 = .ok (.iload_n 3, 1) := by decide +kernel
theorem dX6_parseTree_12 : decode cX6_parseTree 12 = .ok (.ifCond .ge 5, 3) := by decide +kernel
theorem dX6_parseTree_15 : decode cX6_parseTree 15 = .ok (.iconst 0, 1) := by decide +kernel
theorem dX6_parseTree_16 : decode cX6_parseTree 16 = .ok (.ireturn, 1) := by decide +kernel
theorem dX6_parseTree_17 : decode cX6_parseTree 17 = .ok (.aload_n 0, 1) := by decide +kernel
theorem dX6_parseTree_18 : decode cX6_parseTree 18 = .ok (.dup, 1) := by decide +kernel
theorem dX6_parseTree_19 : decode cX6_parseTree 19 = .ok (.getfield 28, 3) := by decide +kernel
theorem dX6_parseTree_22 : decode cX6_parseTree 22 = .ok (.iconst 1, 1) := by decide +kernel
theorem dX6_parseTree_23 : decode cX6_parseTree 23 = .ok (.iadd, 1) := by decide +kernel
theorem dX6_parseTree_24 : decode cX6_parseTree 24 = .ok (.putfield 28, 3) := by decide +kernel
theorem dX6_parseTree_27 : decode cX6_parseTree 27 = .ok (.aload_n 0, 1) := by decide +kernel
theorem dX6_parseTree_28 : decode cX6_parseTree 28 = .ok (.getfield 15, 3) := by decide +kernel
theorem dX6_parseTree_31 : decode cX6_parseTree 31 = .ok (.iload_n 1, 1) := by decide +kernel
theorem dX6_parseTree_32 : decode cX6_parseTree 32 = .ok (.iload_n 3, 1) := by decide +kernel
theorem dX6_parseTree_33 : decode cX6_parseTree 33 = .ok (.iastore, 1) := by decide +kernel
theorem dX6_parseTree_34 : decode cX6_parseTree 34 = .ok (.aload_n 0, 1) := by decide +kernel
theorem dX6_parseTree_35 : decode cX6_parseTree 35 = .ok (.getfield 18, 3) := by decide +kernel
theorem dX6_parseTree_38 : decode cX6_parseTree 38 = .ok (.iload_n 1, 1) := by decide +kernel
theorem dX6_parseTree_39 : decode cX6_parseTree 39 = .ok (.aload_n 0, 1) := by decide +kernel
theorem dX6_parseTree_40 : decode cX6_parseTree 40 = .ok (.iload_n 2, 1) := by decide +kernel
theorem dX6_parseTree_41 : decode cX6_parseTree 41 = .ok (.invokevirtual 47, 3) := by decide +kernel
theorem dX6_parseTree_44 : decode cX6_parseTree 44 = .ok (.iastore, 1) := by decide +kernel
theorem dX6_parseTree_45 : decode cX6_parseTree 45 = .ok (.aload_n 0, 1) := by decide +kernel
theorem dX6_parseTree_46 : decode cX6_parseTree 46 = .ok (.getfield 21, 3) := by decide +kernel
theorem dX6_parseTree_49 : decode cX6_parseTree 49 = .ok (.iload_n 1, 1) := by decide +kernel
theorem dX6_parseTree_50 : decode cX6_parseTree 50 = .ok (.aload_n 0, 1) := by decide +kernel
theorem dX6_parseTree_51 : decode cX6_parseTree 51 = .ok (.iload_n 2, 1) := by decide +kernel
theorem dX6_parseTree_52 : decode cX6_parseTree 52 = .ok (.invokevirtual 47, 3) := by decide +kernel
theorem dX6_parseTree_55 : decode cX6_parseTree 55 = .ok (.iastore, 1) := by decide +kernel
theorem dX6_parseTree_56 : decode cX6_parseTree 56 = .ok (.iconst 1, 1) := by decide +kernel
theorem dX6_parseTree_57 : decode cX6_parseTree 57 = .ok (.ireturn, 1) := by decide +kernel
theorem dX6_parseClimber_0 : decode cX6_parseClimber 0 = .ok (.aload_n 0, 1) := by decide +kernel
theorem dX6_parseClimber_1 : decode cX6_parseClimber 1 = .ok (.invokevirtual 35, 3) := by decide +kernel
theorem dX6_parseClimber_4 : decode cX6_parseClimber 4 = .ok (.bipush 97, 2) := by decide +kernel
theorem dX6_parseClimber_6 : decode cX6_parseClimber 6 = .ok (.isub, 1) := by decide +kernel
theorem dX6_parseClimber_7 : decode cX6_parseClimber 7 = .ok (.istore_n 2, 1) := by decide +kernel
theorem dX6_parseClimber_8 : decode cX6_parseClimber 8 = .ok (.iload_n 2, 1) := by decide +kernel
theorem dX6_parseClimber_9 : decode cX6_parseClimber 9 = .ok (.iconst 5, 1) := by decide +kernel
theorem dX6_parseClimber_10 : decode cX6_parseClimber 10 = .ok (.if_icmp .eq 16, 3) := by decide +kernel
theorem dX6_parseClimber_13 : decode cX6_parseClimber 13 = .ok (.iload_n 2, 1) := by decide +kernel
theorem dX6_parseClimber_14 : decode cX6_parseClimber 14 = .ok (.iconst 0, 1) := by decide +kernel
theorem dX6_parseClimber_15 : decode cX6_parseClimber 15 = .ok (.iload_n 1, 1) := by decide +kernel
theorem dX6_parseClimber_16 : decode cX6_parseClimber 16 = .ok (.iconst 1, 1) := by decide +kernel
theorem dX6_parseClimber_17 : decode cX6_parseClimber 17 = .ok (.isub, 1) := by decide +kernel
theorem dX6_parseClimber_18 : decode cX6_parseClimber 18 = .ok (.invokestatic 50, 3) := by decide +kernel
theorem dX6_parseClimber_21 : decode cX6_parseClimber 21 = .ok (.ifCond .ne 5, 3) := by decide +kernel
theorem dX6_parseClimber_24 : decode cX6_parseClimber 24 = .ok (.iconst 5, 1) := by decide +kernel
theorem dX6_parseClimber_25 : decode cX6_parseClimber 25 = .ok (.ireturn, 1) := by decide +kernel
theorem dX6_parseClimber_26 : decode cX6_parseClimber 26 = .ok (.aload_n 0, 1) := by decide +kernel
theorem dX6_parseClimber_27 : decode cX6_parseClimber 27 = .ok (.dup, 1) := by decide +kernel
theorem dX6_parseClimber_28 : decode cX6_parseClimber 28 = .ok (.getfield 28, 3) := by decide +kernel
theorem dX6_parseClimber_31 : decode cX6_parseClimber 31 = .ok (.iconst 1, 1) := by decide +kernel
theorem dX6_parseClimber_32 : decode cX6_parseClimber 32 = .ok (.iadd, 1) := by decide +kernel
theorem dX6_parseClimber_33 : decode cX6_parseClimber 33 = .ok (.putfield 28, 3) := by decide +kernel
theorem dX6_parseClimber_36 : decode cX6_parseClimber 36 = .ok (.iload_n 2, 1) := by decide +kernel
theorem dX6_parseClimber_37 : decode cX6_parseClimber 37 = .ok (.ireturn, 1) := by decide +kernel
theorem dX6_peek_0 : decode cX6_peek 0 = .ok (.aload_n 0, 1) := by decide +kernel
theorem dX6_peek_1 : decode cX6_peek 1 = .ok (.getfield 28, 3) := by decide +kernel
theorem dX6_peek_4 : decode cX6_peek 4 = .ok (.aload_n 0, 1) := by decide +kernel
theorem dX6_peek_5 : decode cX6_peek 5 = .ok (.getfield 24, 3) := by decide +kernel
theorem dX6_peek_8 : decode cX6_peek 8 = .ok (.if_icmp .ge 30, 3) := by decide +kernel
theorem dX6_peek_11 : decode cX6_peek 11 = .ok (.aload_n 0, 1) := by decide +kernel
theorem dX6_peek_12 : decode cX6_peek 12 = .ok (.getfield 9, 3) := by decide +kernel
theorem dX6_peek_15 : decode cX6_peek 15 = .ok (.aload_n 0, 1) := by decide +kernel
theorem dX6_peek_16 : decode cX6_peek 16 = .ok (.getfield 28, 3) := by decide +kernel
theorem dX6_peek_19 : decode cX6_peek 19 = .ok (.iaload, 1) := by decide +kernel
theorem dX6_peek_20 : decode cX6_peek 20 = .ok (.bipush 32, 2) := by decide +kernel
theorem dX6_peek_22 : decode cX6_peek 22 = .ok (.if_icmp .ne 16, 3) := by decide +kernel
theorem dX6_peek_25 : decode cX6_peek 25 = .ok (.aload_n 0, 1) := by decide +kernel
theorem dX6_peek_26 : decode cX6_peek 26 = .ok (.dup, 1) := by decide +kernel
theorem dX6_peek_27 : decode cX6_peek 27 = .ok (.getfield 28, 3) := by decide +kernel
theorem dX6_peek_30 : decode cX6_peek 30 = .ok (.iconst 1, 1) := by decide +kernel
theorem dX6_peek_31 : decode cX6_peek 31 = .ok (.iadd, 1) := by decide +kernel
theorem dX6_peek_32 : decode cX6_peek 32 = .ok (.putfield 28, 3) := by decide +kernel
theorem dX6_peek_35 : decode cX6_peek 35 = .ok (.goto (-35), 3) := by decide +kernel
theorem dX6_peek_38 : decode cX6_peek 38 = .ok (.aload_n 0, 1) := by decide +kernel
theorem dX6_peek_39 : decode cX6_peek 39 = .ok (.getfield 28, 3) := by decide +kernel
theorem dX6_peek_42 : decode cX6_peek 42 = .ok (.aload_n 0, 1) := by decide +kernel
theorem dX6_peek_43 : decode cX6_peek 43 = .ok (.getfield 24, 3) := by decide +kernel
theorem dX6_peek_46 : decode cX6_peek 46 = .ok (.if_icmp .ge 15, 3) := by decide +kernel
theorem dX6_peek_49 : decode cX6_peek 49 = .ok (.aload_n 0, 1) := by decide +kernel
theorem dX6_peek_50 : decode cX6_peek 50 = .ok (.getfield 9, 3) := by decide +kernel
theorem dX6_peek_53 : decode cX6_peek 53 = .ok (.aload_n 0, 1) := by decide +kernel
theorem dX6_peek_54 : decode cX6_peek 54 = .ok (.getfield 28, 3) := by decide +kernel
theorem dX6_peek_57 : decode cX6_peek 57 = .ok (.iaload, 1) := by decide +kernel
theorem dX6_peek_58 : decode cX6_peek 58 = .ok (.goto 4, 3) := by decide +kernel
theorem dX6_peek_61 : decode cX6_peek 61 = .ok (.iconst 0, 1) := by decide +kernel
theorem dX6_peek_62 : decode cX6_peek 62 = .ok (.ireturn, 1) := by decide +kernel
theorem dX6_plantAll_0 : decode cX6_plantAll 0 = .ok (.iconst 0, 1) := by decide +kernel
theorem dX6_plantAll_1 : decode cX6_plantAll 1 = .ok (.istore_n 3, 1) := by decide +kernel
theorem dX6_plantAll_2 : decode cX6_plantAll 2 = .ok (.iload_n 3, 1) := by decide +kernel
theorem dX6_plantAll_3 : decode cX6_plantAll 3 = .ok (.iload_n 2, 1) := by decide +kernel
theorem dX6_plantAll_4 : decode cX6_plantAll 4 = .ok (.if_icmp .ge 36, 3) := by decide +kernel
theorem dX6_plantAll_7 : decode cX6_plantAll 7 = .ok (.aload_n 1, 1) := by decide +kernel
theorem dX6_plantAll_8 : decode cX6_plantAll 8 = .ok (.getfield 54, 3) := by decide +kernel
theorem dX6_plantAll_11 : decode cX6_plantAll 11 = .ok (.iload_n 3, 1) := by decide +kernel
theorem dX6_plantAll_12 : decode cX6_plantAll 12 = .ok (.aaload, 1) := by decide +kernel
theorem dX6_plantAll_13 : decode cX6_plantAll 13 = .ok (.aload_n 0, 1) := by decide +kernel
theorem dX6_plantAll_14 : decode cX6_plantAll 14 = .ok (.getfield 15, 3) := by decide +kernel
theorem dX6_plantAll_17 : decode cX6_plantAll 17 = .ok (.iload_n 3, 1) := by decide +kernel
theorem dX6_plantAll_18 : decode cX6_plantAll 18 = .ok (.iaload, 1) := by decide +kernel
theorem dX6_plantAll_19 : decode cX6_plantAll 19 = .ok (.aload_n 0, 1) := by decide +kernel
theorem dX6_plantAll_20 : decode cX6_plantAll 20 = .ok (.getfield 18, 3) := by decide +kernel
theorem dX6_plantAll_23 : decode cX6_plantAll 23 = .ok (.iload_n 3, 1) := by decide +kernel
theorem dX6_plantAll_24 : decode cX6_plantAll 24 = .ok (.iaload, 1) := by decide +kernel
theorem dX6_plantAll_25 : decode cX6_plantAll 25 = .ok (.aload_n 0, 1) := by decide +kernel
theorem dX6_plantAll_26 : decode cX6_plantAll 26 = .ok (.getfield 21, 3) := by decide +kernel
theorem dX6_plantAll_29 : decode cX6_plantAll 29 = .ok (.iload_n 3, 1) := by decide +kernel
theorem dX6_plantAll_30 : decode cX6_plantAll 30 = .ok (.iaload, 1) := by decide +kernel
theorem dX6_plantAll_31 : decode cX6_plantAll 31 = .ok (.invokevirtual 60, 3) := by decide +kernel
theorem dX6_plantAll_34 : decode cX6_plantAll 34 = .ok (.iinc 3 1, 3) := by decide +kernel
theorem dX6_plantAll_37 : decode cX6_plantAll 37 = .ok (.goto (-35), 3) := by decide +kernel
theorem dX6_plantAll_40 : decode cX6_plantAll 40 = .ok (.aload_n 1, 1) := by decide +kernel
theorem dX6_plantAll_41 : decode cX6_plantAll 41 = .ok (.iload_n 2, 1) := by decide +kernel
theorem dX6_plantAll_42 : decode cX6_plantAll 42 = .ok (.putfield 66, 3) := by decide +kernel
theorem dX6_plantAll_45 : decode cX6_plantAll 45 = .ok (.return_, 1) := by decide +kernel
theorem dX1_init_0 : decode cX1_init 0 = .ok (.aload_n 0, 1) := by decide +kernel
theorem dX1_init_1 : decode cX1_init 1 = .ok (.invokespecial 3, 3) := by decide +kernel
theorem dX1_init_4 : decode cX1_init 4 = .ok (.aload_n 0, 1) := by decide +kernel
theorem dX1_init_5 : decode cX1_init 5 = .ok (.bipush 6, 2) := by decide +kernel
theorem dX1_init_7 : decode cX1_init 7 = .ok (.anewarray 9, 3) := by decide +kernel
theorem dX1_init_10 : decode cX1_init 10 = .ok (.putfield 11, 3) := by decide +kernel
theorem dX1_init_13 : decode cX1_init 13 = .ok (.aload_n 0, 1) := by decide +kernel
theorem dX1_init_14 : decode cX1_init 14 = .ok (.iconst 5, 1) := by decide +kernel
theorem dX1_init_15 : decode cX1_init 15 = .ok (.anewarray 17, 3) := by decide +kernel
theorem dX1_init_18 : decode cX1_init 18 = .ok (.putfield 19, 3) := by decide +kernel
theorem dX1_init_21 : decode cX1_init 21 = .ok (.aload_n 0, 1) := by decide +kernel
theorem dX1_init_22 : decode cX1_init 22 = .ok (.bipush 10, 2) := by decide +kernel
theorem dX1_init_24 : decode cX1_init 24 = .ok (.newarray .int, 2) := by decide +kernel
theorem dX1_init_26 : decode cX1_init 26 = .ok (.putfield 23, 3) := by decide +kernel
theorem dX1_init_29 : decode cX1_init 29 = .ok (.aload_n 0, 1) := by decide +kernel
theorem dX1_init_30 : decode cX1_init 30 = .ok (.iconst 1, 1) := by decide +kernel
theorem dX1_init_31 : decode cX1_init 31 = .ok (.putfield 27, 3) := by decide +kernel
theorem dX1_init_34 : decode cX1_init 34 = .ok (.iconst 0, 1) := by decide +kernel
theorem dX1_init_35 : decode cX1_init 35 = .ok (.istore_n 1, 1) := by decide +kernel
theorem dX1_init_36 : decode cX1_init 36 = .ok (.iload_n 1, 1) := by decide +kernel
theorem dX1_init_37 : decode cX1_init 37 = .ok (.bipush 6, 2) := by decide +kernel
theorem dX1_init_39 : decode cX1_init 39 = .ok (.if_icmp .ge 22, 3) := by decide +kernel
theorem dX1_init_42 : decode cX1_init 42 = .ok (.aload_n 0, 1) := by decide +kernel
theorem dX1_init_43 : decode cX1_init 43 = .ok (.getfield 11, 3) := by decide +kernel
theorem dX1_init_46 : decode cX1_init 46 = .ok (.iload_n 1, 1) := by decide +kernel
theorem dX1_init_47 : decode cX1_init 47 = .ok (.new 9, 3) := by decide +kernel
theorem dX1_init_50 : decode cX1_init 50 = .ok (.dup, 1) := by decide +kernel
theorem dX1_init_51 : decode cX1_init 51 = .ok (.invokespecial 31, 3) := by decide +kernel
theorem dX1_init_54 : decode cX1_init 54 = .ok (.aastore, 1) := by decide +kernel
theorem dX1_init_55 : decode cX1_init 55 = .ok (.iinc 1 1, 3) := by decide +kernel
theorem dX1_init_58 : decode cX1_init 58 = .ok (.goto (-22), 3) := by decide +kernel
theorem dX1_init_61 : decode cX1_init 61 = .ok (.iconst 0, 1) := by decide +kernel
theorem dX1_init_62 : decode cX1_init 62 = .ok (.istore_n 1, 1) := by decide +kernel
theorem dX1_init_63 : decode cX1_init 63 = .ok (.iload_n 1, 1) := by decide +kernel
theorem dX1_init_64 : decode cX1_init 64 = .ok (.iconst 5, 1) := by decide +kernel
theorem dX1_init_65 : decode cX1_init 65 = .ok (.if_icmp .ge 22, 3) := by decide +kernel
theorem dX1_init_68 : decode cX1_init 68 = .ok (.aload_n 0, 1) := by decide +kernel
theorem dX1_init_69 : decode cX1_init 69 = .ok (.getfield 19, 3) := by decide +kernel
theorem dX1_init_72 : decode cX1_init 72 = .ok (.iload_n 1, 1) := by decide +kernel
theorem dX1_init_73 : decode cX1_init 73 = .ok (.new 17, 3) := by decide +kernel
theorem dX1_init_76 : decode cX1_init 76 = .ok (.dup, 1) := by decide +kernel
theorem dX1_init_77 : decode cX1_init 77 = .ok (.invokespecial 32, 3) := by decide +kernel
theorem dX1_init_80 : decode cX1_init 80 = .ok (.aastore, 1) := by decide +kernel
theorem dX1_init_81 : decode cX1_init 81 = .ok (.iinc 1 1, 3) := by decide +kernel
theorem dX1_init_84 : decode cX1_init 84 = .ok (.goto (-21), 3) := by decide +kernel
theorem dX1_init_87 : decode cX1_init 87 = .ok (.iconst 0, 1) := by decide +kernel
theorem dX1_init_88 : decode cX1_init 88 = .ok (.istore_n 1, 1) := by decide +kernel
theorem dX1_init_89 : decode cX1_init 89 = .ok (.iload_n 1, 1) := by decide +kernel
theorem dX1_init_90 : decode cX1_init 90 = .ok (.bipush 10, 2) := by decide +kernel
theorem dX1_init_92 : decode cX1_init 92 = .ok (.if_icmp .ge 16, 3) := by decide +kernel
theorem dX1_init_95 : decode cX1_init 95 = .ok (.aload_n 0, 1) := by decide +kernel
theorem dX1_init_96 : decode cX1_init 96 = .ok (.getfield 23, 3) := by decide +kernel
theorem dX1_init_99 : decode cX1_init 99 = .ok (.iload_n 1, 1) := by decide +kernel
theorem dX1_init_100 : decode cX1_init 100 = .ok (.iload_n 1, 1) := by decide +kernel
theorem dX1_init_101 : decode cX1_init 101 = .ok (.iastore, 1) := by decide +kernel
theorem dX1_init_102 : decode cX1_init 102 = .ok (.iinc 1 1, 3) := by decide +kernel
theorem dX1_init_105 : decode cX1_init 105 = .ok (.goto (-16), 3) := by decide +kernel
theorem dX1_init_108 : decode cX1_init 108 = .ok (.return_, 1) := by decide +kernel
theorem dX1_become_0 : decode cX1_become 0 = .ok (.iconst 0, 1) := by decide +kernel
theorem dX1_become_1 : decode cX1_become 1 = .ok (.istore_n 2, 1) := by decide +kernel
theorem dX1_become_2 : decode cX1_become 2 = .ok (.iload_n 2, 1) := by decide +kernel
theorem dX1_become_3 : decode cX1_become 3 = .ok (.bipush 6, 2) := by decide +kernel
theorem dX1_become_5 : decode cX1_become 5 = .ok (.if_icmp .ge 24, 3) := by decide +kernel
theorem dX1_become_8 : decode cX1_become 8 = .ok (.aload_n 0, 1) := by decide +kernel
theorem dX1_become_9 : decode cX1_become 9 = .ok (.getfield 11, 3) := by decide +kernel
theorem dX1_become_12 : decode cX1_become 12 = .ok (.iload_n 2, 1) := by decide +kernel
theorem dX1_become_13 : decode cX1_become 13 = .ok (.aaload, 1) := by decide +kernel
theorem dX1_become_14 : decode cX1_become 14 = .ok (.aload_n 1, 1) := by decide +kernel
theorem dX1_become_15 : decode cX1_become 15 = .ok (.getfield 11, 3) := by decide +kernel
theorem dX1_become_18 : decode cX1_become 18 = .ok (.iload_n 2, 1) := by decide +kernel
theorem dX1_become_19 : decode cX1_become 19 = .ok (.aaload, 1) := by decide +kernel
theorem dX1_become_20 : decode cX1_become 20 = .ok (.invokevirtual 33, 3) := by decide +kernel
theorem dX1_become_23 : decode cX1_become 23 = .ok (.iinc 2 1, 3) := by decide +kernel
theorem dX1_become_26 : decode cX1_become 26 = .ok (.goto (-24), 3) := by decide +kernel
theorem dX1_become_29 : decode cX1_become 29 = .ok (.iconst 0, 1) := by decide +kernel
theorem dX1_become_30 : decode cX1_become 30 = .ok (.istore_n 2, 1) := by decide +kernel
theorem dX1_become_31 : decode cX1_become 31 = .ok (.iload_n 2, 1) := by decide +kernel
theorem dX1_become_32 : decode cX1_become 32 = .ok (.iconst 5, 1) := by decide +kernel
theorem dX1_become_33 : decode cX1_become 33 = .ok (.if_icmp .ge 41, 3) := by decide +kernel
theorem dX1_become_36 : decode cX1_become 36 = .ok (.aload_n 1, 1) := by decide +kernel
theorem dX1_become_37 : decode cX1_become 37 = .ok (.getfield 19, 3) := by decide +kernel
theorem dX1_become_40 : decode cX1_become 40 = .ok (.iload_n 2, 1) := by decide +kernel
theorem dX1_become_41 : decode cX1_become 41 = .ok (.aaload, 1) := by decide +kernel
theorem dX1_become_42 : decode cX1_become 42 = .ok (.astore_n 3, 1) := by decide +kernel
theorem dX1_become_43 : decode cX1_become 43 = .ok (.aload_n 0, 1) := by decide +kernel
theorem dX1_become_44 : decode cX1_become 44 = .ok (.getfield 19, 3) := by decide +kernel
theorem dX1_become_47 : decode cX1_become 47 = .ok (.iload_n 2, 1) := by decide +kernel
theorem dX1_become_48 : decode cX1_become 48 = .ok (.aaload, 1) := by decide +kernel
theorem dX1_become_49 : decode cX1_become 49 = .ok (.aload_n 3, 1) := by decide +kernel
theorem dX1_become_50 : decode cX1_become 50 = .ok (.getfield 37, 3) := by decide +kernel
theorem dX1_become_53 : decode cX1_become 53 = .ok (.aload_n 3, 1) := by decide +kernel
theorem dX1_become_54 : decode cX1_become 54 = .ok (.getfield 40, 3) := by decide +kernel
theorem dX1_become_57 : decode cX1_become 57 = .ok (.aload_n 3, 1) := by decide +kernel
theorem dX1_become_58 : decode cX1_become 58 = .ok (.getfield 43, 3) := by decide +kernel
theorem dX1_become_61 : decode cX1_become 61 = .ok (.aload_n 3, 1) := by decide +kernel
theorem dX1_become_62 : decode cX1_become 62 = .ok (.getfield 46, 3) := by decide +kernel
theorem dX1_become_65 : decode cX1_become 65 = .ok (.invokevirtual 49, 3) := by decide +kernel
theorem dX1_become_68 : decode cX1_become 68 = .ok (.iinc 2 1, 3) := by decide +kernel
theorem dX1_become_71 : decode cX1_become 71 = .ok (.goto (-40), 3) := by decide +kernel
theorem dX1_become_74 : decode cX1_become 74 = .ok (.aload_n 1, 1) := by decide +kernel
theorem dX1_become_75 : decode cX1_become 75 = .ok (.getfield 23, 3) := by decide +kernel
theorem dX1_become_78 : decode cX1_become 78 = .ok (.iconst 0, 1) := by decide +kernel
theorem dX1_become_79 : decode cX1_become 79 = .ok (.aload_n 0, 1) := by decide +kernel
theorem dX1_become_80 : decode cX1_become 80 = .ok (.getfield 23, 3) := by decide +kernel
theorem dX1_become_83 : decode cX1_become 83 = .ok (.iconst 0, 1) := by decide +kernel
theorem dX1_become_84 : decode cX1_become 84 = .ok (.bipush 10, 2) := by decide +kernel
theorem dX1_become_86 : decode cX1_become 86 = .ok (.invokestatic 52, 3) := by decide +kernel
theorem dX1_become_89 : decode cX1_become 89 = .ok (.aload_n 0, 1) := by decide +kernel
theorem dX1_become_90 : decode cX1_become 90 = .ok (.aload_n 1, 1) := by decide +kernel
theorem dX1_become_91 : decode cX1_become 91 = .ok (.getfield 58, 3) := by decide +kernel
theorem dX1_become_94 : decode cX1_become 94 = .ok (.putfield 58, 3) := by decide +kernel
theorem dX1_become_97 : decode cX1_become 97 = .ok (.aload_n 0, 1) := by decide +kernel
theorem dX1_become_98 : decode cX1_become 98 = .ok (.aload_n 1, 1) := by decide +kernel
theorem dX1_become_99 : decode cX1_become 99 = .ok (.getfield 61, 3) := by decide +kernel
theorem dX1_become_102 : decode cX1_become 102 = .ok (.putfield 61, 3) := by decide +kernel
theorem dX1_become_105 : decode cX1_become 105 = .ok (.aload_n 0, 1) := by decide +kernel
theorem dX1_become_106 : decode cX1_become 106 = .ok (.aload_n 1, 1) := by decide +kernel
theorem dX1_become_107 : decode cX1_become 107 = .ok (.getfield 27, 3) := by decide +kernel
theorem dX1_become_110 : decode cX1_become 110 = .ok (.putfield 27, 3) := by decide +kernel
theorem dX1_become_113 : decode cX1_become 113 = .ok (.aload_n 0, 1) := by decide +kernel
theorem dX1_become_114 : decode cX1_become 114 = .ok (.aload_n 1, 1) := by decide +kernel
theorem dX1_become_115 : decode cX1_become 115 = .ok (.getfield 64, 3) := by decide +kernel
theorem dX1_become_118 : decode cX1_become 118 = .ok (.putfield 64, 3) := by decide +kernel
theorem dX1_become_121 : decode cX1_become 121 = .ok (.aload_n 0, 1) := by decide +kernel
theorem dX1_become_122 : decode cX1_become 122 = .ok (.aload_n 1, 1) := by decide +kernel
theorem dX1_become_123 : decode cX1_become 123 = .ok (.getfield 67, 3) := by decide +kernel
theorem dX1_become_126 : decode cX1_become 126 = .ok (.putfield 67, 3) := by decide +kernel
theorem dX1_become_129 : decode cX1_become 129 = .ok (.return_, 1) := by decide +kernel
theorem dX1_plant_0 : decode cX1_plant 0 = .ok (.aload_n 0, 1) := by decide +kernel
theorem dX1_plant_1 : decode cX1_plant 1 = .ok (.getfield 11, 3) := by decide +kernel
theorem dX1_plant_4 : decode cX1_plant 4 = .ok (.aload_n 0, 1) := by decide +kernel
theorem dX1_plant_5 : decode cX1_plant 5 = .ok (.getfield 58, 3) := by decide +kernel
theorem dX1_plant_8 : decode cX1_plant 8 = .ok (.aaload, 1) := by decide +kernel
theorem dX1_plant_9 : decode cX1_plant 9 = .ok (.iload_n 1, 1) := by decide +kernel
theorem dX1_plant_10 : decode cX1_plant 10 = .ok (.iconst 5, 1) := by decide +kernel
theorem dX1_plant_11 : decode cX1_plant 11 = .ok (.iconst 5, 1) := by decide +kernel
theorem dX1_plant_12 : decode cX1_plant 12 = .ok (.invokevirtual 70, 3) := by decide +kernel
theorem dX1_plant_15 : decode cX1_plant 15 = .ok (.aload_n 0, 1) := by decide +kernel
theorem dX1_plant_16 : decode cX1_plant 16 = .ok (.dup, 1) := by decide +kernel
theorem dX1_plant_17 : decode cX1_plant 17 = .ok (.getfield 58, 3) := by decide +kernel
theorem dX1_plant_20 : decode cX1_plant 20 = .ok (.dup_x1, 1) := by decide +kernel
theorem dX1_plant_21 : decode cX1_plant 21 = .ok (.iconst 1, 1) := by decide +kernel
theorem dX1_plant_22 : decode cX1_plant 22 = .ok (.iadd, 1) := by decide +kernel
theorem dX1_plant_23 : decode cX1_plant 23 = .ok (.putfield 58, 3) := by decide +kernel
theorem dX1_plant_26 : decode cX1_plant 26 = .ok (.ireturn, 1) := by decide +kernel
theorem dX1_plantCutting_0 : decode cX1_plantCutting 0 = .ok (.aload_n 0, 1) := by decide +kernel
theorem dX1_plantCutting_1 : decode cX1_plantCutting 1 = .ok (.getfield 11, 3) := by decide +kernel
theorem dX1_plantCutting_4 : decode cX1_plantCutting 4 = .ok (.aload_n 0, 1) := by decide +kernel
theorem dX1_plantCutting_5 : decode cX1_plantCutting 5 = .ok (.getfield 58, 3) := by decide +kernel
theorem dX1_plantCutting_8 : decode cX1_plantCutting 8 = .ok (.aaload, 1) := by decide +kernel
theorem dX1_plantCutting_9 : decode cX1_plantCutting 9 = .ok (.aload_n 0, 1) := by decide +kernel
theorem dX1_plantCutting_10 : decode cX1_plantCutting 10 = .ok (.getfield 11, 3) := by decide +kernel
theorem dX1_plantCutting_13 : decode cX1_plantCutting 13 = .ok (.iload_n 1, 1) := by decide +kernel
theorem dX1_plantCutting_14 : decode cX1_plantCutting 14 = .ok (.aaload, 1) := by decide +kernel
theorem dX1_plantCutting_15 : decode cX1_plantCutting 15 = .ok (.invokevirtual 74, 3) := by decide +kernel
theorem dX1_plantCutting_18 : decode cX1_plantCutting 18 = .ok (.aload_n 0, 1) := by decide +kernel
theorem dX1_plantCutting_19 : decode cX1_plantCutting 19 = .ok (.dup, 1) := by decide +kernel
theorem dX1_plantCutting_20 : decode cX1_plantCutting 20 = .ok (.getfield 58, 3) := by decide +kernel
theorem dX1_plantCutting_23 : decode cX1_plantCutting 23 = .ok (.dup_x1, 1) := by decide +kernel
theorem dX1_plantCutting_24 : decode cX1_plantCutting 24 = .ok (.iconst 1, 1) := by decide +kernel
theorem dX1_plantCutting_25 : decode cX1_plantCutting 25 = .ok (.iadd, 1) := by decide +kernel
theorem dX1_plantCutting_26 : decode cX1_plantCutting 26 = .ok (.putfield 58, 3) := by decide +kernel
theorem dX1_plantCutting_29 : decode cX1_plantCutting 29 = .ok (.ireturn, 1) := by decide +kernel
theorem dX1_welcome_0 : decode cX1_welcome 0 = .ok (.aload_n 0, 1) := by decide +kernel
theorem dX1_welcome_1 : decode cX1_welcome 1 = .ok (.getfield 19, 3) := by decide +kernel
theorem dX1_welcome_4 : decode cX1_welcome 4 = .ok (.aload_n 0, 1) := by decide +kernel
theorem dX1_welcome_5 : decode cX1_welcome 5 = .ok (.getfield 61, 3) := by decide +kernel
theorem dX1_welcome_8 : decode cX1_welcome 8 = .ok (.aaload, 1) := by decide +kernel
theorem dX1_welcome_9 : decode cX1_welcome 9 = .ok (.iload_n 1, 1) := by decide +kernel
theorem dX1_welcome_10 : decode cX1_welcome 10 = .ok (.iload_n 2, 1) := by decide +kernel
theorem dX1_welcome_11 : decode cX1_welcome 11 = .ok (.iload_n 3, 1) := by decide +kernel
theorem dX1_welcome_12 : decode cX1_welcome 12 = .ok (.iload 4, 2) := by decide +kernel
theorem dX1_welcome_14 : decode cX1_welcome 14 = .ok (.invokevirtual 49, 3) := by decide +kernel
theorem dX1_welcome_17 : decode cX1_welcome 17 = .ok (.aload_n 0, 1) := by decide +kernel
theorem dX1_welcome_18 : decode cX1_welcome 18 = .ok (.dup, 1) := by decide +kernel
theorem dX1_welcome_19 : decode cX1_welcome 19 = .ok (.getfield 61, 3) := by decide +kernel
theorem dX1_welcome_22 : decode cX1_welcome 22 = .ok (.dup_x1, 1) := by decide +kernel
theorem dX1_welcome_23 : decode cX1_welcome 23 = .ok (.iconst 1, 1) := by decide +kernel
theorem dX1_welcome_24 : decode cX1_welcome 24 = .ok (.iadd, 1) := by decide +kernel
theorem dX1_welcome_25 : decode cX1_welcome 25 = .ok (.putfield 61, 3) := by decide +kernel
theorem dX1_welcome_28 : decode cX1_welcome 28 = .ok (.ireturn, 1) := by decide +kernel
theorem dX1_hasTree_0 : decode cX1_hasTree 0 = .ok (.iload_n 1, 1) := by decide +kernel
theorem dX1_hasTree_1 : decode cX1_hasTree 1 = .ok (.iconst 0, 1) := by decide +kernel
theorem dX1_hasTree_2 : decode cX1_hasTree 2 = .ok (.aload_n 0, 1) := by decide +kernel
