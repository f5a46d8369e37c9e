theorem dX1_hasTree_3 : decode cX1_hasTree 3 = .ok (.getfield 58, 3) := by decide +kernel
theorem dX1_hasTree_6 : decode cX1_hasTree 6 = .ok (.iconst 1, 1) := by decide +kernel
theorem dX1_hasTree_7 : decode cX1_hasTree 7 = .ok (.isub, 1) := by decide +kernel
theorem dX1_hasTree_8 : decode cX1_hasTree 8 = .ok (.invokestatic 77, 3) := by decide +kernel
theorem dX1_hasTree_11 : decode cX1_hasTree 11 = .ok (.ireturn, 1) := by decide +kernel
theorem dX1_hasClimber_0 : decode cX1_hasClimber 0 = .ok (.iload_n 1, 1) := by decide +kernel
theorem dX1_hasClimber_1 : decode cX1_hasClimber 1 = .ok (.iconst 0, 1) := by decide +kernel
theorem dX1_hasClimber_2 : decode cX1_hasClimber 2 = .ok (.aload_n 0, 1) := by decide +kernel
theorem dX1_hasClimber_3 : decode cX1_hasClimber 3 = .ok (.getfield 61, 3) := by decide +kernel
theorem dX1_hasClimber_6 : decode cX1_hasClimber 6 = .ok (.iconst 1, 1) := by decide +kernel
theorem dX1_hasClimber_7 : decode cX1_hasClimber 7 = .ok (.isub, 1) := by decide +kernel
theorem dX1_hasClimber_8 : decode cX1_hasClimber 8 = .ok (.invokestatic 77, 3) := by decide +kernel
theorem dX1_hasClimber_11 : decode cX1_hasClimber 11 = .ok (.ireturn, 1) := by decide +kernel
theorem dX1_isFolk_0 : decode cX1_isFolk 0 = .ok (.iload_n 1, 1) := by decide +kernel
theorem dX1_isFolk_1 : decode cX1_isFolk 1 = .ok (.iconst 5, 1) := by decide +kernel
theorem dX1_isFolk_2 : decode cX1_isFolk 2 = .ok (.if_icmp .eq 11, 3) := by decide +kernel
theorem dX1_isFolk_5 : decode cX1_isFolk 5 = .ok (.aload_n 0, 1) := by decide +kernel
theorem dX1_isFolk_6 : decode cX1_isFolk 6 = .ok (.iload_n 1, 1) := by decide +kernel
theorem dX1_isFolk_7 : decode cX1_isFolk 7 = .ok (.invokevirtual 81, 3) := by decide +kernel
theorem dX1_isFolk_10 : decode cX1_isFolk 10 = .ok (.ifCond .eq 7, 3) := by decide +kernel
theorem dX1_isFolk_13 : decode cX1_isFolk 13 = .ok (.iconst 1, 1) := by decide +kernel
theorem dX1_isFolk_14 : decode cX1_isFolk 14 = .ok (.goto 4, 3) := by decide +kernel
theorem dX1_isFolk_17 : decode cX1_isFolk 17 = .ok (.iconst 0, 1) := by decide +kernel
theorem dX1_isFolk_18 : decode cX1_isFolk 18 = .ok (.ireturn, 1) := by decide +kernel
theorem dX1_isSet_0 : decode cX1_isSet 0 = .ok (.iload_n 1, 1) := by decide +kernel
theorem dX1_isSet_1 : decode cX1_isSet 1 = .ok (.iconst 0, 1) := by decide +kernel
theorem dX1_isSet_2 : decode cX1_isSet 2 = .ok (.iconst 1, 1) := by decide +kernel
theorem dX1_isSet_3 : decode cX1_isSet 3 = .ok (.aload_n 0, 1) := by decide +kernel
theorem dX1_isSet_4 : decode cX1_isSet 4 = .ok (.getfield 61, 3) := by decide +kernel
theorem dX1_isSet_7 : decode cX1_isSet 7 = .ok (.ishl, 1) := by decide +kernel
theorem dX1_isSet_8 : decode cX1_isSet 8 = .ok (.iconst 1, 1) := by decide +kernel
theorem dX1_isSet_9 : decode cX1_isSet 9 = .ok (.isub, 1) := by decide +kernel
theorem dX1_isSet_10 : decode cX1_isSet 10 = .ok (.invokestatic 77, 3) := by decide +kernel
theorem dX1_isSet_13 : decode cX1_isSet 13 = .ok (.ireturn, 1) := by decide +kernel
theorem dX1_brought_0 : decode cX1_brought 0 = .ok (.aload_n 0, 1) := by decide +kernel
theorem dX1_brought_1 : decode cX1_brought 1 = .ok (.iload_n 1, 1) := by decide +kernel
theorem dX1_brought_2 : decode cX1_brought 2 = .ok (.invokevirtual 81, 3) := by decide +kernel
theorem dX1_brought_5 : decode cX1_brought 5 = .ok (.ifCond .eq 15, 3) := by decide +kernel
theorem dX1_brought_8 : decode cX1_brought 8 = .ok (.aload_n 0, 1) := by decide +kernel
theorem dX1_brought_9 : decode cX1_brought 9 = .ok (.getfield 19, 3) := by decide +kernel
theorem dX1_brought_12 : decode cX1_brought 12 = .ok (.iload_n 1, 1) := by decide +kernel
theorem dX1_brought_13 : decode cX1_brought 13 = .ok (.aaload, 1) := by decide +kernel
theorem dX1_brought_14 : decode cX1_brought 14 = .ok (.invokevirtual 85, 3) := by decide +kernel
theorem dX1_brought_17 : decode cX1_brought 17 = .ok (.goto 4, 3) := by decide +kernel
theorem dX1_brought_20 : decode cX1_brought 20 = .ok (.iconst 0, 1) := by decide +kernel
theorem dX1_brought_21 : decode cX1_brought 21 = .ok (.ireturn, 1) := by decide +kernel
theorem dX1_oddsOf_0 : decode cX1_oddsOf 0 = .ok (.aload_n 0, 1) := by decide +kernel
theorem dX1_oddsOf_1 : decode cX1_oddsOf 1 = .ok (.iload_n 1, 1) := by decide +kernel
theorem dX1_oddsOf_2 : decode cX1_oddsOf 2 = .ok (.invokevirtual 81, 3) := by decide +kernel
theorem dX1_oddsOf_5 : decode cX1_oddsOf 5 = .ok (.ifCond .eq 15, 3) := by decide +kernel
theorem dX1_oddsOf_8 : decode cX1_oddsOf 8 = .ok (.aload_n 0, 1) := by decide +kernel
theorem dX1_oddsOf_9 : decode cX1_oddsOf 9 = .ok (.getfield 19, 3) := by decide +kernel
theorem dX1_oddsOf_12 : decode cX1_oddsOf 12 = .ok (.iload_n 1, 1) := by decide +kernel
theorem dX1_oddsOf_13 : decode cX1_oddsOf 13 = .ok (.aaload, 1) := by decide +kernel
theorem dX1_oddsOf_14 : decode cX1_oddsOf 14 = .ok (.invokevirtual 89, 3) := by decide +kernel
theorem dX1_oddsOf_17 : decode cX1_oddsOf 17 = .ok (.goto 4, 3) := by decide +kernel
theorem dX1_oddsOf_20 : decode cX1_oddsOf 20 = .ok (.iconst 0, 1) := by decide +kernel
theorem dX1_oddsOf_21 : decode cX1_oddsOf 21 = .ok (.ireturn, 1) := by decide +kernel
theorem dX1_mayClimbNow_0 : decode cX1_mayClimbNow 0 = .ok (.aload_n 0, 1) := by decide +kernel
theorem dX1_mayClimbNow_1 : decode cX1_mayClimbNow 1 = .ok (.iload_n 2, 1) := by decide +kernel
theorem dX1_mayClimbNow_2 : decode cX1_mayClimbNow 2 = .ok (.invokevirtual 81, 3) := by decide +kernel
theorem dX1_mayClimbNow_5 : decode cX1_mayClimbNow 5 = .ok (.ifCond .ne 5, 3) := by decide +kernel
theorem dX1_mayClimbNow_8 : decode cX1_mayClimbNow 8 = .ok (.iconst 1, 1) := by decide +kernel
theorem dX1_mayClimbNow_9 : decode cX1_mayClimbNow 9 = .ok (.ireturn, 1) := by decide +kernel
theorem dX1_mayClimbNow_10 : decode cX1_mayClimbNow 10 = .ok (.aload_n 0, 1) := by decide +kernel
theorem dX1_mayClimbNow_11 : decode cX1_mayClimbNow 11 = .ok (.getfield 11, 3) := by decide +kernel
theorem dX1_mayClimbNow_14 : decode cX1_mayClimbNow 14 = .ok (.iload_n 1, 1) := by decide +kernel
theorem dX1_mayClimbNow_15 : decode cX1_mayClimbNow 15 = .ok (.aaload, 1) := by decide +kernel
theorem dX1_mayClimbNow_16 : decode cX1_mayClimbNow 16 = .ok (.getfield 92, 3) := by decide +kernel
theorem dX1_mayClimbNow_19 : decode cX1_mayClimbNow 19 = .ok (.iload_n 2, 1) := by decide +kernel
theorem dX1_mayClimbNow_20 : decode cX1_mayClimbNow 20 = .ok (.invokestatic 95, 3) := by decide +kernel
theorem dX1_mayClimbNow_23 : decode cX1_mayClimbNow 23 = .ok (.ifCond .ne 28, 3) := by decide +kernel
theorem dX1_mayClimbNow_26 : decode cX1_mayClimbNow 26 = .ok (.aload_n 0, 1) := by decide +kernel
theorem dX1_mayClimbNow_27 : decode cX1_mayClimbNow 27 = .ok (.getfield 19, 3) := by decide +kernel
theorem dX1_mayClimbNow_30 : decode cX1_mayClimbNow 30 = .ok (.iload_n 2, 1) := by decide +kernel
theorem dX1_mayClimbNow_31 : decode cX1_mayClimbNow 31 = .ok (.aaload, 1) := by decide +kernel
theorem dX1_mayClimbNow_32 : decode cX1_mayClimbNow 32 = .ok (.invokevirtual 99, 3) := by decide +kernel
theorem dX1_mayClimbNow_35 : decode cX1_mayClimbNow 35 = .ok (.ifCond .ne 12, 3) := by decide +kernel
theorem dX1_mayClimbNow_38 : decode cX1_mayClimbNow 38 = .ok (.aload_n 0, 1) := by decide +kernel
theorem dX1_mayClimbNow_39 : decode cX1_mayClimbNow 39 = .ok (.iload_n 1, 1) := by decide +kernel
theorem dX1_mayClimbNow_40 : decode cX1_mayClimbNow 40 = .ok (.iload_n 2, 1) := by decide +kernel
theorem dX1_mayClimbNow_41 : decode cX1_mayClimbNow 41 = .ok (.invokevirtual 103, 3) := by decide +kernel
theorem dX1_mayClimbNow_44 : decode cX1_mayClimbNow 44 = .ok (.ifCond .ne 7, 3) := by decide +kernel
theorem dX1_mayClimbNow_47 : decode cX1_mayClimbNow 47 = .ok (.iconst 1, 1) := by decide +kernel
theorem dX1_mayClimbNow_48 : decode cX1_mayClimbNow 48 = .ok (.goto 4, 3) := by decide +kernel
theorem dX1_mayClimbNow_51 : decode cX1_mayClimbNow 51 = .ok (.iconst 0, 1) := by decide +kernel
theorem dX1_mayClimbNow_52 : decode cX1_mayClimbNow 52 = .ok (.ireturn, 1) := by decide +kernel
theorem dX1_climbsElsewhere_0 : decode cX1_climbsElsewhere 0 = .ok (.iconst 0, 1) := by decide +kernel
theorem dX1_climbsElsewhere_1 : decode cX1_climbsElsewhere 1 = .ok (.istore_n 3, 1) := by decide +kernel
theorem dX1_climbsElsewhere_2 : decode cX1_climbsElsewhere 2 = .ok (.iload_n 3, 1) := by decide +kernel
theorem dX1_climbsElsewhere_3 : decode cX1_climbsElsewhere 3 = .ok (.aload_n 0, 1) := by decide +kernel
theorem dX1_climbsElsewhere_4 : decode cX1_climbsElsewhere 4 = .ok (.getfield 58, 3) := by decide +kernel
theorem dX1_climbsElsewhere_7 : decode cX1_climbsElsewhere 7 = .ok (.if_icmp .ge 29, 3) := by decide +kernel
theorem dX1_climbsElsewhere_10 : decode cX1_climbsElsewhere 10 = .ok (.iload_n 3, 1) := by decide +kernel
theorem dX1_climbsElsewhere_11 : decode cX1_climbsElsewhere 11 = .ok (.iload_n 1, 1) := by decide +kernel
theorem dX1_climbsElsewhere_12 : decode cX1_climbsElsewhere 12 = .ok (.if_icmp .eq 18, 3) := by decide +kernel
theorem dX1_climbsElsewhere_15 : decode cX1_climbsElsewhere 15 = .ok (.aload_n 0, 1) := by decide +kernel
theorem dX1_climbsElsewhere_16 : decode cX1_climbsElsewhere 16 = .ok (.getfield 11, 3) := by decide +kernel
theorem dX1_climbsElsewhere_19 : decode cX1_climbsElsewhere 19 = .ok (.iload_n 3, 1) := by decide +kernel
theorem dX1_climbsElsewhere_20 : decode cX1_climbsElsewhere 20 = .ok (.aaload, 1) := by decide +kernel
theorem dX1_climbsElsewhere_21 : decode cX1_climbsElsewhere 21 = .ok (.getfield 106, 3) := by decide +kernel
theorem dX1_climbsElsewhere_24 : decode cX1_climbsElsewhere 24 = .ok (.iload_n 2, 1) := by decide +kernel
theorem dX1_climbsElsewhere_25 : decode cX1_climbsElsewhere 25 = .ok (.if_icmp .ne 5, 3) := by decide +kernel
theorem dX1_climbsElsewhere_28 : decode cX1_climbsElsewhere 28 = .ok (.iconst 1, 1) := by decide +kernel
theorem dX1_climbsElsewhere_29 : decode cX1_climbsElsewhere 29 = .ok (.ireturn, 1) := by decide +kernel
theorem dX1_climbsElsewhere_30 : decode cX1_climbsElsewhere 30 = .ok (.iinc 3 1, 3) := by decide +kernel
theorem dX1_climbsElsewhere_33 : decode cX1_climbsElsewhere 33 = .ok (.goto (-31), 3) := by decide +kernel
theorem dX1_climbsElsewhere_36 : decode cX1_climbsElsewhere 36 = .ok (.iconst 0, 1) := by decide +kernel
theorem dX1_climbsElsewhere_37 : decode cX1_climbsElsewhere 37 = .ok (.ireturn, 1) := by decide +kernel
theorem dX1_climbersNow_0 : decode cX1_climbersNow 0 = .ok (.iconst 0, 1) := by decide +kernel
theorem dX1_climbersNow_1 : decode cX1_climbersNow 1 = .ok (.istore_n 1, 1) := by decide +kernel
theorem dX1_climbersNow_2 : decode cX1_climbersNow 2 = .ok (.iconst 0, 1) := by decide +kernel
theorem dX1_climbersNow_3 : decode cX1_climbersNow 3 = .ok (.istore_n 2, 1) := by decide +kernel
theorem dX1_climbersNow_4 : decode cX1_climbersNow 4 = .ok (.iload_n 2, 1) := by decide +kernel
theorem dX1_climbersNow_5 : decode cX1_climbersNow 5 = .ok (.aload_n 0, 1) := by decide +kernel
theorem dX1_climbersNow_6 : decode cX1_climbersNow 6 = .ok (.getfield 58, 3) := by decide +kernel
theorem dX1_climbersNow_9 : decode cX1_climbersNow 9 = .ok (.if_icmp .ge 23, 3) := by decide +kernel
theorem dX1_climbersNow_12 : decode cX1_climbersNow 12 = .ok (.iload_n 1, 1) := by decide +kernel
theorem dX1_climbersNow_13 : decode cX1_climbersNow 13 = .ok (.iconst 1, 1) := by decide +kernel
theorem dX1_climbersNow_14 : decode cX1_climbersNow 14 = .ok (.aload_n 0, 1) := by decide +kernel
theorem dX1_climbersNow_15 : decode cX1_climbersNow 15 = .ok (.getfield 11, 3) := by decide +kernel
theorem dX1_climbersNow_18 : decode cX1_climbersNow 18 = .ok (.iload_n 2, 1) := by decide +kernel
theorem dX1_climbersNow_19 : decode cX1_climbersNow 19 = .ok (.aaload, 1) := by decide +kernel
theorem dX1_climbersNow_20 : decode cX1_climbersNow 20 = .ok (.getfield 106, 3) := by decide +kernel
theorem dX1_climbersNow_23 : decode cX1_climbersNow 23 = .ok (.ishl, 1) := by decide +kernel
theorem dX1_climbersNow_24 : decode cX1_climbersNow 24 = .ok (.ior, 1) := by decide +kernel
theorem dX1_climbersNow_25 : decode cX1_climbersNow 25 = .ok (.istore_n 1, 1) := by decide +kernel
theorem dX1_climbersNow_26 : decode cX1_climbersNow 26 = .ok (.iinc 2 1, 3) := by decide +kernel
theorem dX1_climbersNow_29 : decode cX1_climbersNow 29 = .ok (.goto (-25), 3) := by decide +kernel
theorem dX1_climbersNow_32 : decode cX1_climbersNow 32 = .ok (.iload_n 1, 1) := by decide +kernel
theorem dX1_climbersNow_33 : decode cX1_climbersNow 33 = .ok (.bipush (-33), 2) := by decide +kernel
theorem dX1_climbersNow_35 : decode cX1_climbersNow 35 = .ok (.iand, 1) := by decide +kernel
theorem dX1_climbersNow_36 : decode cX1_climbersNow 36 = .ok (.ireturn, 1) := by decide +kernel
theorem dX1_borne_0 : decode cX1_borne 0 = .ok (.aload_n 0, 1) := by decide +kernel
theorem dX1_borne_1 : decode cX1_borne 1 = .ok (.getfield 11, 3) := by decide +kernel
theorem dX1_borne_4 : decode cX1_borne 4 = .ok (.iload_n 1, 1) := by decide +kernel
theorem dX1_borne_5 : decode cX1_borne 5 = .ok (.aaload, 1) := by decide +kernel
theorem dX1_borne_6 : decode cX1_borne 6 = .ok (.astore_n 3, 1) := by decide +kernel
theorem dX1_borne_7 : decode cX1_borne 7 = .ok (.aload_n 0, 1) := by decide +kernel
theorem dX1_borne_8 : decode cX1_borne 8 = .ok (.aload_n 3, 1) := by decide +kernel
theorem dX1_borne_9 : decode cX1_borne 9 = .ok (.getfield 109, 3) := by decide +kernel
theorem dX1_borne_12 : decode cX1_borne 12 = .ok (.invokevirtual 112, 3) := by decide +kernel
theorem dX1_borne_15 : decode cX1_borne 15 = .ok (.iload_n 2, 1) := by decide +kernel
theorem dX1_borne_16 : decode cX1_borne 16 = .ok (.if_icmp .ne 17, 3) := by decide +kernel
theorem dX1_borne_19 : decode cX1_borne 19 = .ok (.aload_n 3, 1) := by decide +kernel
theorem dX1_borne_20 : decode cX1_borne 20 = .ok (.getfield 116, 3) := by decide +kernel
theorem dX1_borne_23 : decode cX1_borne 23 = .ok (.aload_n 3, 1) := by decide +kernel
theorem dX1_borne_24 : decode cX1_borne 24 = .ok (.getfield 117, 3) := by decide +kernel
theorem dX1_borne_27 : decode cX1_borne 27 = .ok (.invokestatic 121, 3) := by decide +kernel
theorem dX1_borne_30 : decode cX1_borne 30 = .ok (.goto 4, 3) := by decide +kernel
theorem dX1_borne_33 : decode cX1_borne 33 = .ok (.iconst 0, 1) := by decide +kernel
theorem dX1_borne_34 : decode cX1_borne 34 = .ok (.istore 4, 2) := by decide +kernel
theorem dX1_borne_36 : decode cX1_borne 36 = .ok (.aload_n 0, 1) := by decide +kernel
theorem dX1_borne_37 : decode cX1_borne 37 = .ok (.aload_n 3, 1) := by decide +kernel
theorem dX1_borne_38 : decode cX1_borne 38 = .ok (.getfield 125, 3) := by decide +kernel
theorem dX1_borne_41 : decode cX1_borne 41 = .ok (.invokevirtual 112, 3) := by decide +kernel
theorem dX1_borne_44 : decode cX1_borne 44 = .ok (.iload_n 2, 1) := by decide +kernel
theorem dX1_borne_45 : decode cX1_borne 45 = .ok (.if_icmp .ne 17, 3) := by decide +kernel
theorem dX1_borne_48 : decode cX1_borne 48 = .ok (.aload_n 3, 1) := by decide +kernel
theorem dX1_borne_49 : decode cX1_borne 49 = .ok (.getfield 116, 3) := by decide +kernel
theorem dX1_borne_52 : decode cX1_borne 52 = .ok (.aload_n 3, 1) := by decide +kernel
theorem dX1_borne_53 : decode cX1_borne 53 = .ok (.getfield 128, 3) := by decide +kernel
theorem dX1_borne_56 : decode cX1_borne 56 = .ok (.invokestatic 131, 3) := by decide +kernel
theorem dX1_borne_59 : decode cX1_borne 59 = .ok (.goto 4, 3) := by decide +kernel
theorem dX1_borne_62 : decode cX1_borne 62 = .ok (.iconst 0, 1) := by decide +kernel
theorem dX1_borne_63 : decode cX1_borne 63 = .ok (.istore 5, 2) := by decide +kernel
theorem dX1_borne_65 : decode cX1_borne 65 = .ok (.iload 4, 2) := by decide +kernel
theorem dX1_borne_67 : decode cX1_borne 67 = .ok (.iload 5, 2) := by decide +kernel
theorem dX1_borne_69 : decode cX1_borne 69 = .ok (.iadd, 1) := by decide +kernel
theorem dX1_borne_70 : decode cX1_borne 70 = .ok (.ireturn, 1) := by decide +kernel
theorem dX1_borneNext_0 : decode cX1_borneNext 0 = .ok (.aload_n 0, 1) := by decide +kernel
theorem dX1_borneNext_1 : decode cX1_borneNext 1 = .ok (.getfield 11, 3) := by decide +kernel
theorem dX1_borneNext_4 : decode cX1_borneNext 4 = .ok (.iload_n 1, 1) := by decide +kernel
theorem dX1_borneNext_5 : decode cX1_borneNext 5 = .ok (.aaload, 1) := by decide +kernel
theorem dX1_borneNext_6 : decode cX1_borneNext 6 = .ok (.astore_n 3, 1) := by decide +kernel
theorem dX1_borneNext_7 : decode cX1_borneNext 7 = .ok (.aload_n 0, 1) := by decide +kernel
theorem dX1_borneNext_8 : decode cX1_borneNext 8 = .ok (.aload_n 3, 1) := by decide +kernel
theorem dX1_borneNext_9 : decode cX1_borneNext 9 = .ok (.getfield 106, 3) := by decide +kernel
theorem dX1_borneNext_12 : decode cX1_borneNext 12 = .ok (.invokevirtual 112, 3) := by decide +kernel
theorem dX1_borneNext_15 : decode cX1_borneNext 15 = .ok (.iload_n 2, 1) := by decide +kernel
theorem dX1_borneNext_16 : decode cX1_borneNext 16 = .ok (.if_icmp .ne 14, 3) := by decide +kernel
theorem dX1_borneNext_19 : decode cX1_borneNext 19 = .ok (.aload_n 3, 1) := by decide +kernel
theorem dX1_borneNext_20 : decode cX1_borneNext 20 = .ok (.getfield 116, 3) := by decide +kernel
theorem dX1_borneNext_23 : decode cX1_borneNext 23 = .ok (.iconst 0, 1) := by decide +kernel
theorem dX1_borneNext_24 : decode cX1_borneNext 24 = .ok (.invokestatic 121, 3) := by decide +kernel
theorem dX1_borneNext_27 : decode cX1_borneNext 27 = .ok (.goto 4, 3) := by decide +kernel
theorem dX1_borneNext_30 : decode cX1_borneNext 30 = .ok (.iconst 0, 1) := by decide +kernel
theorem dX1_borneNext_31 : decode cX1_borneNext 31 = .ok (.istore 4, 2) := by decide +kernel
theorem dX1_borneNext_33 : decode cX1_borneNext 33 = .ok (.aload_n 0, 1) := by decide +kernel
theorem dX1_borneNext_34 : decode cX1_borneNext 34 = .ok (.aload_n 3, 1) := by decide +kernel
theorem dX1_borneNext_35 : decode cX1_borneNext 35 = .ok (.getfield 109, 3) := by decide +kernel
theorem dX1_borneNext_38 : decode cX1_borneNext 38 = .ok (.invokevirtual 112, 3) := by decide +kernel
theorem dX1_borneNext_41 : decode cX1_borneNext 41 = .ok (.iload_n 2, 1) := by decide +kernel
theorem dX1_borneNext_42 : decode cX1_borneNext 42 = .ok (.if_icmp .ne 17, 3) := by decide +kernel
theorem dX1_borneNext_45 : decode cX1_borneNext 45 = .ok (.aload_n 3, 1) := by decide +kernel
theorem dX1_borneNext_46 : decode cX1_borneNext 46 = .ok (.getfield 116, 3) := by decide +kernel
theorem dX1_borneNext_49 : decode cX1_borneNext 49 = .ok (.aload_n 3, 1) := by decide +kernel
theorem dX1_borneNext_50 : decode cX1_borneNext 50 = .ok (.getfield 117, 3) := by decide +kernel
theorem dX1_borneNext_53 : decode cX1_borneNext 53 = .ok (.invokestatic 131, 3) := by decide +kernel
theorem dX1_borneNext_56 : decode cX1_borneNext 56 = .ok (.goto 4, 3) := by decide +kernel
theorem dX1_borneNext_59 : decode cX1_borneNext 59 = .ok (.iconst 0, 1) := by decide +kernel
theorem dX1_borneNext_60 : decode cX1_borneNext 60 = .ok (.istore 5, 2) := by decide +kernel
theorem dX1_borneNext_62 : decode cX1_borneNext 62 = .ok (.iload 4, 2) := by decide +kernel
theorem dX1_borneNext_64 : decode cX1_borneNext 64 = .ok (.iload 5, 2) := by decide +kernel
theorem dX1_borneNext_66 : decode cX1_borneNext 66 = .ok (.iadd, 1) := by decide +kernel
theorem dX1_borneNext_67 : decode cX1_borneNext 67 = .ok (.ireturn, 1) := by decide +kernel
theorem dX1_inBasket_0 : decode cX1_inBasket 0 = .ok (.iconst 0, 1) := by decide +kernel
theorem dX1_inBasket_1 : decode cX1_inBasket 1 = .ok (.istore_n 2, 1) := by decide +kernel
theorem dX1_inBasket_2 : decode cX1_inBasket 2 = .ok (.iconst 0, 1) := by decide +kernel
theorem dX1_inBasket_3 : decode cX1_inBasket 3 = .ok (.istore_n 3, 1) := by decide +kernel
theorem dX1_inBasket_4 : decode cX1_inBasket 4 = .ok (.iload_n 3, 1) := by decide +kernel
theorem dX1_inBasket_5 : decode cX1_inBasket 5 = .ok (.aload_n 0, 1) := by decide +kernel
theorem dX1_inBasket_6 : decode cX1_inBasket 6 = .ok (.getfield 58, 3) := by decide +kernel
theorem dX1_inBasket_9 : decode cX1_inBasket 9 = .ok (.if_icmp .ge 18, 3) := by decide +kernel
theorem dX1_inBasket_12 : decode cX1_inBasket 12 = .ok (.iload_n 2, 1) := by decide +kernel
theorem dX1_inBasket_13 : decode cX1_inBasket 13 = .ok (.aload_n 0, 1) := by decide +kernel
theorem dX1_inBasket_14 : decode cX1_inBasket 14 = .ok (.iload_n 3, 1) := by decide +kernel
theorem dX1_inBasket_15 : decode cX1_inBasket 15 = .ok (.iload_n 1, 1) := by decide +kernel
theorem dX1_inBasket_16 : decode cX1_inBasket 16 = .ok (.invokevirtual 134, 3) := by decide +kernel
theorem dX1_inBasket_19 : decode cX1_inBasket 19 = .ok (.iadd, 1) := by decide +kernel
theorem dX1_inBasket_20 : decode cX1_inBasket 20 = .ok (.istore_n 2, 1) := by decide +kernel
theorem dX1_inBasket_21 : decode cX1_inBasket 21 = .ok (.iinc 3 1, 3) := by decide +kernel
theorem dX1_inBasket_24 : decode cX1_inBasket 24 = .ok (.goto (-20), 3) := by decide +kernel
theorem dX1_inBasket_27 : decode cX1_inBasket 27 = .ok (.iload_n 2, 1) := by decide +kernel
theorem dX1_inBasket_28 : decode cX1_inBasket 28 = .ok (.ireturn, 1) := by decide +kernel
theorem dX1_inNext_0 : decode cX1_inNext 0 = .ok (.iconst 0, 1) := by decide +kernel
theorem dX1_inNext_1 : decode cX1_inNext 1 = .ok (.istore_n 2, 1) := by decide +kernel
theorem dX1_inNext_2 : decode cX1_inNext 2 = .ok (.iconst 0, 1) := by decide +kernel
theorem dX1_inNext_3 : decode cX1_inNext 3 = .ok (.istore_n 3, 1) := by decide +kernel
theorem dX1_inNext_4 : decode cX1_inNext 4 = .ok (.iload_n 3, 1) := by decide +kernel
theorem dX1_inNext_5 : decode cX1_inNext 5 = .ok (.aload_n 0, 1) := by decide +kernel
theorem dX1_inNext_6 : decode cX1_inNext 6 = .ok (.getfield 58, 3) := by decide +kernel
theorem dX1_inNext_9 : decode cX1_inNext 9 = .ok (.if_icmp .ge 18, 3) := by decide +kernel
theorem dX1_inNext_12 : decode cX1_inNext 12 = .ok (.iload_n 2, 1) := by decide +kernel
theorem dX1_inNext_13 : decode cX1_inNext 13 = .ok (.aload_n 0, 1) := by decide +kernel
theorem dX1_inNext_14 : decode cX1_inNext 14 = .ok (.iload_n 3, 1) := by decide +kernel
theorem dX1_inNext_15 : decode cX1_inNext 15 = .ok (.iload_n 1, 1) := by decide +kernel
theorem dX1_inNext_16 : decode cX1_inNext 16 = .ok (.invokevirtual 138, 3) := by decide +kernel
theorem dX1_inNext_19 : decode cX1_inNext 19 = .ok (.iadd, 1) := by decide +kernel
theorem dX1_inNext_20 : decode cX1_inNext 20 = .ok (.istore_n 2, 1) := by decide +kernel
theorem dX1_inNext_21 : decode cX1_inNext 21 = .ok (.iinc 3 1, 3) := by decide +kernel
theorem dX1_inNext_24 : decode cX1_inNext 24 = .ok (.goto (-20), 3) := by decide +kernel
theorem dX1_inNext_27 : decode cX1_inNext 27 = .ok (.iload_n 2, 1) := by decide +kernel
theorem dX1_inNext_28 : decode cX1_inNext 28 = .ok (.ireturn, 1) := by decide +kernel
theorem dX1_basketValue_0 : decode cX1_basketValue 0 = .ok (.iconst 0, 1) := by decide +kernel
theorem dX1_basketValue_1 : decode cX1_basketValue 1 = .ok (.istore_n 1, 1) := by decide +kernel
theorem dX1_basketValue_2 : decode cX1_basketValue 2 = .ok (.iconst 0, 1) := by decide +kernel
theorem dX1_basketValue_3 : decode cX1_basketValue 3 = .ok (.istore_n 2, 1) := by decide +kernel
theorem dX1_basketValue_4 : decode cX1_basketValue 4 = .ok (.iload_n 2, 1) := by decide +kernel
theorem dX1_basketValue_5 : decode cX1_basketValue 5 = .ok (.bipush 10, 2) := by decide +kernel
theorem dX1_basketValue_7 : decode cX1_basketValue 7 = .ok (.if_icmp .ge 24, 3) := by decide +kernel
theorem dX1_basketValue_10 : decode cX1_basketValue 10 = .ok (.iload_n 1, 1) := by decide +kernel
theorem dX1_basketValue_11 : decode cX1_basketValue 11 = .ok (.aload_n 0, 1) := by decide +kernel
theorem dX1_basketValue_12 : decode cX1_basketValue 12 = .ok (.iload_n 2, 1) := by decide +kernel
theorem dX1_basketValue_13 : decode cX1_basketValue 13 = .ok (.invokevirtual 141, 3) := by decide +kernel
theorem dX1_basketValue_16 : decode cX1_basketValue 16 = .ok (.aload_n 0, 1) := by decide +kernel
theorem dX1_basketValue_17 : decode cX1_basketValue 17 = .ok (.getfield 23, 3) := by decide +kernel
theorem dX1_basketValue_20 : decode cX1_basketValue 20 = .ok (.iload_n 2, 1) := by decide +kernel
theorem dX1_basketValue_21 : decode cX1_basketValue 21 = .ok (.iaload, 1) := by decide +kernel
theorem dX1_basketValue_22 : decode cX1_basketValue 22 = .ok (.imul, 1) := by decide +kernel
theorem dX1_basketValue_23 : decode cX1_basketValue 23 = .ok (.iadd, 1) := by decide +kernel
theorem dX1_basketValue_24 : decode cX1_basketValue 24 = .ok (.istore_n 1, 1) := by decide +kernel
theorem dX1_basketValue_25 : decode cX1_basketValue 25 = .ok (.iinc 2 1, 3) := by decide +kernel
theorem dX1_basketValue_28 : decode cX1_basketValue 28 = .ok (.goto (-24), 3) := by decide +kernel
theorem dX1_basketValue_31 : decode cX1_basketValue 31 = .ok (.iload_n 1, 1) := by decide +kernel
theorem dX1_basketValue_32 : decode cX1_basketValue 32 = .ok (.ireturn, 1) := by decide +kernel
theorem dX1_nextValue_0 : decode cX1_nextValue 0 = .ok (.iconst 0, 1) := by decide +kernel
theorem dX1_nextValue_1 : decode cX1_nextValue 1 = .ok (.istore_n 1, 1) := by decide +kernel
theorem dX1_nextValue_2 : decode cX1_nextValue 2 = .ok (.iconst 0, 1) := by decide +kernel
theorem dX1_nextValue_3 : decode cX1_nextValue 3 = .ok (.istore_n 2, 1) := by decide +kernel
theorem dX1_nextValue_4 : decode cX1_nextValue 4 = .ok (.iload_n 2, 1) := by decide +kernel
theorem dX1_nextValue_5 : decode cX1_nextValue 5 = .ok (.bipush 10, 2) := by decide +kernel
theorem dX1_nextValue_7 : decode cX1_nextValue 7 = .ok (.if_icmp .ge 24, 3) := by decide +kernel
theorem dX1_nextValue_10 : decode cX1_nextValue 10 = .ok (.iload_n 1, 1) := by decide +kernel
theorem dX1_nextValue_11 : decode cX1_nextValue 11 = .ok (.aload_n 0, 1) := by decide +kernel
theorem dX1_nextValue_12 : decode cX1_nextValue 12 = .ok (.iload_n 2, 1) := by decide +kernel
theorem dX1_nextValue_13 : decode cX1_nextValue 13 = .ok (.invokevirtual 144, 3) := by decide +kernel
theorem dX1_nextValue_16 : decode cX1_nextValue 16 = .ok (.aload_n 0, 1) := by decide +kernel
theorem dX1_nextValue_17 : decode cX1_nextValue 17 = .ok (.getfield 23, 3) := by decide +kernel
theorem dX1_nextValue_20 : decode cX1_nextValue 20 = .ok (.iload_n 2, 1) := by decide +kernel
theorem dX1_nextValue_21 : decode cX1_nextValue 21 = .ok (.iaload, 1) := by decide +kernel
theorem dX1_nextValue_22 : decode cX1_nextValue 22 = .ok (.imul, 1) := by decide +kernel
theorem dX1_nextValue_23 : decode cX1_nextValue 23 = .ok (.iadd, 1) := by decide +kernel
theorem dX1_nextValue_24 : decode cX1_nextValue 24 = .ok (.istore_n 1, 1) := by decide +kernel
theorem dX1_nextValue_25 : decode cX1_nextValue 25 = .ok (.iinc 2 1, 3) := by decide +kernel
theorem dX1_nextValue_28 : decode cX1_nextValue 28 = .ok (.goto (-24), 3) := by decide +kernel
theorem dX1_nextValue_31 : decode cX1_nextValue 31 = .ok (.iload_n 1, 1) := by decide +kernel
theorem dX1_nextValue_32 : decode cX1_nextValue 32 = .ok (.ireturn, 1) := by decide +kernel
theorem dX1_priceOfBrought_0 : decode cX1_priceOfBrought 0 = .ok (.aload_n 0, 1) := by decide +kernel
theorem dX1_priceOfBrought_1 : decode cX1_priceOfBrought 1 = .ok (.getfield 23, 3) := by decide +kernel
theorem dX1_priceOfBrought_4 : decode cX1_priceOfBrought 4 = .ok (.aload_n 0, 1) := by decide +kernel
theorem dX1_priceOfBrought_5 : decode cX1_priceOfBrought 5 = .ok (.iload_n 1, 1) := by decide +kernel
theorem dX1_priceOfBrought_6 : decode cX1_priceOfBrought 6 = .ok (.invokevirtual 112, 3) := by decide +kernel
theorem dX1_priceOfBrought_9 : decode cX1_priceOfBrought 9 = .ok (.iaload, 1) := by decide +kernel
theorem dX1_priceOfBrought_10 : decode cX1_priceOfBrought 10 = .ok (.ireturn, 1) := by decide +kernel
theorem dX1_expectedTenths_0 : decode cX1_expectedTenths 0 = .ok (.iconst 0, 1) := by decide +kernel
theorem dX1_expectedTenths_1 : decode cX1_expectedTenths 1 = .ok (.istore_n 1, 1) := by decide +kernel
theorem dX1_expectedTenths_2 : decode cX1_expectedTenths 2 = .ok (.iconst 0, 1) := by decide +kernel
theorem dX1_expectedTenths_3 : decode cX1_expectedTenths 3 = .ok (.istore_n 2, 1) := by decide +kernel
theorem dX1_expectedTenths_4 : decode cX1_expectedTenths 4 = .ok (.iload_n 2, 1) := by decide +kernel
theorem dX1_expectedTenths_5 : decode cX1_expectedTenths 5 = .ok (.aload_n 0, 1) := by decide +kernel
theorem dX1_expectedTenths_6 : decode cX1_expectedTenths 6 = .ok (.getfield 58, 3) := by decide +kernel
theorem dX1_expectedTenths_9 : decode cX1_expectedTenths 9 = .ok (.if_icmp .ge 96, 3) := by decide +kernel
theorem dX1_expectedTenths_12 : decode cX1_expectedTenths 12 = .ok (.aload_n 0, 1) := by decide +kernel
theorem dX1_expectedTenths_13 : decode cX1_expectedTenths 13 = .ok (.getfield 11, 3) := by decide +kernel
theorem dX1_expectedTenths_16 : decode cX1_expectedTenths 16 = .ok (.iload_n 2, 1) := by decide +kernel
theorem dX1_expectedTenths_17 : decode cX1_expectedTenths 17 = .ok (.aaload, 1) := by decide +kernel
theorem dX1_expectedTenths_18 : decode cX1_expectedTenths 18 = .ok (.astore_n 3, 1) := by decide +kernel
theorem dX1_expectedTenths_19 : decode cX1_expectedTenths 19 = .ok (.aload_n 0, 1) := by decide +kernel
theorem dX1_expectedTenths_20 : decode cX1_expectedTenths 20 = .ok (.aload_n 3, 1) := by decide +kernel
theorem dX1_expectedTenths_21 : decode cX1_expectedTenths 21 = .ok (.getfield 106, 3) := by decide +kernel
theorem dX1_expectedTenths_24 : decode cX1_expectedTenths 24 = .ok (.invokevirtual 147, 3) := by decide +kernel
theorem dX1_expectedTenths_27 : decode cX1_expectedTenths 27 = .ok (.istore 4, 2) := by decide +kernel
theorem dX1_expectedTenths_29 : decode cX1_expectedTenths 29 = .ok (.aload_n 3, 1) := by decide +kernel
theorem dX1_expectedTenths_30 : decode cX1_expectedTenths 30 = .ok (.getfield 116, 3) := by decide +kernel
theorem dX1_expectedTenths_33 : decode cX1_expectedTenths 33 = .ok (.iconst 0, 1) := by decide +kernel
theorem dX1_expectedTenths_34 : decode cX1_expectedTenths 34 = .ok (.invokestatic 121, 3) := by decide +kernel
theorem dX1_expectedTenths_37 : decode cX1_expectedTenths 37 = .ok (.bipush 10, 2) := by decide +kernel
theorem dX1_expectedTenths_39 : decode cX1_expectedTenths 39 = .ok (.iload 4, 2) := by decide +kernel
theorem dX1_expectedTenths_41 : decode cX1_expectedTenths 41 = .ok (.isub, 1) := by decide +kernel
theorem dX1_expectedTenths_42 : decode cX1_expectedTenths 42 = .ok (.imul, 1) := by decide +kernel
theorem dX1_expectedTenths_43 : decode cX1_expectedTenths 43 = .ok (.aload_n 3, 1) := by decide +kernel
theorem dX1_expectedTenths_44 : decode cX1_expectedTenths 44 = .ok (.getfield 116, 3) := by decide +kernel
theorem dX1_expectedTenths_47 : decode cX1_expectedTenths 47 = .ok (.iconst 1, 1) := by decide +kernel
theorem dX1_expectedTenths_48 : decode cX1_expectedTenths 48 = .ok (.invokestatic 121, 3) := by decide +kernel
theorem dX1_expectedTenths_51 : decode cX1_expectedTenths 51 = .ok (.iload 4, 2) := by decide +kernel
theorem dX1_expectedTenths_53 : decode cX1_expectedTenths 53 = .ok (.imul, 1) := by decide +kernel
theorem dX1_expectedTenths_54 : decode cX1_expectedTenths 54 = .ok (.iadd, 1) := by decide +kernel
theorem dX1_expectedTenths_55 : decode cX1_expectedTenths 55 = .ok (.istore 5, 2) := by decide +kernel
theorem dX1_expectedTenths_57 : decode cX1_expectedTenths 57 = .ok (.aload_n 3, 1) := by decide +kernel
theorem dX1_expectedTenths_58 : decode cX1_expectedTenths 58 = .ok (.getfield 116, 3) := by decide +kernel
theorem dX1_expectedTenths_61 : decode cX1_expectedTenths 61 = .ok (.aload_n 3, 1) := by decide +kernel
theorem dX1_expectedTenths_62 : decode cX1_expectedTenths 62 = .ok (.getfield 117, 3) := by decide +kernel
theorem dX1_expectedTenths_65 : decode cX1_expectedTenths 65 = .ok (.invokestatic 131, 3) := by decide +kernel
theorem dX1_expectedTenths_68 : decode cX1_expectedTenths 68 = .ok (.bipush 10, 2) := by decide +kernel
theorem dX1_expectedTenths_70 : decode cX1_expectedTenths 70 = .ok (.imul, 1) := by decide +kernel
theorem dX1_expectedTenths_71 : decode cX1_expectedTenths 71 = .ok (.istore 6, 2) := by decide +kernel
theorem dX1_expectedTenths_73 : decode cX1_expectedTenths 73 = .ok (.iload_n 1, 1) := by decide +kernel
theorem dX1_expectedTenths_74 : decode cX1_expectedTenths 74 = .ok (.iload 5, 2) := by decide +kernel
theorem dX1_expectedTenths_76 : decode cX1_expectedTenths 76 = .ok (.aload_n 0, 1) := by decide +kernel
theorem dX1_expectedTenths_77 : decode cX1_expectedTenths 77 = .ok (.aload_n 3, 1) := by decide +kernel
theorem dX1_expectedTenths_78 : decode cX1_expectedTenths 78 = .ok (.getfield 106, 3) := by decide +kernel
theorem dX1_expectedTenths_81 : decode cX1_expectedTenths 81 = .ok (.invokevirtual 150, 3) := by decide +kernel
theorem dX1_expectedTenths_84 : decode cX1_expectedTenths 84 = .ok (.imul, 1) := by decide +kernel
theorem dX1_expectedTenths_85 : decode cX1_expectedTenths 85 = .ok (.iload 6, 2) := by decide +kernel
theorem dX1_expectedTenths_87 : decode cX1_expectedTenths 87 = .ok (.aload_n 0, 1) := by decide +kernel
theorem dX1_expectedTenths_88 : decode cX1_expectedTenths 88 = .ok (.aload_n 3, 1) := by decide +kernel
theorem dX1_expectedTenths_89 : decode cX1_expectedTenths 89 = .ok (.getfield 109, 3) := by decide +kernel
theorem dX1_expectedTenths_92 : decode cX1_expectedTenths 92 = .ok (.invokevirtual 150, 3) := by decide +kernel
theorem dX1_expectedTenths_95 : decode cX1_expectedTenths 95 = .ok (.imul, 1) := by decide +kernel
theorem dX1_expectedTenths_96 : decode cX1_expectedTenths 96 = .ok (.iadd, 1) := by decide +kernel
theorem dX1_expectedTenths_97 : decode cX1_expectedTenths 97 = .ok (.iadd, 1) := by decide +kernel
theorem dX1_expectedTenths_98 : decode cX1_expectedTenths 98 = .ok (.istore_n 1, 1) := by decide +kernel
theorem dX1_expectedTenths_99 : decode cX1_expectedTenths 99 = .ok (.iinc 2 1, 3) := by decide +kernel
theorem dX1_expectedTenths_102 : decode cX1_expectedTenths 102 = .ok (.goto (-98), 3) := by decide +kernel
theorem dX1_expectedTenths_105 : decode cX1_expectedTenths 105 = .ok (.iload_n 1, 1) := by decide +kernel
theorem dX1_expectedTenths_106 : decode cX1_expectedTenths 106 = .ok (.ireturn, 1) := by decide +kernel
theorem dX1_passYear_0 : decode cX1_passYear 0 = .ok (.aload_n 0, 1) := by decide +kernel
theorem dX1_passYear_1 : decode cX1_passYear 1 = .ok (.iconst 0, 1) := by decide +kernel
theorem dX1_passYear_2 : decode cX1_passYear 2 = .ok (.putfield 67, 3) := by decide +kernel
theorem dX1_passYear_5 : decode cX1_passYear 5 = .ok (.iconst 0, 1) := by decide +kernel
theorem dX1_passYear_6 : decode cX1_passYear 6 = .ok (.istore_n 1, 1) := by decide +kernel
theorem dX1_passYear_7 : decode cX1_passYear 7 = .ok (.iload_n 1, 1) := by decide +kernel
theorem dX1_passYear_8 : decode cX1_passYear 8 = .ok (.aload_n 0, 1) := by decide +kernel
theorem dX1_passYear_9 : decode cX1_passYear 9 = .ok (.getfield 58, 3) := by decide +kernel
theorem dX1_passYear_12 : decode cX1_passYear 12 = .ok (.if_icmp .ge 64, 3) := by decide +kernel
theorem dX1_passYear_15 : decode cX1_passYear 15 = .ok (.aload_n 0, 1) := by decide +kernel
theorem dX1_passYear_16 : decode cX1_passYear 16 = .ok (.getfield 11, 3) := by decide +kernel
theorem dX1_passYear_19 : decode cX1_passYear 19 = .ok (.iload_n 1, 1) := by decide +kernel
theorem dX1_passYear_20 : decode cX1_passYear 20 = .ok (.aaload, 1) := by decide +kernel
theorem dX1_passYear_21 : decode cX1_passYear 21 = .ok (.astore_n 2, 1) := by decide +kernel
theorem dX1_passYear_22 : decode cX1_passYear 22 = .ok (.aload_n 2, 1) := by decide +kernel
theorem dX1_passYear_23 : decode cX1_passYear 23 = .ok (.getfield 106, 3) := by decide +kernel
theorem dX1_passYear_26 : decode cX1_passYear 26 = .ok (.iconst 5, 1) := by decide +kernel
theorem dX1_passYear_27 : decode cX1_passYear 27 = .ok (.if_icmp .eq 22, 3) := by decide +kernel
theorem dX1_passYear_30 : decode cX1_passYear 30 = .ok (.aload_n 0, 1) := by decide +kernel
theorem dX1_passYear_31 : decode cX1_passYear 31 = .ok (.invokevirtual 153, 3) := by decide +kernel
theorem dX1_passYear_34 : decode cX1_passYear 34 = .ok (.aload_n 0, 1) := by decide +kernel
theorem dX1_passYear_35 : decode cX1_passYear 35 = .ok (.aload_n 2, 1) := by decide +kernel
theorem dX1_passYear_36 : decode cX1_passYear 36 = .ok (.getfield 106, 3) := by decide +kernel
theorem dX1_passYear_39 : decode cX1_passYear 39 = .ok (.invokevirtual 147, 3) := by decide +kernel
theorem dX1_passYear_42 : decode cX1_passYear 42 = .ok (.if_icmp .ge 7, 3) := by decide +kernel
theorem dX1_passYear_45 : decode cX1_passYear 45 = .ok (.iconst 1, 1) := by decide +kernel
theorem dX1_passYear_46 : decode cX1_passYear 46 = .ok (.goto 4, 3) := by decide +kernel
theorem dX1_passYear_49 : decode cX1_passYear 49 = .ok (.iconst 0, 1) := by decide +kernel
theorem dX1_passYear_50 : decode cX1_passYear 50 = .ok (.istore_n 3, 1) := by decide +kernel
theorem dX1_passYear_51 : decode cX1_passYear 51 = .ok (.iload_n 3, 1) := by decide +kernel
theorem dX1_passYear_52 : decode cX1_passYear 52 = .ok (.ifCond .eq 13, 3) := by decide +kernel
theorem dX1_passYear_55 : decode cX1_passYear 55 = .ok (.aload_n 0, 1) := by decide +kernel
theorem dX1_passYear_56 : decode cX1_passYear 56 = .ok (.dup, 1) := by decide +kernel
theorem dX1_passYear_57 : decode cX1_passYear 57 = .ok (.getfield 67, 3) := by decide +kernel
theorem dX1_passYear_60 : decode cX1_passYear 60 = .ok (.iconst 1, 1) := by decide +kernel
theorem dX1_passYear_61 : decode cX1_passYear 61 = .ok (.iadd, 1) := by decide +kernel
theorem dX1_passYear_62 : decode cX1_passYear 62 = .ok (.putfield 67, 3) := by decide +kernel
theorem dX1_passYear_65 : decode cX1_passYear 65 = .ok (.aload_n 2, 1) := by decide +kernel
theorem dX1_passYear_66 : decode cX1_passYear 66 = .ok (.iload_n 3, 1) := by decide +kernel
theorem dX1_passYear_67 : decode cX1_passYear 67 = .ok (.invokevirtual 156, 3) := by decide +kernel
theorem dX1_passYear_70 : decode cX1_passYear 70 = .ok (.iinc 1 1, 3) := by decide +kernel
theorem dX1_passYear_73 : decode cX1_passYear 73 = .ok (.goto (-66), 3) := by decide +kernel
theorem dX1_passYear_76 : decode cX1_passYear 76 = .ok (.aload_n 0, 1) := by decide +kernel
theorem dX1_passYear_77 : decode cX1_passYear 77 = .ok (.dup, 1) := by decide +kernel
theorem dX1_passYear_78 : decode cX1_passYear 78 = .ok (.getfield 64, 3) := by decide +kernel
theorem dX1_passYear_81 : decode cX1_passYear 81 = .ok (.iconst 1, 1) := by decide +kernel
theorem dX1_passYear_82 : decode cX1_passYear 82 = .ok (.iadd, 1) := by decide +kernel
theorem dX1_passYear_83 : decode cX1_passYear 83 = .ok (.putfield 64, 3) := by decide +kernel
theorem dX1_passYear_86 : decode cX1_passYear 86 = .ok (.aload_n 0, 1) := by decide +kernel
theorem dX1_passYear_87 : decode cX1_passYear 87 = .ok (.getfield 67, 3) := by decide +kernel
theorem dX1_passYear_90 : decode cX1_passYear 90 = .ok (.ireturn, 1) := by decide +kernel
theorem dX1_drawByTen_0 : decode cX1_drawByTen 0 = .ok (.aload_n 0, 1) := by decide +kernel
theorem dX1_drawByTen_1 : decode cX1_drawByTen 1 = .ok (.aload_n 0, 1) := by decide +kernel
theorem dX1_drawByTen_2 : decode cX1_drawByTen 2 = .ok (.getfield 27, 3) := by decide +kernel
theorem dX1_drawByTen_5 : decode cX1_drawByTen 5 = .ok (.ldc 160, 2) := by decide +kernel
theorem dX1_drawByTen_7 : decode cX1_drawByTen 7 = .ok (.imul, 1) := by decide +kernel
theorem dX1_drawByTen_8 : decode cX1_drawByTen 8 = .ok (.sipush 12345, 3) := by decide +kernel
theorem dX1_drawByTen_11 : decode cX1_drawByTen 11 = .ok (.iadd, 1) := by decide +kernel
theorem dX1_drawByTen_12 : decode cX1_drawByTen 12 = .ok (.ldc 161, 2) := by decide +kernel
theorem dX1_drawByTen_14 : decode cX1_drawByTen 14 = .ok (.iand, 1) := by decide +kernel
theorem dX1_drawByTen_15 : decode cX1_drawByTen 15 = .ok (.putfield 27, 3) := by decide +kernel
theorem dX1_drawByTen_18 : decode cX1_drawByTen 18 = .ok (.aload_n 0, 1) := by decide +kernel
theorem dX1_drawByTen_19 : decode cX1_drawByTen 19 = .ok (.getfield 27, 3) := by decide +kernel
theorem dX1_drawByTen_22 : decode cX1_drawByTen 22 = .ok (.ldc 162, 2) := by decide +kernel
theorem dX1_drawByTen_24 : decode cX1_drawByTen 24 = .ok (.idiv, 1) := by decide +kernel
theorem dX1_drawByTen_25 : decode cX1_drawByTen 25 = .ok (.bipush 10, 2) := by decide +kernel
theorem dX1_drawByTen_27 : decode cX1_drawByTen 27 = .ok (.irem, 1) := by decide +kernel
theorem dX1_drawByTen_28 : decode cX1_drawByTen 28 = .ok (.ireturn, 1) := by decide +kernel
theorem dX3_init_0 : decode cX3_init 0 = .ok (.aload_n 0, 1) := by decide +kernel
theorem dX3_init_1 : decode cX3_init 1 = .ok (.invokespecial 3, 3) := by decide +kernel
theorem dX3_init_4 : decode cX3_init 4 = .ok (.aload_n 0, 1) := by decide +kernel
theorem dX3_init_5 : decode cX3_init 5 = .ok (.bipush 6, 2) := by decide +kernel
theorem dX3_init_7 : decode cX3_init 7 = .ok (.newarray .int, 2) := by decide +kernel
theorem dX3_init_9 : decode cX3_init 9 = .ok (.putfield 9, 3) := by decide +kernel
theorem dX3_init_12 : decode cX3_init 12 = .ok (.aload_n 0, 1) := by decide +kernel
theorem dX3_init_13 : decode cX3_init 13 = .ok (.bipush 6, 2) := by decide +kernel
theorem dX3_init_15 : decode cX3_init 15 = .ok (.newarray .int, 2) := by decide +kernel
theorem dX3_init_17 : decode cX3_init 17 = .ok (.putfield 15, 3) := by decide +kernel
theorem dX3_init_20 : decode cX3_init 20 = .ok (.aload_n 0, 1) := by decide +kernel
theorem dX3_init_21 : decode cX3_init 21 = .ok (.bipush 6, 2) := by decide +kernel
theorem dX3_init_23 : decode cX3_init 23 = .ok (.newarray .int, 2) := by decide +kernel
theorem dX3_init_25 : decode cX3_init 25 = .ok (.putfield 18, 3) := by decide +kernel
theorem dX3_init_28 : decode cX3_init 28 = .ok (.aload_n 0, 1) := by decide +kernel
theorem dX3_init_29 : decode cX3_init 29 = .ok (.bipush 6, 2) := by decide +kernel
theorem dX3_init_31 : decode cX3_init 31 = .ok (.newarray .int, 2) := by decide +kernel
theorem dX3_init_33 : decode cX3_init 33 = .ok (.putfield 21, 3) := by decide +kernel
theorem dX3_init_36 : decode cX3_init 36 = .ok (.aload_n 0, 1) := by decide +kernel
theorem dX3_init_37 : decode cX3_init 37 = .ok (.bipush 7, 2) := by decide +kernel
theorem dX3_init_39 : decode cX3_init 39 = .ok (.newarray .int, 2) := by decide +kernel
theorem dX3_init_41 : decode cX3_init 41 = .ok (.putfield 24, 3) := by decide +kernel
theorem dX3_init_44 : decode cX3_init 44 = .ok (.aload_n 0, 1) := by decide +kernel
theorem dX3_init_45 : decode cX3_init 45 = .ok (.bipush 36, 2) := by decide +kernel
theorem dX3_init_47 : decode cX3_init 47 = .ok (.newarray .int, 2) := by decide +kernel
theorem dX3_init_49 : decode cX3_init 49 = .ok (.putfield 27, 3) := by decide +kernel
theorem dX3_init_52 : decode cX3_init 52 = .ok (.aload_n 0, 1) := by decide +kernel
theorem dX3_init_53 : decode cX3_init 53 = .ok (.bipush 6, 2) := by decide +kernel
theorem dX3_init_55 : decode cX3_init 55 = .ok (.newarray .int, 2) := by decide +kernel
theorem dX3_init_57 : decode cX3_init 57 = .ok (.putfield 30, 3) := by decide +kernel
theorem dX3_init_60 : decode cX3_init 60 = .ok (.aload_n 0, 1) := by decide +kernel
theorem dX3_init_61 : decode cX3_init 61 = .ok (.bipush 6, 2) := by decide +kernel
theorem dX3_init_63 : decode cX3_init 63 = .ok (.newarray .int, 2) := by decide +kernel
theorem dX3_init_65 : decode cX3_init 65 = .ok (.putfield 33, 3) := by decide +kernel
theorem dX3_init_68 : decode cX3_init 68 = .ok (.return_, 1) := by decide +kernel
theorem dX3_lay_0 : decode cX3_lay 0 = .ok (.aload_n 0, 1) := by decide +kernel
theorem dX3_lay_1 : decode cX3_lay 1 = .ok (.aload_n 1, 1) := by decide +kernel
theorem dX3_lay_2 : decode cX3_lay 2 = .ok (.getfield 36, 3) := by decide +kernel
theorem dX3_lay_5 : decode cX3_lay 5 = .ok (.putfield 42, 3) := by decide +kernel
theorem dX3_lay_8 : decode cX3_lay 8 = .ok (.aload_n 0, 1) := by decide +kernel
theorem dX3_lay_9 : decode cX3_lay 9 = .ok (.iconst 1, 1) := by decide +kernel
theorem dX3_lay_10 : decode cX3_lay 10 = .ok (.aload_n 1, 1) := by decide +kernel
theorem dX3_lay_11 : decode cX3_lay 11 = .ok (.getfield 43, 3) := by decide +kernel
theorem dX3_lay_14 : decode cX3_lay 14 = .ok (.ishl, 1) := by decide +kernel
theorem dX3_lay_15 : decode cX3_lay 15 = .ok (.iconst 1, 1) := by decide +kernel
theorem dX3_lay_16 : decode cX3_lay 16 = .ok (.isub, 1) := by decide +kernel
theorem dX3_lay_17 : decode cX3_lay 17 = .ok (.putfield 46, 3) := by decide +kernel
theorem dX3_lay_20 : decode cX3_lay 20 = .ok (.aload_n 0, 1) := by decide +kernel
theorem dX3_lay_21 : decode cX3_lay 21 = .ok (.aload_n 1, 1) := by decide +kernel
theorem dX3_lay_22 : decode cX3_lay 22 = .ok (.invokevirtual 49, 3) := by decide +kernel
theorem dX3_lay_25 : decode cX3_lay 25 = .ok (.aload_n 0, 1) := by decide +kernel
theorem dX3_lay_26 : decode cX3_lay 26 = .ok (.getfield 24, 3) := by decide +kernel
theorem dX3_lay_29 : decode cX3_lay 29 = .ok (.aload_n 0, 1) := by decide +kernel
theorem dX3_lay_30 : decode cX3_lay 30 = .ok (.getfield 42, 3) := by decide +kernel
theorem dX3_lay_33 : decode cX3_lay 33 = .ok (.iconst 0, 1) := by decide +kernel
theorem dX3_lay_34 : decode cX3_lay 34 = .ok (.iastore, 1) := by decide +kernel
theorem dX3_lay_35 : decode cX3_lay 35 = .ok (.aload_n 0, 1) := by decide +kernel
theorem dX3_lay_36 : decode cX3_lay 36 = .ok (.getfield 42, 3) := by decide +kernel
theorem dX3_lay_39 : decode cX3_lay 39 = .ok (.iconst 1, 1) := by decide +kernel
theorem dX3_lay_40 : decode cX3_lay 40 = .ok (.isub, 1) := by decide +kernel
theorem dX3_lay_41 : decode cX3_lay 41 = .ok (.istore_n 2, 1) := by decide +kernel
theorem dX3_lay_42 : decode cX3_lay 42 = .ok (.iload_n 2, 1) := by decide +kernel
theorem dX3_lay_43 : decode cX3_lay 43 = .ok (.ifCond .lt 36, 3) := by decide +kernel
theorem dX3_lay_46 : decode cX3_lay 46 = .ok (.aload_n 0, 1) := by decide +kernel
theorem dX3_lay_47 : decode cX3_lay 47 = .ok (.iload_n 2, 1) := by decide +kernel
theorem dX3_lay_48 : decode cX3_lay 48 = .ok (.aload_n 1, 1) := by decide +kernel
theorem dX3_lay_49 : decode cX3_lay 49 = .ok (.invokevirtual 53, 3) := by decide +kernel
theorem dX3_lay_52 : decode cX3_lay 52 = .ok (.aload_n 0, 1) := by decide +kernel
theorem dX3_lay_53 : decode cX3_lay 53 = .ok (.getfield 24, 3) := by decide +kernel
theorem dX3_lay_56 : decode cX3_lay 56 = .ok (.iload_n 2, 1) := by decide +kernel
theorem dX3_lay_57 : decode cX3_lay 57 = .ok (.aload_n 0, 1) := by decide +kernel
theorem dX3_lay_58 : decode cX3_lay 58 = .ok (.getfield 24, 3) := by decide +kernel
theorem dX3_lay_61 : decode cX3_lay 61 = .ok (.iload_n 2, 1) := by decide +kernel
theorem dX3_lay_62 : decode cX3_lay 62 = .ok (.iconst 1, 1) := by decide +kernel
theorem dX3_lay_63 : decode cX3_lay 63 = .ok (.iadd, 1) := by decide +kernel
theorem dX3_lay_64 : decode cX3_lay 64 = .ok (.iaload, 1) := by decide +kernel
theorem dX3_lay_65 : decode cX3_lay 65 = .ok (.aload_n 0, 1) := by decide +kernel
theorem dX3_lay_66 : decode cX3_lay 66 = .ok (.getfield 15, 3) := by decide +kernel
theorem dX3_lay_69 : decode cX3_lay 69 = .ok (.iload_n 2, 1) := by decide +kernel
theorem dX3_lay_70 : decode cX3_lay 70 = .ok (.iaload, 1) := by decide +kernel
theorem dX3_lay_71 : decode cX3_lay 71 = .ok (.iadd, 1) := by decide +kernel
theorem dX3_lay_72 : decode cX3_lay 72 = .ok (.iastore, 1) := by decide +kernel
theorem dX3_lay_73 : decode cX3_lay 73 = .ok (.iinc 2 (-1), 3) := by decide +kernel
theorem dX3_lay_76 : decode cX3_lay 76 = .ok (.goto (-34), 3) := by decide +kernel
theorem dX3_lay_79 : decode cX3_lay 79 = .ok (.return_, 1) := by decide +kernel
theorem dX3_layFolk_0 : decode cX3_layFolk 0 = .ok (.aload_n 0, 1) := by decide +kernel
theorem dX3_layFolk_1 : decode cX3_layFolk 1 = .ok (.iconst 0, 1) := by decide +kernel
theorem dX3_layFolk_2 : decode cX3_layFolk 2 = .ok (.putfield 57, 3) := by decide +kernel
theorem dX3_layFolk_5 : decode cX3_layFolk 5 = .ok (.iconst 0, 1) := by decide +kernel
theorem dX3_layFolk_6 : decode cX3_layFolk 6 = .ok (.istore_n 2, 1) := by decide +kernel
theorem dX3_layFolk_7 : decode cX3_layFolk 7 = .ok (.iload_n 2, 1) := by decide +kernel
theorem dX3_layFolk_8 : decode cX3_layFolk 8 = .ok (.bipush 6, 2) := by decide +kernel
theorem dX3_layFolk_10 : decode cX3_layFolk 10 = .ok (.if_icmp .ge 78, 3) := by decide +kernel
theorem dX3_layFolk_13 : decode cX3_layFolk 13 = .ok (.aload_n 0, 1) := by decide +kernel
theorem dX3_layFolk_14 : decode cX3_layFolk 14 = .ok (.getfield 30, 3) := by decide +kernel
theorem dX3_layFolk_17 : decode cX3_layFolk 17 = .ok (.iload_n 2, 1) := by decide +kernel
theorem dX3_layFolk_18 : decode cX3_layFolk 18 = .ok (.aload_n 1, 1) := by decide +kernel
theorem dX3_layFolk_19 : decode cX3_layFolk 19 = .ok (.iload_n 2, 1) := by decide +kernel
theorem dX3_layFolk_20 : decode cX3_layFolk 20 = .ok (.invokevirtual 60, 3) := by decide +kernel
theorem dX3_layFolk_23 : decode cX3_layFolk 23 = .ok (.iastore, 1) := by decide +kernel
theorem dX3_layFolk_24 : decode cX3_layFolk 24 = .ok (.aload_n 0, 1) := by decide +kernel
theorem dX3_layFolk_25 : decode cX3_layFolk 25 = .ok (.getfield 33, 3) := by decide +kernel
theorem dX3_layFolk_28 : decode cX3_layFolk 28 = .ok (.iload_n 2, 1) := by decide +kernel
theorem dX3_layFolk_29 : decode cX3_layFolk 29 = .ok (.iconst 0, 1) := by decide +kernel
theorem dX3_layFolk_30 : decode cX3_layFolk 30 = .ok (.iastore, 1) := by decide +kernel
theorem dX3_layFolk_31 : decode cX3_layFolk 31 = .ok (.aload_n 1, 1) := by decide +kernel
theorem dX3_layFolk_32 : decode cX3_layFolk 32 = .ok (.iload_n 2, 1) := by decide +kernel
theorem dX3_layFolk_33 : decode cX3_layFolk 33 = .ok (.invokevirtual 64, 3) := by decide +kernel
theorem dX3_layFolk_36 : decode cX3_layFolk 36 = .ok (.ifCond .eq 46, 3) := by decide +kernel
theorem dX3_layFolk_39 : decode cX3_layFolk 39 = .ok (.aload_n 0, 1) := by decide +kernel
theorem dX3_layFolk_40 : decode cX3_layFolk 40 = .ok (.getfield 33, 3) := by decide +kernel
theorem dX3_layFolk_43 : decode cX3_layFolk 43 = .ok (.iload_n 2, 1) := by decide +kernel
theorem dX3_layFolk_44 : decode cX3_layFolk 44 = .ok (.aload_n 1, 1) := by decide +kernel
theorem dX3_layFolk_45 : decode cX3_layFolk 45 = .ok (.getfield 68, 3) := by decide +kernel
theorem dX3_layFolk_48 : decode cX3_layFolk 48 = .ok (.iload_n 2, 1) := by decide +kernel
theorem dX3_layFolk_49 : decode cX3_layFolk 49 = .ok (.aaload, 1) := by decide +kernel
theorem dX3_layFolk_50 : decode cX3_layFolk 50 = .ok (.getfield 72, 3) := by decide +kernel
theorem dX3_layFolk_53 : decode cX3_layFolk 53 = .ok (.iastore, 1) := by decide +kernel
theorem dX3_layFolk_54 : decode cX3_layFolk 54 = .ok (.aload_n 0, 1) := by decide +kernel
theorem dX3_layFolk_55 : decode cX3_layFolk 55 = .ok (.dup, 1) := by decide +kernel
theorem dX3_layFolk_56 : decode cX3_layFolk 56 = .ok (.getfield 57, 3) := by decide +kernel
theorem dX3_layFolk_59 : decode cX3_layFolk 59 = .ok (.aload_n 1, 1) := by decide +kernel
theorem dX3_layFolk_60 : decode cX3_layFolk 60 = .ok (.getfield 68, 3) := by decide +kernel
theorem dX3_layFolk_63 : decode cX3_layFolk 63 = .ok (.iload_n 2, 1) := by decide +kernel
theorem dX3_layFolk_64 : decode cX3_layFolk 64 = .ok (.aaload, 1) := by decide +kernel
theorem dX3_layFolk_65 : decode cX3_layFolk 65 = .ok (.invokevirtual 77, 3) := by decide +kernel
theorem dX3_layFolk_68 : decode cX3_layFolk 68 = .ok (.ifCond .eq 9, 3) := by decide +kernel
theorem dX3_layFolk_71 : decode cX3_layFolk 71 = .ok (.iconst 1, 1) := by decide +kernel
theorem dX3_layFolk_72 : decode cX3_layFolk 72 = .ok (.iload_n 2, 1) := by decide +kernel
theorem dX3_layFolk_73 : decode cX3_layFolk 73 = .ok (.ishl, 1) := by decide +kernel
theorem dX3_layFolk_74 : decode cX3_layFolk 74 = .ok (.goto 4, 3) := by decide +kernel
theorem dX3_layFolk_77 : decode cX3_layFolk 77 = .ok (.iconst 0, 1) := by decide +kernel
theorem dX3_layFolk_78 : decode cX3_layFolk 78 = .ok (.ior, 1) := by decide +kernel
theorem dX3_layFolk_79 : decode cX3_layFolk 79 = .ok (.putfield 57, 3) := by decide +kernel
theorem dX3_layFolk_82 : decode cX3_layFolk 82 = .ok (.iinc 2 1, 3) := by decide +kernel
theorem dX3_layFolk_85 : decode cX3_layFolk 85 = .ok (.goto (-78), 3) := by decide +kernel
theorem dX3_layFolk_88 : decode cX3_layFolk 88 = .ok (.return_, 1) := by decide +kernel
theorem dX3_layTree_0 : decode cX3_layTree 0 = .ok (.aload_n 2, 1) := by decide +kernel
theorem dX3_layTree_1 : decode cX3_layTree 1 = .ok (.getfield 81, 3) := by decide +kernel
theorem dX3_layTree_4 : decode cX3_layTree 4 = .ok (.iload_n 1, 1) := by decide +kernel
theorem dX3_layTree_5 : decode cX3_layTree 5 = .ok (.aaload, 1) := by decide +kernel
theorem dX3_layTree_6 : decode cX3_layTree 6 = .ok (.astore_n 3, 1) := by decide +kernel
theorem dX3_layTree_7 : decode cX3_layTree 7 = .ok (.aload_n 0, 1) := by decide +kernel
theorem dX3_layTree_8 : decode cX3_layTree 8 = .ok (.getfield 9, 3) := by decide +kernel
theorem dX3_layTree_11 : decode cX3_layTree 11 = .ok (.iload_n 1, 1) := by decide +kernel
theorem dX3_layTree_12 : decode cX3_layTree 12 = .ok (.aload_n 0, 1) := by decide +kernel
theorem dX3_layTree_13 : decode cX3_layTree 13 = .ok (.getfield 46, 3) := by decide +kernel
theorem dX3_layTree_16 : decode cX3_layTree 16 = .ok (.aload_n 3, 1) := by decide +kernel
theorem dX3_layTree_17 : decode cX3_layTree 17 = .ok (.getfield 85, 3) := by decide +kernel
theorem dX3_layTree_20 : decode cX3_layTree 20 = .ok (.iconst (-1), 1) := by decide +kernel
theorem dX3_layTree_21 : decode cX3_layTree 21 = .ok (.ixor, 1) := by decide +kernel
theorem dX3_layTree_22 : decode cX3_layTree 22 = .ok (.iand, 1) := by decide +kernel
theorem dX3_layTree_23 : decode cX3_layTree 23 = .ok (.iastore, 1) := by decide +kernel
theorem dX3_layTree_24 : decode cX3_layTree 24 = .ok (.aload_n 0, 1) := by decide +kernel
theorem dX3_layTree_25 : decode cX3_layTree 25 = .ok (.getfield 15, 3) := by decide +kernel
theorem dX3_layTree_28 : decode cX3_layTree 28 = .ok (.iload_n 1, 1) := by decide +kernel
theorem dX3_layTree_29 : decode cX3_layTree 29 = .ok (.aload_n 3, 1) := by decide +kernel
theorem dX3_layTree_30 : decode cX3_layTree 30 = .ok (.getfield 90, 3) := by decide +kernel
theorem dX3_layTree_33 : decode cX3_layTree 33 = .ok (.iconst 0, 1) := by decide +kernel
theorem dX3_layTree_34 : decode cX3_layTree 34 = .ok (.invokestatic 93, 3) := by decide +kernel
theorem dX3_layTree_37 : decode cX3_layTree 37 = .ok (.iastore, 1) := by decide +kernel
theorem dX3_layTree_38 : decode cX3_layTree 38 = .ok (.aload_n 0, 1) := by decide +kernel
theorem dX3_layTree_39 : decode cX3_layTree 39 = .ok (.getfield 18, 3) := by decide +kernel
theorem dX3_layTree_42 : decode cX3_layTree 42 = .ok (.iload_n 1, 1) := by decide +kernel
theorem dX3_layTree_43 : decode cX3_layTree 43 = .ok (.aload_n 3, 1) := by decide +kernel
theorem dX3_layTree_44 : decode cX3_layTree 44 = .ok (.getfield 90, 3) := by decide +kernel
theorem dX3_layTree_47 : decode cX3_layTree 47 = .ok (.aload_n 3, 1) := by decide +kernel
theorem dX3_layTree_48 : decode cX3_layTree 48 = .ok (.getfield 97, 3) := by decide +kernel
theorem dX3_layTree_51 : decode cX3_layTree 51 = .ok (.invokestatic 101, 3) := by decide +kernel
theorem dX3_layTree_54 : decode cX3_layTree 54 = .ok (.iastore, 1) := by decide +kernel
theorem dX3_layTree_55 : decode cX3_layTree 55 = .ok (.aload_n 0, 1) := by decide +kernel
theorem dX3_layTree_56 : decode cX3_layTree 56 = .ok (.getfield 21, 3) := by decide +kernel
theorem dX3_layTree_59 : decode cX3_layTree 59 = .ok (.iload_n 1, 1) := by decide +kernel
theorem dX3_layTree_60 : decode cX3_layTree 60 = .ok (.aload_n 2, 1) := by decide +kernel
theorem dX3_layTree_61 : decode cX3_layTree 61 = .ok (.aload_n 3, 1) := by decide +kernel
theorem dX3_layTree_62 : decode cX3_layTree 62 = .ok (.getfield 104, 3) := by decide +kernel
theorem dX3_layTree_65 : decode cX3_layTree 65 = .ok (.invokevirtual 60, 3) := by decide +kernel
theorem dX3_layTree_68 : decode cX3_layTree 68 = .ok (.iastore, 1) := by decide +kernel
theorem dX3_layTree_69 : decode cX3_layTree 69 = .ok (.aload_n 0, 1) := by decide +kernel
theorem dX3_layTree_70 : decode cX3_layTree 70 = .ok (.getfield 18, 3) := by decide +kernel
theorem dX3_layTree_73 : decode cX3_layTree 73 = .ok (.iload_n 1, 1) := by decide +kernel
theorem dX3_layTree_74 : decode cX3_layTree 74 = .ok (.iaload, 1) := by decide +kernel
theorem dX3_layTree_75 : decode cX3_layTree 75 = .ok (.aload_n 2, 1) := by decide +kernel
theorem dX3_layTree_76 : decode cX3_layTree 76 = .ok (.aload_n 3, 1) := by decide +kernel
theorem dX3_layTree_77 : decode cX3_layTree 77 = .ok (.getfield 104, 3) := by decide +kernel
theorem dX3_layTree_80 : decode cX3_layTree 80 = .ok (.invokevirtual 107, 3) := by decide +kernel
theorem dX3_layTree_83 : decode cX3_layTree 83 = .ok (.imul, 1) := by decide +kernel
theorem dX3_layTree_84 : decode cX3_layTree 84 = .ok (.istore 4, 2) := by decide +kernel
theorem dX3_layTree_86 : decode cX3_layTree 86 = .ok (.iconst 0, 1) := by decide +kernel
theorem dX3_layTree_87 : decode cX3_layTree 87 = .ok (.istore 5, 2) := by decide +kernel
theorem dX3_layTree_89 : decode cX3_layTree 89 = .ok (.iload 5, 2) := by decide +kernel
theorem dX3_layTree_91 : decode cX3_layTree 91 = .ok (.bipush 6, 2) := by decide +kernel
theorem dX3_layTree_93 : decode cX3_layTree 93 = .ok (.if_icmp .ge 37, 3) := by decide +kernel
theorem dX3_layTree_96 : decode cX3_layTree 96 = .ok (.aload_n 0, 1) := by decide +kernel
theorem dX3_layTree_97 : decode cX3_layTree 97 = .ok (.getfield 27, 3) := by decide +kernel
theorem dX3_layTree_100 : decode cX3_layTree 100 = .ok (.iload_n 1, 1) := by decide +kernel
theorem dX3_layTree_101 : decode cX3_layTree 101 = .ok (.bipush 6, 2) := by decide +kernel
theorem dX3_layTree_103 : decode cX3_layTree 103 = .ok (.imul, 1) := by decide +kernel
theorem dX3_layTree_104 : decode cX3_layTree 104 = .ok (.iload 5, 2) := by decide +kernel
theorem dX3_layTree_106 : decode cX3_layTree 106 = .ok (.iadd, 1) := by decide +kernel
theorem dX3_layTree_107 : decode cX3_layTree 107 = .ok (.aload_n 0, 1) := by decide +kernel
theorem dX3_layTree_108 : decode cX3_layTree 108 = .ok (.getfield 15, 3) := by decide +kernel
theorem dX3_layTree_111 : decode cX3_layTree 111 = .ok (.iload_n 1, 1) := by decide +kernel
theorem dX3_layTree_112 : decode cX3_layTree 112 = .ok (.iaload, 1) := by decide +kernel
theorem dX3_layTree_113 : decode cX3_layTree 113 = .ok (.aload_n 2, 1) := by decide +kernel
theorem dX3_layTree_114 : decode cX3_layTree 114 = .ok (.iload 5, 2) := by decide +kernel
theorem dX3_layTree_116 : decode cX3_layTree 116 = .ok (.invokevirtual 107, 3) := by decide +kernel
theorem dX3_layTree_119 : decode cX3_layTree 119 = .ok (.imul, 1) := by decide +kernel
theorem dX3_layTree_120 : decode cX3_layTree 120 = .ok (.iload 4, 2) := by decide +kernel
theorem dX3_layTree_122 : decode cX3_layTree 122 = .ok (.iadd, 1) := by decide +kernel
theorem dX3_layTree_123 : decode cX3_layTree 123 = .ok (.iastore, 1) := by decide +kernel
theorem dX3_layTree_124 : decode cX3_layTree 124 = .ok (.iinc 5 1, 3) := by decide +kernel
theorem dX3_layTree_127 : decode cX3_layTree 127 = .ok (.goto (-38), 3) := by decide +kernel
theorem dX3_layTree_130 : decode cX3_layTree 130 = .ok (.return_, 1) := by decide +kernel
theorem dX3_freeClimbers_0 : decode cX3_freeClimbers 0 = .ok (.aload_n 0, 1) := by decide +kernel
theorem dX3_freeClimbers_1 : decode cX3_freeClimbers 1 = .ok (.getfield 9, 3) := by decide +kernel
theorem dX3_freeClimbers_4 : decode cX3_freeClimbers 4 = .ok (.iload_n 1, 1) := by decide +kernel
theorem dX3_freeClimbers_5 : decode cX3_freeClimbers 5 = .ok (.iaload, 1) := by decide +kernel
theorem dX3_freeClimbers_6 : decode cX3_freeClimbers 6 = .ok (.iload_n 2, 1) := by decide +kernel
theorem dX3_freeClimbers_7 : decode cX3_freeClimbers 7 = .ok (.aload_n 0, 1) := by decide +kernel
theorem dX3_freeClimbers_8 : decode cX3_freeClimbers 8 = .ok (.getfield 57, 3) := by decide +kernel
theorem dX3_freeClimbers_11 : decode cX3_freeClimbers 11 = .ok (.iconst (-1), 1) := by decide +kernel
theorem dX3_freeClimbers_12 : decode cX3_freeClimbers 12 = .ok (.ixor, 1) := by decide +kernel
theorem dX3_freeClimbers_13 : decode cX3_freeClimbers 13 = .ok (.iand, 1) := by decide +kernel
theorem dX3_freeClimbers_14 : decode cX3_freeClimbers 14 = .ok (.iconst (-1), 1) := by decide +kernel
theorem dX3_freeClimbers_15 : decode cX3_freeClimbers 15 = .ok (.ixor, 1) := by decide +kernel
theorem dX3_freeClimbers_16 : decode cX3_freeClimbers 16 = .ok (.iand, 1) := by decide +kernel
theorem dX3_freeClimbers_17 : decode cX3_freeClimbers 17 = .ok (.ireturn, 1) := by decide +kernel
theorem dX3_freeFolk_0 : decode cX3_freeFolk 0 = .ok (.aload_n 0, 1) := by decide +kernel
theorem dX3_freeFolk_1 : decode cX3_freeFolk 1 = .ok (.iload_n 1, 1) := by decide +kernel
theorem dX3_freeFolk_2 : decode cX3_freeFolk 2 = .ok (.iload_n 2, 1) := by decide +kernel
theorem dX3_freeFolk_3 : decode cX3_freeFolk 3 = .ok (.invokevirtual 110, 3) := by decide +kernel
theorem dX3_freeFolk_6 : decode cX3_freeFolk 6 = .ok (.bipush 32, 2) := by decide +kernel
theorem dX3_freeFolk_8 : decode cX3_freeFolk 8 = .ok (.ior, 1) := by decide +kernel
theorem dX3_freeFolk_9 : decode cX3_freeFolk 9 = .ok (.ireturn, 1) := by decide +kernel
theorem dX3_join_0 : decode cX3_join 0 = .ok (.iload_n 2, 1) := by decide +kernel
theorem dX3_join_1 : decode cX3_join 1 = .ok (.iconst 5, 1) := by decide +kernel
theorem dX3_join_2 : decode cX3_join 2 = .ok (.if_icmp .ne 7, 3) := by decide +kernel
theorem dX3_join_5 : decode cX3_join 5 = .ok (.iload_n 1, 1) := by decide +kernel
theorem dX3_join_6 : decode cX3_join 6 = .ok (.goto 8, 3) := by decide +kernel
theorem dX3_join_9 : decode cX3_join 9 = .ok (.iload_n 1, 1) := by decide +kernel
theorem dX3_join_10 : decode cX3_join 10 = .ok (.iconst 1, 1) := by decide +kernel
theorem dX3_join_11 : decode cX3_join 11 = .ok (.iload_n 2, 1) := by decide +kernel
theorem dX3_join_12 : decode cX3_join 12 = .ok (.ishl, 1) := by decide +kernel
theorem dX3_join_13 : decode cX3_join 13 = .ok (.ior, 1) := by decide +kernel
theorem dX3_join_14 : decode cX3_join 14 = .ok (.ireturn, 1) := by decide +kernel
theorem dX3_newWage_0 : decode cX3_newWage 0 = .ok (.iload_n 1, 1) := by decide +kernel
theorem dX3_newWage_1 : decode cX3_newWage 1 = .ok (.iload_n 2, 1) := by decide +kernel
theorem dX3_newWage_2 : decode cX3_newWage 2 = .ok (.invokestatic 114, 3) := by decide +kernel
theorem dX3_newWage_5 : decode cX3_newWage 5 = .ok (.ifCond .eq 7, 3) := by decide +kernel
theorem dX3_newWage_8 : decode cX3_newWage 8 = .ok (.iconst 0, 1) := by decide +kernel
theorem dX3_newWage_9 : decode cX3_newWage 9 = .ok (.goto 9, 3) := by decide +kernel
theorem dX3_newWage_12 : decode cX3_newWage 12 = .ok (.aload_n 0, 1) := by decide +kernel
theorem dX3_newWage_13 : decode cX3_newWage 13 = .ok (.getfield 33, 3) := by decide +kernel
theorem dX3_newWage_16 : decode cX3_newWage 16 = .ok (.iload_n 2, 1) := by decide +kernel
theorem dX3_newWage_17 : decode cX3_newWage 17 = .ok (.iaload, 1) := by decide +kernel
theorem dX3_newWage_18 : decode cX3_newWage 18 = .ok (.ireturn, 1) := by decide +kernel
theorem dX3_valueBy_0 : decode cX3_valueBy 0 = .ok (.aload_n 0, 1) := by decide +kernel
theorem dX3_valueBy_1 : decode cX3_valueBy 1 = .ok (.getfield 27, 3) := by decide +kernel
theorem dX3_valueBy_4 : decode cX3_valueBy 4 = .ok (.iload_n 1, 1) := by decide +kernel
theorem dX3_valueBy_5 : decode cX3_valueBy 5 = .ok (.bipush 6, 2) := by decide +kernel
theorem dX3_valueBy_7 : decode cX3_valueBy 7 = .ok (.imul, 1) := by decide +kernel
theorem dX3_valueBy_8 : decode cX3_valueBy 8 = .ok (.iload_n 2, 1) := by decide +kernel
theorem dX3_valueBy_9 : decode cX3_valueBy 9 = .ok (.iadd, 1) := by decide +kernel
theorem dX3_valueBy_10 : decode cX3_valueBy 10 = .ok (.iaload, 1) := by decide +kernel
theorem dX3_valueBy_11 : decode cX3_valueBy 11 = .ok (.ireturn, 1) := by decide +kernel
theorem dX3_wouldBear_0 : decode cX3_wouldBear 0 = .ok (.aload_n 0, 1) := by decide +kernel
theorem dX3_wouldBear_1 : decode cX3_wouldBear 1 = .ok (.getfield 15, 3) := by decide +kernel
theorem dX3_wouldBear_4 : decode cX3_wouldBear 4 = .ok (.iload_n 1, 1) := by decide +kernel
theorem dX3_wouldBear_5 : decode cX3_wouldBear 5 = .ok (.iaload, 1) := by decide +kernel
theorem dX3_wouldBear_6 : decode cX3_wouldBear 6 = .ok (.ifCond .le 13, 3) := by decide +kernel
theorem dX3_wouldBear_9 : decode cX3_wouldBear 9 = .ok (.aload_n 0, 1) := by decide +kernel
theorem dX3_wouldBear_10 : decode cX3_wouldBear 10 = .ok (.getfield 30, 3) := by decide +kernel
theorem dX3_wouldBear_13 : decode cX3_wouldBear 13 = .ok (.iload_n 2, 1) := by decide +kernel
theorem dX3_wouldBear_14 : decode cX3_wouldBear 14 = .ok (.iaload, 1) := by decide +kernel
