theorem dX3_wouldBear_15 : decode cX3_wouldBear 15 = .ok (.iload_n 3, 1) := by decide +kernel
theorem dX3_wouldBear_16 : decode cX3_wouldBear 16 = .ok (.if_icmp .eq 22, 3) := by decide +kernel
theorem dX3_wouldBear_19 : decode cX3_wouldBear 19 = .ok (.aload_n 0, 1) := by decide +kernel
theorem dX3_wouldBear_20 : decode cX3_wouldBear 20 = .ok (.getfield 18, 3) := by decide +kernel
theorem dX3_wouldBear_23 : decode cX3_wouldBear 23 = .ok (.iload_n 1, 1) := by decide +kernel
theorem dX3_wouldBear_24 : decode cX3_wouldBear 24 = .ok (.iaload, 1) := by decide +kernel
theorem dX3_wouldBear_25 : decode cX3_wouldBear 25 = .ok (.ifCond .le 17, 3) := by decide +kernel
theorem dX3_wouldBear_28 : decode cX3_wouldBear 28 = .ok (.aload_n 0, 1) := by decide +kernel
theorem dX3_wouldBear_29 : decode cX3_wouldBear 29 = .ok (.getfield 21, 3) := by decide +kernel
theorem dX3_wouldBear_32 : decode cX3_wouldBear 32 = .ok (.iload_n 1, 1) := by decide +kernel
theorem dX3_wouldBear_33 : decode cX3_wouldBear 33 = .ok (.iaload, 1) := by decide +kernel
theorem dX3_wouldBear_34 : decode cX3_wouldBear 34 = .ok (.iload_n 3, 1) := by decide +kernel
theorem dX3_wouldBear_35 : decode cX3_wouldBear 35 = .ok (.if_icmp .ne 7, 3) := by decide +kernel
theorem dX3_wouldBear_38 : decode cX3_wouldBear 38 = .ok (.iconst 1, 1) := by decide +kernel
theorem dX3_wouldBear_39 : decode cX3_wouldBear 39 = .ok (.goto 4, 3) := by decide +kernel
theorem dX3_wouldBear_42 : decode cX3_wouldBear 42 = .ok (.iconst 0, 1) := by decide +kernel
theorem dX3_wouldBear_43 : decode cX3_wouldBear 43 = .ok (.ireturn, 1) := by decide +kernel
theorem dX2_init_0 : decode cX2_init 0 = .ok (.aload_n 0, 1) := by decide +kernel
theorem dX2_init_1 : decode cX2_init 1 = .ok (.invokespecial 3, 3) := by decide +kernel
theorem dX2_init_4 : decode cX2_init 4 = .ok (.aload_n 0, 1) := by decide +kernel
theorem dX2_init_5 : decode cX2_init 5 = .ok (.sipush 224, 3) := by decide +kernel
theorem dX2_init_8 : decode cX2_init 8 = .ok (.newarray .int, 2) := by decide +kernel
theorem dX2_init_10 : decode cX2_init 10 = .ok (.putfield 9, 3) := by decide +kernel
theorem dX2_init_13 : decode cX2_init 13 = .ok (.aload_n 0, 1) := by decide +kernel
theorem dX2_init_14 : decode cX2_init 14 = .ok (.bipush 6, 2) := by decide +kernel
theorem dX2_init_16 : decode cX2_init 16 = .ok (.newarray .int, 2) := by decide +kernel
theorem dX2_init_18 : decode cX2_init 18 = .ok (.putfield 15, 3) := by decide +kernel
theorem dX2_init_21 : decode cX2_init 21 = .ok (.aload_n 0, 1) := by decide +kernel
theorem dX2_init_22 : decode cX2_init 22 = .ok (.aload_n 1, 1) := by decide +kernel
theorem dX2_init_23 : decode cX2_init 23 = .ok (.putfield 18, 3) := by decide +kernel
theorem dX2_init_26 : decode cX2_init 26 = .ok (.return_, 1) := by decide +kernel
theorem dX2_mostGain_0 : decode cX2_mostGain 0 = .ok (.aload_n 0, 1) := by decide +kernel
theorem dX2_mostGain_1 : decode cX2_mostGain 1 = .ok (.iload_n 1, 1) := by decide +kernel
theorem dX2_mostGain_2 : decode cX2_mostGain 2 = .ok (.putfield 22, 3) := by decide +kernel
theorem dX2_mostGain_5 : decode cX2_mostGain 5 = .ok (.aload_n 0, 1) := by decide +kernel
theorem dX2_mostGain_6 : decode cX2_mostGain 6 = .ok (.iload_n 2, 1) := by decide +kernel
theorem dX2_mostGain_7 : decode cX2_mostGain 7 = .ok (.putfield 26, 3) := by decide +kernel
theorem dX2_mostGain_10 : decode cX2_mostGain 10 = .ok (.aload_n 0, 1) := by decide +kernel
theorem dX2_mostGain_11 : decode cX2_mostGain 11 = .ok (.getfield 9, 3) := by decide +kernel
theorem dX2_mostGain_14 : decode cX2_mostGain 14 = .ok (.iconst 0, 1) := by decide +kernel
theorem dX2_mostGain_15 : decode cX2_mostGain 15 = .ok (.invokestatic 29, 3) := by decide +kernel
theorem dX2_mostGain_18 : decode cX2_mostGain 18 = .ok (.aload_n 0, 1) := by decide +kernel
theorem dX2_mostGain_19 : decode cX2_mostGain 19 = .ok (.getfield 18, 3) := by decide +kernel
theorem dX2_mostGain_22 : decode cX2_mostGain 22 = .ok (.getfield 35, 3) := by decide +kernel
theorem dX2_mostGain_25 : decode cX2_mostGain 25 = .ok (.iconst 1, 1) := by decide +kernel
theorem dX2_mostGain_26 : decode cX2_mostGain 26 = .ok (.isub, 1) := by decide +kernel
theorem dX2_mostGain_27 : decode cX2_mostGain 27 = .ok (.istore_n 3, 1) := by decide +kernel
theorem dX2_mostGain_28 : decode cX2_mostGain 28 = .ok (.iload_n 3, 1) := by decide +kernel
theorem dX2_mostGain_29 : decode cX2_mostGain 29 = .ok (.ifCond .lt 49, 3) := by decide +kernel
theorem dX2_mostGain_32 : decode cX2_mostGain 32 = .ok (.iconst 0, 1) := by decide +kernel
theorem dX2_mostGain_33 : decode cX2_mostGain 33 = .ok (.istore 4, 2) := by decide +kernel
theorem dX2_mostGain_35 : decode cX2_mostGain 35 = .ok (.iload 4, 2) := by decide +kernel
theorem dX2_mostGain_37 : decode cX2_mostGain 37 = .ok (.aload_n 0, 1) := by decide +kernel
theorem dX2_mostGain_38 : decode cX2_mostGain 38 = .ok (.getfield 18, 3) := by decide +kernel
theorem dX2_mostGain_41 : decode cX2_mostGain 41 = .ok (.getfield 40, 3) := by decide +kernel
theorem dX2_mostGain_44 : decode cX2_mostGain 44 = .ok (.if_icmp .gt 28, 3) := by decide +kernel
theorem dX2_mostGain_47 : decode cX2_mostGain 47 = .ok (.aload_n 0, 1) := by decide +kernel
theorem dX2_mostGain_48 : decode cX2_mostGain 48 = .ok (.getfield 9, 3) := by decide +kernel
theorem dX2_mostGain_51 : decode cX2_mostGain 51 = .ok (.iload_n 3, 1) := by decide +kernel
theorem dX2_mostGain_52 : decode cX2_mostGain 52 = .ok (.bipush 32, 2) := by decide +kernel
theorem dX2_mostGain_54 : decode cX2_mostGain 54 = .ok (.imul, 1) := by decide +kernel
theorem dX2_mostGain_55 : decode cX2_mostGain 55 = .ok (.iload 4, 2) := by decide +kernel
theorem dX2_mostGain_57 : decode cX2_mostGain 57 = .ok (.iadd, 1) := by decide +kernel
theorem dX2_mostGain_58 : decode cX2_mostGain 58 = .ok (.aload_n 0, 1) := by decide +kernel
theorem dX2_mostGain_59 : decode cX2_mostGain 59 = .ok (.iload_n 3, 1) := by decide +kernel
theorem dX2_mostGain_60 : decode cX2_mostGain 60 = .ok (.iload 4, 2) := by decide +kernel
theorem dX2_mostGain_62 : decode cX2_mostGain 62 = .ok (.invokevirtual 43, 3) := by decide +kernel
theorem dX2_mostGain_65 : decode cX2_mostGain 65 = .ok (.iastore, 1) := by decide +kernel
theorem dX2_mostGain_66 : decode cX2_mostGain 66 = .ok (.iinc 4 1, 3) := by decide +kernel
theorem dX2_mostGain_69 : decode cX2_mostGain 69 = .ok (.goto (-34), 3) := by decide +kernel
theorem dX2_mostGain_72 : decode cX2_mostGain 72 = .ok (.iinc 3 (-1), 3) := by decide +kernel
theorem dX2_mostGain_75 : decode cX2_mostGain 75 = .ok (.goto (-47), 3) := by decide +kernel
theorem dX2_mostGain_78 : decode cX2_mostGain 78 = .ok (.aload_n 0, 1) := by decide +kernel
theorem dX2_mostGain_79 : decode cX2_mostGain 79 = .ok (.getfield 9, 3) := by decide +kernel
theorem dX2_mostGain_82 : decode cX2_mostGain 82 = .ok (.iconst 0, 1) := by decide +kernel
theorem dX2_mostGain_83 : decode cX2_mostGain 83 = .ok (.iaload, 1) := by decide +kernel
theorem dX2_mostGain_84 : decode cX2_mostGain 84 = .ok (.ireturn, 1) := by decide +kernel
theorem dX2_mostFrom_0 : decode cX2_mostFrom 0 = .ok (.aload_n 0, 1) := by decide +kernel
theorem dX2_mostFrom_1 : decode cX2_mostFrom 1 = .ok (.iload_n 1, 1) := by decide +kernel
theorem dX2_mostFrom_2 : decode cX2_mostFrom 2 = .ok (.iload_n 2, 1) := by decide +kernel
theorem dX2_mostFrom_3 : decode cX2_mostFrom 3 = .ok (.invokevirtual 47, 3) := by decide +kernel
theorem dX2_mostFrom_6 : decode cX2_mostFrom 6 = .ok (.istore_n 3, 1) := by decide +kernel
theorem dX2_mostFrom_7 : decode cX2_mostFrom 7 = .ok (.aload_n 0, 1) := by decide +kernel
theorem dX2_mostFrom_8 : decode cX2_mostFrom 8 = .ok (.iload_n 1, 1) := by decide +kernel
theorem dX2_mostFrom_9 : decode cX2_mostFrom 9 = .ok (.iload_n 2, 1) := by decide +kernel
theorem dX2_mostFrom_10 : decode cX2_mostFrom 10 = .ok (.iconst 5, 1) := by decide +kernel
theorem dX2_mostFrom_11 : decode cX2_mostFrom 11 = .ok (.invokevirtual 50, 3) := by decide +kernel
theorem dX2_mostFrom_14 : decode cX2_mostFrom 14 = .ok (.istore 4, 2) := by decide +kernel
theorem dX2_mostFrom_16 : decode cX2_mostFrom 16 = .ok (.iconst 0, 1) := by decide +kernel
theorem dX2_mostFrom_17 : decode cX2_mostFrom 17 = .ok (.istore 5, 2) := by decide +kernel
theorem dX2_mostFrom_19 : decode cX2_mostFrom 19 = .ok (.iload 5, 2) := by decide +kernel
theorem dX2_mostFrom_21 : decode cX2_mostFrom 21 = .ok (.iconst 5, 1) := by decide +kernel
theorem dX2_mostFrom_22 : decode cX2_mostFrom 22 = .ok (.if_icmp .ge 33, 3) := by decide +kernel
theorem dX2_mostFrom_25 : decode cX2_mostFrom 25 = .ok (.iload_n 3, 1) := by decide +kernel
theorem dX2_mostFrom_26 : decode cX2_mostFrom 26 = .ok (.iload 5, 2) := by decide +kernel
theorem dX2_mostFrom_28 : decode cX2_mostFrom 28 = .ok (.invokestatic 54, 3) := by decide +kernel
theorem dX2_mostFrom_31 : decode cX2_mostFrom 31 = .ok (.ifCond .eq 18, 3) := by decide +kernel
theorem dX2_mostFrom_34 : decode cX2_mostFrom 34 = .ok (.iload 4, 2) := by decide +kernel
theorem dX2_mostFrom_36 : decode cX2_mostFrom 36 = .ok (.aload_n 0, 1) := by decide +kernel
theorem dX2_mostFrom_37 : decode cX2_mostFrom 37 = .ok (.iload_n 1, 1) := by decide +kernel
theorem dX2_mostFrom_38 : decode cX2_mostFrom 38 = .ok (.iload_n 2, 1) := by decide +kernel
theorem dX2_mostFrom_39 : decode cX2_mostFrom 39 = .ok (.iload 5, 2) := by decide +kernel
theorem dX2_mostFrom_41 : decode cX2_mostFrom 41 = .ok (.invokevirtual 50, 3) := by decide +kernel
theorem dX2_mostFrom_44 : decode cX2_mostFrom 44 = .ok (.invokestatic 58, 3) := by decide +kernel
theorem dX2_mostFrom_47 : decode cX2_mostFrom 47 = .ok (.istore 4, 2) := by decide +kernel
theorem dX2_mostFrom_49 : decode cX2_mostFrom 49 = .ok (.iinc 5 1, 3) := by decide +kernel
theorem dX2_mostFrom_52 : decode cX2_mostFrom 52 = .ok (.goto (-33), 3) := by decide +kernel
theorem dX2_mostFrom_55 : decode cX2_mostFrom 55 = .ok (.iload 4, 2) := by decide +kernel
theorem dX2_mostFrom_57 : decode cX2_mostFrom 57 = .ok (.ireturn, 1) := by decide +kernel
theorem dX2_freeAllowed_0 : decode cX2_freeAllowed 0 = .ok (.aload_n 0, 1) := by decide +kernel
theorem dX2_freeAllowed_1 : decode cX2_freeAllowed 1 = .ok (.getfield 26, 3) := by decide +kernel
theorem dX2_freeAllowed_4 : decode cX2_freeAllowed 4 = .ok (.iload_n 1, 1) := by decide +kernel
theorem dX2_freeAllowed_5 : decode cX2_freeAllowed 5 = .ok (.invokestatic 54, 3) := by decide +kernel
theorem dX2_freeAllowed_8 : decode cX2_freeAllowed 8 = .ok (.ifCond .eq 7, 3) := by decide +kernel
theorem dX2_freeAllowed_11 : decode cX2_freeAllowed 11 = .ok (.iconst 0, 1) := by decide +kernel
theorem dX2_freeAllowed_12 : decode cX2_freeAllowed 12 = .ok (.goto 17, 3) := by decide +kernel
theorem dX2_freeAllowed_15 : decode cX2_freeAllowed 15 = .ok (.aload_n 0, 1) := by decide +kernel
theorem dX2_freeAllowed_16 : decode cX2_freeAllowed 16 = .ok (.getfield 18, 3) := by decide +kernel
theorem dX2_freeAllowed_19 : decode cX2_freeAllowed 19 = .ok (.iload_n 1, 1) := by decide +kernel
theorem dX2_freeAllowed_20 : decode cX2_freeAllowed 20 = .ok (.iload_n 2, 1) := by decide +kernel
theorem dX2_freeAllowed_21 : decode cX2_freeAllowed 21 = .ok (.invokevirtual 63, 3) := by decide +kernel
theorem dX2_freeAllowed_24 : decode cX2_freeAllowed 24 = .ok (.aload_n 0, 1) := by decide +kernel
theorem dX2_freeAllowed_25 : decode cX2_freeAllowed 25 = .ok (.getfield 22, 3) := by decide +kernel
theorem dX2_freeAllowed_28 : decode cX2_freeAllowed 28 = .ok (.iand, 1) := by decide +kernel
theorem dX2_freeAllowed_29 : decode cX2_freeAllowed 29 = .ok (.ireturn, 1) := by decide +kernel
theorem dX2_gainFrom_0 : decode cX2_gainFrom 0 = .ok (.aload_n 0, 1) := by decide +kernel
theorem dX2_gainFrom_1 : decode cX2_gainFrom 1 = .ok (.getfield 9, 3) := by decide +kernel
theorem dX2_gainFrom_4 : decode cX2_gainFrom 4 = .ok (.iload_n 1, 1) := by decide +kernel
theorem dX2_gainFrom_5 : decode cX2_gainFrom 5 = .ok (.iconst 1, 1) := by decide +kernel
theorem dX2_gainFrom_6 : decode cX2_gainFrom 6 = .ok (.iadd, 1) := by decide +kernel
theorem dX2_gainFrom_7 : decode cX2_gainFrom 7 = .ok (.bipush 32, 2) := by decide +kernel
theorem dX2_gainFrom_9 : decode cX2_gainFrom 9 = .ok (.imul, 1) := by decide +kernel
theorem dX2_gainFrom_10 : decode cX2_gainFrom 10 = .ok (.aload_n 0, 1) := by decide +kernel
theorem dX2_gainFrom_11 : decode cX2_gainFrom 11 = .ok (.getfield 18, 3) := by decide +kernel
theorem dX2_gainFrom_14 : decode cX2_gainFrom 14 = .ok (.iload_n 2, 1) := by decide +kernel
theorem dX2_gainFrom_15 : decode cX2_gainFrom 15 = .ok (.iload_n 3, 1) := by decide +kernel
theorem dX2_gainFrom_16 : decode cX2_gainFrom 16 = .ok (.invokevirtual 66, 3) := by decide +kernel
theorem dX2_gainFrom_19 : decode cX2_gainFrom 19 = .ok (.iadd, 1) := by decide +kernel
theorem dX2_gainFrom_20 : decode cX2_gainFrom 20 = .ok (.iaload, 1) := by decide +kernel
theorem dX2_gainFrom_21 : decode cX2_gainFrom 21 = .ok (.istore 4, 2) := by decide +kernel
theorem dX2_gainFrom_23 : decode cX2_gainFrom 23 = .ok (.aload_n 0, 1) := by decide +kernel
theorem dX2_gainFrom_24 : decode cX2_gainFrom 24 = .ok (.getfield 18, 3) := by decide +kernel
theorem dX2_gainFrom_27 : decode cX2_gainFrom 27 = .ok (.iload_n 1, 1) := by decide +kernel
theorem dX2_gainFrom_28 : decode cX2_gainFrom 28 = .ok (.iload_n 3, 1) := by decide +kernel
theorem dX2_gainFrom_29 : decode cX2_gainFrom 29 = .ok (.invokevirtual 69, 3) := by decide +kernel
theorem dX2_gainFrom_32 : decode cX2_gainFrom 32 = .ok (.aload_n 0, 1) := by decide +kernel
theorem dX2_gainFrom_33 : decode cX2_gainFrom 33 = .ok (.getfield 18, 3) := by decide +kernel
theorem dX2_gainFrom_36 : decode cX2_gainFrom 36 = .ok (.iload_n 2, 1) := by decide +kernel
theorem dX2_gainFrom_37 : decode cX2_gainFrom 37 = .ok (.iload_n 3, 1) := by decide +kernel
theorem dX2_gainFrom_38 : decode cX2_gainFrom 38 = .ok (.invokevirtual 72, 3) := by decide +kernel
theorem dX2_gainFrom_41 : decode cX2_gainFrom 41 = .ok (.isub, 1) := by decide +kernel
theorem dX2_gainFrom_42 : decode cX2_gainFrom 42 = .ok (.iload 4, 2) := by decide +kernel
theorem dX2_gainFrom_44 : decode cX2_gainFrom 44 = .ok (.iadd, 1) := by decide +kernel
theorem dX2_gainFrom_45 : decode cX2_gainFrom 45 = .ok (.ireturn, 1) := by decide +kernel
theorem dX2_layRow_0 : decode cX2_layRow 0 = .ok (.iconst 0, 1) := by decide +kernel
theorem dX2_layRow_1 : decode cX2_layRow 1 = .ok (.istore_n 1, 1) := by decide +kernel
theorem dX2_layRow_2 : decode cX2_layRow 2 = .ok (.iconst 0, 1) := by decide +kernel
theorem dX2_layRow_3 : decode cX2_layRow 3 = .ok (.istore_n 2, 1) := by decide +kernel
theorem dX2_layRow_4 : decode cX2_layRow 4 = .ok (.iload_n 2, 1) := by decide +kernel
theorem dX2_layRow_5 : decode cX2_layRow 5 = .ok (.aload_n 0, 1) := by decide +kernel
theorem dX2_layRow_6 : decode cX2_layRow 6 = .ok (.getfield 18, 3) := by decide +kernel
theorem dX2_layRow_9 : decode cX2_layRow 9 = .ok (.getfield 35, 3) := by decide +kernel
theorem dX2_layRow_12 : decode cX2_layRow 12 = .ok (.if_icmp .ge 36, 3) := by decide +kernel
theorem dX2_layRow_15 : decode cX2_layRow 15 = .ok (.aload_n 0, 1) := by decide +kernel
theorem dX2_layRow_16 : decode cX2_layRow 16 = .ok (.getfield 15, 3) := by decide +kernel
theorem dX2_layRow_19 : decode cX2_layRow 19 = .ok (.iload_n 2, 1) := by decide +kernel
theorem dX2_layRow_20 : decode cX2_layRow 20 = .ok (.aload_n 0, 1) := by decide +kernel
theorem dX2_layRow_21 : decode cX2_layRow 21 = .ok (.iload_n 2, 1) := by decide +kernel
theorem dX2_layRow_22 : decode cX2_layRow 22 = .ok (.iload_n 1, 1) := by decide +kernel
theorem dX2_layRow_23 : decode cX2_layRow 23 = .ok (.invokevirtual 75, 3) := by decide +kernel
theorem dX2_layRow_26 : decode cX2_layRow 26 = .ok (.iastore, 1) := by decide +kernel
theorem dX2_layRow_27 : decode cX2_layRow 27 = .ok (.aload_n 0, 1) := by decide +kernel
theorem dX2_layRow_28 : decode cX2_layRow 28 = .ok (.getfield 18, 3) := by decide +kernel
theorem dX2_layRow_31 : decode cX2_layRow 31 = .ok (.iload_n 1, 1) := by decide +kernel
theorem dX2_layRow_32 : decode cX2_layRow 32 = .ok (.aload_n 0, 1) := by decide +kernel
theorem dX2_layRow_33 : decode cX2_layRow 33 = .ok (.getfield 15, 3) := by decide +kernel
theorem dX2_layRow_36 : decode cX2_layRow 36 = .ok (.iload_n 2, 1) := by decide +kernel
theorem dX2_layRow_37 : decode cX2_layRow 37 = .ok (.iaload, 1) := by decide +kernel
theorem dX2_layRow_38 : decode cX2_layRow 38 = .ok (.invokevirtual 66, 3) := by decide +kernel
theorem dX2_layRow_41 : decode cX2_layRow 41 = .ok (.istore_n 1, 1) := by decide +kernel
theorem dX2_layRow_42 : decode cX2_layRow 42 = .ok (.iinc 2 1, 3) := by decide +kernel
theorem dX2_layRow_45 : decode cX2_layRow 45 = .ok (.goto (-41), 3) := by decide +kernel
theorem dX2_layRow_48 : decode cX2_layRow 48 = .ok (.return_, 1) := by decide +kernel
theorem dX2_firstOfMost_0 : decode cX2_firstOfMost 0 = .ok (.aload_n 0, 1) := by decide +kernel
theorem dX2_firstOfMost_1 : decode cX2_firstOfMost 1 = .ok (.iload_n 1, 1) := by decide +kernel
theorem dX2_firstOfMost_2 : decode cX2_firstOfMost 2 = .ok (.iload_n 2, 1) := by decide +kernel
theorem dX2_firstOfMost_3 : decode cX2_firstOfMost 3 = .ok (.invokevirtual 47, 3) := by decide +kernel
theorem dX2_firstOfMost_6 : decode cX2_firstOfMost 6 = .ok (.istore_n 3, 1) := by decide +kernel
theorem dX2_firstOfMost_7 : decode cX2_firstOfMost 7 = .ok (.iconst 0, 1) := by decide +kernel
theorem dX2_firstOfMost_8 : decode cX2_firstOfMost 8 = .ok (.istore 4, 2) := by decide +kernel
theorem dX2_firstOfMost_10 : decode cX2_firstOfMost 10 = .ok (.iload 4, 2) := by decide +kernel
theorem dX2_firstOfMost_12 : decode cX2_firstOfMost 12 = .ok (.iconst 5, 1) := by decide +kernel
theorem dX2_firstOfMost_13 : decode cX2_firstOfMost 13 = .ok (.if_icmp .ge 43, 3) := by decide +kernel
theorem dX2_firstOfMost_16 : decode cX2_firstOfMost 16 = .ok (.iload_n 3, 1) := by decide +kernel
theorem dX2_firstOfMost_17 : decode cX2_firstOfMost 17 = .ok (.iload 4, 2) := by decide +kernel
theorem dX2_firstOfMost_19 : decode cX2_firstOfMost 19 = .ok (.invokestatic 54, 3) := by decide +kernel
theorem dX2_firstOfMost_22 : decode cX2_firstOfMost 22 = .ok (.ifCond .eq 28, 3) := by decide +kernel
theorem dX2_firstOfMost_25 : decode cX2_firstOfMost 25 = .ok (.aload_n 0, 1) := by decide +kernel
theorem dX2_firstOfMost_26 : decode cX2_firstOfMost 26 = .ok (.iload_n 1, 1) := by decide +kernel
theorem dX2_firstOfMost_27 : decode cX2_firstOfMost 27 = .ok (.iload_n 2, 1) := by decide +kernel
theorem dX2_firstOfMost_28 : decode cX2_firstOfMost 28 = .ok (.iload 4, 2) := by decide +kernel
theorem dX2_firstOfMost_30 : decode cX2_firstOfMost 30 = .ok (.invokevirtual 50, 3) := by decide +kernel
theorem dX2_firstOfMost_33 : decode cX2_firstOfMost 33 = .ok (.aload_n 0, 1) := by decide +kernel
theorem dX2_firstOfMost_34 : decode cX2_firstOfMost 34 = .ok (.getfield 9, 3) := by decide +kernel
theorem dX2_firstOfMost_37 : decode cX2_firstOfMost 37 = .ok (.iload_n 1, 1) := by decide +kernel
theorem dX2_firstOfMost_38 : decode cX2_firstOfMost 38 = .ok (.bipush 32, 2) := by decide +kernel
theorem dX2_firstOfMost_40 : decode cX2_firstOfMost 40 = .ok (.imul, 1) := by decide +kernel
theorem dX2_firstOfMost_41 : decode cX2_firstOfMost 41 = .ok (.iload_n 2, 1) := by decide +kernel
theorem dX2_firstOfMost_42 : decode cX2_firstOfMost 42 = .ok (.iadd, 1) := by decide +kernel
theorem dX2_firstOfMost_43 : decode cX2_firstOfMost 43 = .ok (.iaload, 1) := by decide +kernel
theorem dX2_firstOfMost_44 : decode cX2_firstOfMost 44 = .ok (.if_icmp .ne 6, 3) := by decide +kernel
theorem dX2_firstOfMost_47 : decode cX2_firstOfMost 47 = .ok (.iload 4, 2) := by decide +kernel
theorem dX2_firstOfMost_49 : decode cX2_firstOfMost 49 = .ok (.ireturn, 1) := by decide +kernel
theorem dX2_firstOfMost_50 : decode cX2_firstOfMost 50 = .ok (.iinc 4 1, 3) := by decide +kernel
theorem dX2_firstOfMost_53 : decode cX2_firstOfMost 53 = .ok (.goto (-43), 3) := by decide +kernel
theorem dX2_firstOfMost_56 : decode cX2_firstOfMost 56 = .ok (.iconst 5, 1) := by decide +kernel
theorem dX2_firstOfMost_57 : decode cX2_firstOfMost 57 = .ok (.ireturn, 1) := by decide +kernel
theorem dX2_fewestShut_0 : decode cX2_fewestShut 0 = .ok (.iconst 1, 1) := by decide +kernel
theorem dX2_fewestShut_1 : decode cX2_fewestShut 1 = .ok (.aload_n 0, 1) := by decide +kernel
theorem dX2_fewestShut_2 : decode cX2_fewestShut 2 = .ok (.getfield 18, 3) := by decide +kernel
theorem dX2_fewestShut_5 : decode cX2_fewestShut 5 = .ok (.getfield 35, 3) := by decide +kernel
theorem dX2_fewestShut_8 : decode cX2_fewestShut 8 = .ok (.ishl, 1) := by decide +kernel
theorem dX2_fewestShut_9 : decode cX2_fewestShut 9 = .ok (.iconst 1, 1) := by decide +kernel
theorem dX2_fewestShut_10 : decode cX2_fewestShut 10 = .ok (.isub, 1) := by decide +kernel
theorem dX2_fewestShut_11 : decode cX2_fewestShut 11 = .ok (.istore_n 3, 1) := by decide +kernel
theorem dX2_fewestShut_12 : decode cX2_fewestShut 12 = .ok (.aload_n 0, 1) := by decide +kernel
theorem dX2_fewestShut_13 : decode cX2_fewestShut 13 = .ok (.iload_n 1, 1) := by decide +kernel
theorem dX2_fewestShut_14 : decode cX2_fewestShut 14 = .ok (.iload_n 3, 1) := by decide +kernel
theorem dX2_fewestShut_15 : decode cX2_fewestShut 15 = .ok (.invokevirtual 78, 3) := by decide +kernel
theorem dX2_fewestShut_18 : decode cX2_fewestShut 18 = .ok (.iload_n 2, 1) := by decide +kernel
theorem dX2_fewestShut_19 : decode cX2_fewestShut 19 = .ok (.if_icmp .le 6, 3) := by decide +kernel
theorem dX2_fewestShut_22 : decode cX2_fewestShut 22 = .ok (.bipush (-4), 2) := by decide +kernel
theorem dX2_fewestShut_24 : decode cX2_fewestShut 24 = .ok (.ireturn, 1) := by decide +kernel
theorem dX2_fewestShut_25 : decode cX2_fewestShut 25 = .ok (.iconst 0, 1) := by decide +kernel
theorem dX2_fewestShut_26 : decode cX2_fewestShut 26 = .ok (.istore 4, 2) := by decide +kernel
theorem dX2_fewestShut_28 : decode cX2_fewestShut 28 = .ok (.iload 4, 2) := by decide +kernel
theorem dX2_fewestShut_30 : decode cX2_fewestShut 30 = .ok (.aload_n 0, 1) := by decide +kernel
theorem dX2_fewestShut_31 : decode cX2_fewestShut 31 = .ok (.getfield 18, 3) := by decide +kernel
theorem dX2_fewestShut_34 : decode cX2_fewestShut 34 = .ok (.getfield 35, 3) := by decide +kernel
theorem dX2_fewestShut_37 : decode cX2_fewestShut 37 = .ok (.if_icmp .ge 48, 3) := by decide +kernel
theorem dX2_fewestShut_40 : decode cX2_fewestShut 40 = .ok (.iconst 0, 1) := by decide +kernel
theorem dX2_fewestShut_41 : decode cX2_fewestShut 41 = .ok (.istore 5, 2) := by decide +kernel
theorem dX2_fewestShut_43 : decode cX2_fewestShut 43 = .ok (.iload 5, 2) := by decide +kernel
theorem dX2_fewestShut_45 : decode cX2_fewestShut 45 = .ok (.iload_n 3, 1) := by decide +kernel
theorem dX2_fewestShut_46 : decode cX2_fewestShut 46 = .ok (.if_icmp .gt 33, 3) := by decide +kernel
theorem dX2_fewestShut_49 : decode cX2_fewestShut 49 = .ok (.iload 5, 2) := by decide +kernel
theorem dX2_fewestShut_51 : decode cX2_fewestShut 51 = .ok (.invokestatic 81, 3) := by decide +kernel
theorem dX2_fewestShut_54 : decode cX2_fewestShut 54 = .ok (.iload 4, 2) := by decide +kernel
theorem dX2_fewestShut_56 : decode cX2_fewestShut 56 = .ok (.if_icmp .ne 17, 3) := by decide +kernel
theorem dX2_fewestShut_59 : decode cX2_fewestShut 59 = .ok (.aload_n 0, 1) := by decide +kernel
theorem dX2_fewestShut_60 : decode cX2_fewestShut 60 = .ok (.iload_n 1, 1) := by decide +kernel
theorem dX2_fewestShut_61 : decode cX2_fewestShut 61 = .ok (.iload 5, 2) := by decide +kernel
theorem dX2_fewestShut_63 : decode cX2_fewestShut 63 = .ok (.invokevirtual 78, 3) := by decide +kernel
theorem dX2_fewestShut_66 : decode cX2_fewestShut 66 = .ok (.iload_n 2, 1) := by decide +kernel
theorem dX2_fewestShut_67 : decode cX2_fewestShut 67 = .ok (.if_icmp .gt 6, 3) := by decide +kernel
theorem dX2_fewestShut_70 : decode cX2_fewestShut 70 = .ok (.iload 5, 2) := by decide +kernel
theorem dX2_fewestShut_72 : decode cX2_fewestShut 72 = .ok (.ireturn, 1) := by decide +kernel
theorem dX2_fewestShut_73 : decode cX2_fewestShut 73 = .ok (.iinc 5 1, 3) := by decide +kernel
theorem dX2_fewestShut_76 : decode cX2_fewestShut 76 = .ok (.goto (-33), 3) := by decide +kernel
theorem dX2_fewestShut_79 : decode cX2_fewestShut 79 = .ok (.iinc 4 1, 3) := by decide +kernel
theorem dX2_fewestShut_82 : decode cX2_fewestShut 82 = .ok (.goto (-54), 3) := by decide +kernel
theorem dX2_fewestShut_85 : decode cX2_fewestShut 85 = .ok (.iload_n 3, 1) := by decide +kernel
theorem dX2_fewestShut_86 : decode cX2_fewestShut 86 = .ok (.ireturn, 1) := by decide +kernel
theorem dX2_layNights_0 : decode cX2_layNights 0 = .ok (.aload_n 0, 1) := by decide +kernel
theorem dX2_layNights_1 : decode cX2_layNights 1 = .ok (.getfield 9, 3) := by decide +kernel
theorem dX2_layNights_4 : decode cX2_layNights 4 = .ok (.iconst 0, 1) := by decide +kernel
theorem dX2_layNights_5 : decode cX2_layNights 5 = .ok (.invokestatic 29, 3) := by decide +kernel
theorem dX2_layNights_8 : decode cX2_layNights 8 = .ok (.aload_n 0, 1) := by decide +kernel
theorem dX2_layNights_9 : decode cX2_layNights 9 = .ok (.getfield 9, 3) := by decide +kernel
theorem dX2_layNights_12 : decode cX2_layNights 12 = .ok (.iconst 0, 1) := by decide +kernel
theorem dX2_layNights_13 : decode cX2_layNights 13 = .ok (.iconst 1, 1) := by decide +kernel
theorem dX2_layNights_14 : decode cX2_layNights 14 = .ok (.iastore, 1) := by decide +kernel
theorem dX2_layNights_15 : decode cX2_layNights 15 = .ok (.iconst 0, 1) := by decide +kernel
theorem dX2_layNights_16 : decode cX2_layNights 16 = .ok (.istore_n 2, 1) := by decide +kernel
theorem dX2_layNights_17 : decode cX2_layNights 17 = .ok (.iload_n 2, 1) := by decide +kernel
theorem dX2_layNights_18 : decode cX2_layNights 18 = .ok (.aload_n 0, 1) := by decide +kernel
theorem dX2_layNights_19 : decode cX2_layNights 19 = .ok (.getfield 18, 3) := by decide +kernel
theorem dX2_layNights_22 : decode cX2_layNights 22 = .ok (.getfield 35, 3) := by decide +kernel
theorem dX2_layNights_25 : decode cX2_layNights 25 = .ok (.if_icmp .ge 51, 3) := by decide +kernel
theorem dX2_layNights_28 : decode cX2_layNights 28 = .ok (.iconst 0, 1) := by decide +kernel
theorem dX2_layNights_29 : decode cX2_layNights 29 = .ok (.istore_n 3, 1) := by decide +kernel
theorem dX2_layNights_30 : decode cX2_layNights 30 = .ok (.iload_n 3, 1) := by decide +kernel
theorem dX2_layNights_31 : decode cX2_layNights 31 = .ok (.aload_n 0, 1) := by decide +kernel
theorem dX2_layNights_32 : decode cX2_layNights 32 = .ok (.getfield 18, 3) := by decide +kernel
theorem dX2_layNights_35 : decode cX2_layNights 35 = .ok (.getfield 40, 3) := by decide +kernel
theorem dX2_layNights_38 : decode cX2_layNights 38 = .ok (.if_icmp .gt 32, 3) := by decide +kernel
theorem dX2_layNights_41 : decode cX2_layNights 41 = .ok (.aload_n 0, 1) := by decide +kernel
theorem dX2_layNights_42 : decode cX2_layNights 42 = .ok (.getfield 9, 3) := by decide +kernel
theorem dX2_layNights_45 : decode cX2_layNights 45 = .ok (.iload_n 2, 1) := by decide +kernel
theorem dX2_layNights_46 : decode cX2_layNights 46 = .ok (.bipush 32, 2) := by decide +kernel
theorem dX2_layNights_48 : decode cX2_layNights 48 = .ok (.imul, 1) := by decide +kernel
theorem dX2_layNights_49 : decode cX2_layNights 49 = .ok (.iload_n 3, 1) := by decide +kernel
theorem dX2_layNights_50 : decode cX2_layNights 50 = .ok (.iadd, 1) := by decide +kernel
theorem dX2_layNights_51 : decode cX2_layNights 51 = .ok (.iaload, 1) := by decide +kernel
theorem dX2_layNights_52 : decode cX2_layNights 52 = .ok (.ifCond .le 12, 3) := by decide +kernel
theorem dX2_layNights_55 : decode cX2_layNights 55 = .ok (.aload_n 0, 1) := by decide +kernel
theorem dX2_layNights_56 : decode cX2_layNights 56 = .ok (.iload_n 2, 1) := by decide +kernel
theorem dX2_layNights_57 : decode cX2_layNights 57 = .ok (.iload_n 3, 1) := by decide +kernel
theorem dX2_layNights_58 : decode cX2_layNights 58 = .ok (.aload_n 1, 1) := by decide +kernel
theorem dX2_layNights_59 : decode cX2_layNights 59 = .ok (.iload_n 2, 1) := by decide +kernel
theorem dX2_layNights_60 : decode cX2_layNights 60 = .ok (.iaload, 1) := by decide +kernel
theorem dX2_layNights_61 : decode cX2_layNights 61 = .ok (.invokevirtual 87, 3) := by decide +kernel
theorem dX2_layNights_64 : decode cX2_layNights 64 = .ok (.iinc 3 1, 3) := by decide +kernel
theorem dX2_layNights_67 : decode cX2_layNights 67 = .ok (.goto (-37), 3) := by decide +kernel
theorem dX2_layNights_70 : decode cX2_layNights 70 = .ok (.iinc 2 1, 3) := by decide +kernel
theorem dX2_layNights_73 : decode cX2_layNights 73 = .ok (.goto (-56), 3) := by decide +kernel
theorem dX2_layNights_76 : decode cX2_layNights 76 = .ok (.aload_n 0, 1) := by decide +kernel
theorem dX2_layNights_77 : decode cX2_layNights 77 = .ok (.iconst 0, 1) := by decide +kernel
theorem dX2_layNights_78 : decode cX2_layNights 78 = .ok (.putfield 91, 3) := by decide +kernel
theorem dX2_layNights_81 : decode cX2_layNights 81 = .ok (.aload_n 0, 1) := by decide +kernel
theorem dX2_layNights_82 : decode cX2_layNights 82 = .ok (.aload_n 0, 1) := by decide +kernel
theorem dX2_layNights_83 : decode cX2_layNights 83 = .ok (.getfield 18, 3) := by decide +kernel
theorem dX2_layNights_86 : decode cX2_layNights 86 = .ok (.getfield 40, 3) := by decide +kernel
theorem dX2_layNights_89 : decode cX2_layNights 89 = .ok (.putfield 94, 3) := by decide +kernel
theorem dX2_layNights_92 : decode cX2_layNights 92 = .ok (.iconst 0, 1) := by decide +kernel
theorem dX2_layNights_93 : decode cX2_layNights 93 = .ok (.istore_n 2, 1) := by decide +kernel
theorem dX2_layNights_94 : decode cX2_layNights 94 = .ok (.iload_n 2, 1) := by decide +kernel
theorem dX2_layNights_95 : decode cX2_layNights 95 = .ok (.aload_n 0, 1) := by decide +kernel
theorem dX2_layNights_96 : decode cX2_layNights 96 = .ok (.getfield 18, 3) := by decide +kernel
theorem dX2_layNights_99 : decode cX2_layNights 99 = .ok (.getfield 40, 3) := by decide +kernel
theorem dX2_layNights_102 : decode cX2_layNights 102 = .ok (.if_icmp .gt 61, 3) := by decide +kernel
theorem dX2_layNights_105 : decode cX2_layNights 105 = .ok (.aload_n 0, 1) := by decide +kernel
theorem dX2_layNights_106 : decode cX2_layNights 106 = .ok (.getfield 9, 3) := by decide +kernel
theorem dX2_layNights_109 : decode cX2_layNights 109 = .ok (.aload_n 0, 1) := by decide +kernel
theorem dX2_layNights_110 : decode cX2_layNights 110 = .ok (.getfield 18, 3) := by decide +kernel
theorem dX2_layNights_113 : decode cX2_layNights 113 = .ok (.getfield 35, 3) := by decide +kernel
theorem dX2_layNights_116 : decode cX2_layNights 116 = .ok (.bipush 32, 2) := by decide +kernel
theorem dX2_layNights_118 : decode cX2_layNights 118 = .ok (.imul, 1) := by decide +kernel
theorem dX2_layNights_119 : decode cX2_layNights 119 = .ok (.iload_n 2, 1) := by decide +kernel
theorem dX2_layNights_120 : decode cX2_layNights 120 = .ok (.iadd, 1) := by decide +kernel
theorem dX2_layNights_121 : decode cX2_layNights 121 = .ok (.iaload, 1) := by decide +kernel
theorem dX2_layNights_122 : decode cX2_layNights 122 = .ok (.istore_n 3, 1) := by decide +kernel
theorem dX2_layNights_123 : decode cX2_layNights 123 = .ok (.aload_n 0, 1) := by decide +kernel
theorem dX2_layNights_124 : decode cX2_layNights 124 = .ok (.dup, 1) := by decide +kernel
theorem dX2_layNights_125 : decode cX2_layNights 125 = .ok (.getfield 91, 3) := by decide +kernel
theorem dX2_layNights_128 : decode cX2_layNights 128 = .ok (.iload_n 3, 1) := by decide +kernel
theorem dX2_layNights_129 : decode cX2_layNights 129 = .ok (.iadd, 1) := by decide +kernel
theorem dX2_layNights_130 : decode cX2_layNights 130 = .ok (.putfield 91, 3) := by decide +kernel
theorem dX2_layNights_133 : decode cX2_layNights 133 = .ok (.aload_n 0, 1) := by decide +kernel
theorem dX2_layNights_134 : decode cX2_layNights 134 = .ok (.dup, 1) := by decide +kernel
theorem dX2_layNights_135 : decode cX2_layNights 135 = .ok (.getfield 94, 3) := by decide +kernel
theorem dX2_layNights_138 : decode cX2_layNights 138 = .ok (.iload_n 3, 1) := by decide +kernel
theorem dX2_layNights_139 : decode cX2_layNights 139 = .ok (.ifCond .le 7, 3) := by decide +kernel
theorem dX2_layNights_142 : decode cX2_layNights 142 = .ok (.iload_n 2, 1) := by decide +kernel
theorem dX2_layNights_143 : decode cX2_layNights 143 = .ok (.goto 10, 3) := by decide +kernel
theorem dX2_layNights_146 : decode cX2_layNights 146 = .ok (.aload_n 0, 1) := by decide +kernel
theorem dX2_layNights_147 : decode cX2_layNights 147 = .ok (.getfield 18, 3) := by decide +kernel
theorem dX2_layNights_150 : decode cX2_layNights 150 = .ok (.getfield 40, 3) := by decide +kernel
theorem dX2_layNights_153 : decode cX2_layNights 153 = .ok (.iand, 1) := by decide +kernel
theorem dX2_layNights_154 : decode cX2_layNights 154 = .ok (.putfield 94, 3) := by decide +kernel
theorem dX2_layNights_157 : decode cX2_layNights 157 = .ok (.iinc 2 1, 3) := by decide +kernel
theorem dX2_layNights_160 : decode cX2_layNights 160 = .ok (.goto (-66), 3) := by decide +kernel
theorem dX2_layNights_163 : decode cX2_layNights 163 = .ok (.return_, 1) := by decide +kernel
theorem dX2_spreadWays_0 : decode cX2_spreadWays 0 = .ok (.aload_n 0, 1) := by decide +kernel
theorem dX2_spreadWays_1 : decode cX2_spreadWays 1 = .ok (.getfield 18, 3) := by decide +kernel
theorem dX2_spreadWays_4 : decode cX2_spreadWays 4 = .ok (.iload_n 1, 1) := by decide +kernel
theorem dX2_spreadWays_5 : decode cX2_spreadWays 5 = .ok (.iload_n 2, 1) := by decide +kernel
theorem dX2_spreadWays_6 : decode cX2_spreadWays 6 = .ok (.invokevirtual 97, 3) := by decide +kernel
theorem dX2_spreadWays_9 : decode cX2_spreadWays 9 = .ok (.istore 4, 2) := by decide +kernel
theorem dX2_spreadWays_11 : decode cX2_spreadWays 11 = .ok (.iconst 0, 1) := by decide +kernel
theorem dX2_spreadWays_12 : decode cX2_spreadWays 12 = .ok (.istore 5, 2) := by decide +kernel
theorem dX2_spreadWays_14 : decode cX2_spreadWays 14 = .ok (.iload 5, 2) := by decide +kernel
theorem dX2_spreadWays_16 : decode cX2_spreadWays 16 = .ok (.bipush 6, 2) := by decide +kernel
theorem dX2_spreadWays_18 : decode cX2_spreadWays 18 = .ok (.if_icmp .ge 73, 3) := by decide +kernel
theorem dX2_spreadWays_21 : decode cX2_spreadWays 21 = .ok (.iload 4, 2) := by decide +kernel
theorem dX2_spreadWays_23 : decode cX2_spreadWays 23 = .ok (.iload 5, 2) := by decide +kernel
theorem dX2_spreadWays_25 : decode cX2_spreadWays 25 = .ok (.invokestatic 54, 3) := by decide +kernel
theorem dX2_spreadWays_28 : decode cX2_spreadWays 28 = .ok (.ifCond .eq 57, 3) := by decide +kernel
theorem dX2_spreadWays_31 : decode cX2_spreadWays 31 = .ok (.iload_n 3, 1) := by decide +kernel
theorem dX2_spreadWays_32 : decode cX2_spreadWays 32 = .ok (.ifCond .lt 17, 3) := by decide +kernel
theorem dX2_spreadWays_35 : decode cX2_spreadWays 35 = .ok (.aload_n 0, 1) := by decide +kernel
theorem dX2_spreadWays_36 : decode cX2_spreadWays 36 = .ok (.getfield 18, 3) := by decide +kernel
theorem dX2_spreadWays_39 : decode cX2_spreadWays 39 = .ok (.iload_n 1, 1) := by decide +kernel
theorem dX2_spreadWays_40 : decode cX2_spreadWays 40 = .ok (.iload 5, 2) := by decide +kernel
theorem dX2_spreadWays_42 : decode cX2_spreadWays 42 = .ok (.iload_n 3, 1) := by decide +kernel
theorem dX2_spreadWays_43 : decode cX2_spreadWays 43 = .ok (.invokevirtual 100, 3) := by decide +kernel
theorem dX2_spreadWays_46 : decode cX2_spreadWays 46 = .ok (.ifCond .eq 39, 3) := by decide +kernel
theorem dX2_spreadWays_49 : decode cX2_spreadWays 49 = .ok (.aload_n 0, 1) := by decide +kernel
theorem dX2_spreadWays_50 : decode cX2_spreadWays 50 = .ok (.getfield 9, 3) := by decide +kernel
theorem dX2_spreadWays_53 : decode cX2_spreadWays 53 = .ok (.iload_n 1, 1) := by decide +kernel
theorem dX2_spreadWays_54 : decode cX2_spreadWays 54 = .ok (.iconst 1, 1) := by decide +kernel
theorem dX2_spreadWays_55 : decode cX2_spreadWays 55 = .ok (.iadd, 1) := by decide +kernel
theorem dX2_spreadWays_56 : decode cX2_spreadWays 56 = .ok (.bipush 32, 2) := by decide +kernel
theorem dX2_spreadWays_58 : decode cX2_spreadWays 58 = .ok (.imul, 1) := by decide +kernel
theorem dX2_spreadWays_59 : decode cX2_spreadWays 59 = .ok (.aload_n 0, 1) := by decide +kernel
theorem dX2_spreadWays_60 : decode cX2_spreadWays 60 = .ok (.getfield 18, 3) := by decide +kernel
theorem dX2_spreadWays_63 : decode cX2_spreadWays 63 = .ok (.iload_n 2, 1) := by decide +kernel
theorem dX2_spreadWays_64 : decode cX2_spreadWays 64 = .ok (.iload 5, 2) := by decide +kernel
theorem dX2_spreadWays_66 : decode cX2_spreadWays 66 = .ok (.invokevirtual 66, 3) := by decide +kernel
theorem dX2_spreadWays_69 : decode cX2_spreadWays 69 = .ok (.iadd, 1) := by decide +kernel
theorem dX2_spreadWays_70 : decode cX2_spreadWays 70 = .ok (.dup2, 1) := by decide +kernel
theorem dX2_spreadWays_71 : decode cX2_spreadWays 71 = .ok (.iaload, 1) := by decide +kernel
theorem dX2_spreadWays_72 : decode cX2_spreadWays 72 = .ok (.aload_n 0, 1) := by decide +kernel
theorem dX2_spreadWays_73 : decode cX2_spreadWays 73 = .ok (.getfield 9, 3) := by decide +kernel
theorem dX2_spreadWays_76 : decode cX2_spreadWays 76 = .ok (.iload_n 1, 1) := by decide +kernel
theorem dX2_spreadWays_77 : decode cX2_spreadWays 77 = .ok (.bipush 32, 2) := by decide +kernel
theorem dX2_spreadWays_79 : decode cX2_spreadWays 79 = .ok (.imul, 1) := by decide +kernel
theorem dX2_spreadWays_80 : decode cX2_spreadWays 80 = .ok (.iload_n 2, 1) := by decide +kernel
theorem dX2_spreadWays_81 : decode cX2_spreadWays 81 = .ok (.iadd, 1) := by decide +kernel
theorem dX2_spreadWays_82 : decode cX2_spreadWays 82 = .ok (.iaload, 1) := by decide +kernel
theorem dX2_spreadWays_83 : decode cX2_spreadWays 83 = .ok (.iadd, 1) := by decide +kernel
theorem dX2_spreadWays_84 : decode cX2_spreadWays 84 = .ok (.iastore, 1) := by decide +kernel
theorem dX2_spreadWays_85 : decode cX2_spreadWays 85 = .ok (.iinc 5 1, 3) := by decide +kernel
theorem dX2_spreadWays_88 : decode cX2_spreadWays 88 = .ok (.goto (-74), 3) := by decide +kernel
theorem dX2_spreadWays_91 : decode cX2_spreadWays 91 = .ok (.return_, 1) := by decide +kernel
theorem dX9_init_0 : decode cX9_init 0 = .ok (.aload_n 0, 1) := by decide +kernel
theorem dX9_init_1 : decode cX9_init 1 = .ok (.invokespecial 3, 3) := by decide +kernel
theorem dX9_init_4 : decode cX9_init 4 = .ok (.aload_n 0, 1) := by decide +kernel
theorem dX9_init_5 : decode cX9_init 5 = .ok (.bipush 10, 2) := by decide +kernel
theorem dX9_init_7 : decode cX9_init 7 = .ok (.newarray .int, 2) := by decide +kernel
theorem dX9_init_9 : decode cX9_init 9 = .ok (.putfield 9, 3) := by decide +kernel
theorem dX9_init_12 : decode cX9_init 12 = .ok (.aload_n 0, 1) := by decide +kernel
theorem dX9_init_13 : decode cX9_init 13 = .ok (.bipush 6, 2) := by decide +kernel
theorem dX9_init_15 : decode cX9_init 15 = .ok (.newarray .int, 2) := by decide +kernel
theorem dX9_init_17 : decode cX9_init 17 = .ok (.putfield 15, 3) := by decide +kernel
theorem dX9_init_20 : decode cX9_init 20 = .ok (.aload_n 0, 1) := by decide +kernel
theorem dX9_init_21 : decode cX9_init 21 = .ok (.bipush 6, 2) := by decide +kernel
theorem dX9_init_23 : decode cX9_init 23 = .ok (.newarray .int, 2) := by decide +kernel
theorem dX9_init_25 : decode cX9_init 25 = .ok (.putfield 18, 3) := by decide +kernel
theorem dX9_init_28 : decode cX9_init 28 = .ok (.aload_n 0, 1) := by decide +kernel
theorem dX9_init_29 : decode cX9_init 29 = .ok (.aload_n 1, 1) := by decide +kernel
theorem dX9_init_30 : decode cX9_init 30 = .ok (.putfield 21, 3) := by decide +kernel
theorem dX9_init_33 : decode cX9_init 33 = .ok (.return_, 1) := by decide +kernel
theorem dX9_take_0 : decode cX9_take 0 = .ok (.iconst 0, 1) := by decide +kernel
theorem dX9_take_1 : decode cX9_take 1 = .ok (.istore_n 3, 1) := by decide +kernel
theorem dX9_take_2 : decode cX9_take 2 = .ok (.iload_n 3, 1) := by decide +kernel
theorem dX9_take_3 : decode cX9_take 3 = .ok (.bipush 10, 2) := by decide +kernel
theorem dX9_take_5 : decode cX9_take 5 = .ok (.if_icmp .ge 29, 3) := by decide +kernel
theorem dX9_take_8 : decode cX9_take 8 = .ok (.aload_n 0, 1) := by decide +kernel
theorem dX9_take_9 : decode cX9_take 9 = .ok (.getfield 9, 3) := by decide +kernel
theorem dX9_take_12 : decode cX9_take 12 = .ok (.iload_n 3, 1) := by decide +kernel
theorem dX9_take_13 : decode cX9_take 13 = .ok (.iconst 0, 1) := by decide +kernel
theorem dX9_take_14 : decode cX9_take 14 = .ok (.aload_n 1, 1) := by decide +kernel
theorem dX9_take_15 : decode cX9_take 15 = .ok (.iload_n 2, 1) := by decide +kernel
theorem dX9_take_16 : decode cX9_take 16 = .ok (.iload_n 3, 1) := by decide +kernel
theorem dX9_take_17 : decode cX9_take 17 = .ok (.iadd, 1) := by decide +kernel
theorem dX9_take_18 : decode cX9_take 18 = .ok (.sipush 1000, 3) := by decide +kernel
theorem dX9_take_21 : decode cX9_take 21 = .ok (.invokevirtual 25, 3) := by decide +kernel
theorem dX9_take_24 : decode cX9_take 24 = .ok (.invokestatic 31, 3) := by decide +kernel
theorem dX9_take_27 : decode cX9_take 27 = .ok (.iastore, 1) := by decide +kernel
theorem dX9_take_28 : decode cX9_take 28 = .ok (.iinc 3 1, 3) := by decide +kernel
theorem dX9_take_31 : decode cX9_take 31 = .ok (.goto (-29), 3) := by decide +kernel
theorem dX9_take_34 : decode cX9_take 34 = .ok (.iconst 0, 1) := by decide +kernel
theorem dX9_take_35 : decode cX9_take 35 = .ok (.istore_n 3, 1) := by decide +kernel
theorem dX9_take_36 : decode cX9_take 36 = .ok (.iload_n 3, 1) := by decide +kernel
theorem dX9_take_37 : decode cX9_take 37 = .ok (.aload_n 0, 1) := by decide +kernel
theorem dX9_take_38 : decode cX9_take 38 = .ok (.getfield 21, 3) := by decide +kernel
theorem dX9_take_41 : decode cX9_take 41 = .ok (.getfield 36, 3) := by decide +kernel
theorem dX9_take_44 : decode cX9_take 44 = .ok (.if_icmp .ge 35, 3) := by decide +kernel
theorem dX9_take_47 : decode cX9_take 47 = .ok (.aload_n 0, 1) := by decide +kernel
theorem dX9_take_48 : decode cX9_take 48 = .ok (.getfield 9, 3) := by decide +kernel
theorem dX9_take_51 : decode cX9_take 51 = .ok (.aload_n 0, 1) := by decide +kernel
theorem dX9_take_52 : decode cX9_take 52 = .ok (.getfield 21, 3) := by decide +kernel
theorem dX9_take_55 : decode cX9_take 55 = .ok (.getfield 42, 3) := by decide +kernel
theorem dX9_take_58 : decode cX9_take 58 = .ok (.iload_n 3, 1) := by decide +kernel
theorem dX9_take_59 : decode cX9_take 59 = .ok (.iaload, 1) := by decide +kernel
theorem dX9_take_60 : decode cX9_take 60 = .ok (.dup2, 1) := by decide +kernel
theorem dX9_take_61 : decode cX9_take 61 = .ok (.iaload, 1) := by decide +kernel
theorem dX9_take_62 : decode cX9_take 62 = .ok (.aload_n 0, 1) := by decide +kernel
theorem dX9_take_63 : decode cX9_take 63 = .ok (.getfield 21, 3) := by decide +kernel
theorem dX9_take_66 : decode cX9_take 66 = .ok (.getfield 45, 3) := by decide +kernel
theorem dX9_take_69 : decode cX9_take 69 = .ok (.iload_n 3, 1) := by decide +kernel
theorem dX9_take_70 : decode cX9_take 70 = .ok (.iaload, 1) := by decide +kernel
theorem dX9_take_71 : decode cX9_take 71 = .ok (.isub, 1) := by decide +kernel
theorem dX9_take_72 : decode cX9_take 72 = .ok (.iastore, 1) := by decide +kernel
theorem dX9_take_73 : decode cX9_take 73 = .ok (.iinc 3 1, 3) := by decide +kernel
theorem dX9_take_76 : decode cX9_take 76 = .ok (.goto (-40), 3) := by decide +kernel
theorem dX9_take_79 : decode cX9_take 79 = .ok (.return_, 1) := by decide +kernel
theorem dX9_hireCheapest_0 : decode cX9_hireCheapest 0 = .ok (.iconst 0, 1) := by decide +kernel
theorem dX9_hireCheapest_1 : decode cX9_hireCheapest 1 = .ok (.istore_n 1, 1) := by decide +kernel
theorem dX9_hireCheapest_2 : decode cX9_hireCheapest 2 = .ok (.iconst 0, 1) := by decide +kernel
theorem dX9_hireCheapest_3 : decode cX9_hireCheapest 3 = .ok (.istore_n 2, 1) := by decide +kernel
theorem dX9_hireCheapest_4 : decode cX9_hireCheapest 4 = .ok (.iload_n 2, 1) := by decide +kernel
theorem dX9_hireCheapest_5 : decode cX9_hireCheapest 5 = .ok (.bipush 10, 2) := by decide +kernel
theorem dX9_hireCheapest_7 : decode cX9_hireCheapest 7 = .ok (.if_icmp .ge 22, 3) := by decide +kernel
theorem dX9_hireCheapest_10 : decode cX9_hireCheapest 10 = .ok (.iload_n 1, 1) := by decide +kernel
theorem dX9_hireCheapest_11 : decode cX9_hireCheapest 11 = .ok (.iconst 0, 1) := by decide +kernel
theorem dX9_hireCheapest_12 : decode cX9_hireCheapest 12 = .ok (.aload_n 0, 1) := by decide +kernel
theorem dX9_hireCheapest_13 : decode cX9_hireCheapest 13 = .ok (.getfield 9, 3) := by decide +kernel
theorem dX9_hireCheapest_16 : decode cX9_hireCheapest 16 = .ok (.iload_n 2, 1) := by decide +kernel
theorem dX9_hireCheapest_17 : decode cX9_hireCheapest 17 = .ok (.iaload, 1) := by decide +kernel
theorem dX9_hireCheapest_18 : decode cX9_hireCheapest 18 = .ok (.invokestatic 31, 3) := by decide +kernel
theorem dX9_hireCheapest_21 : decode cX9_hireCheapest 21 = .ok (.iadd, 1) := by decide +kernel
theorem dX9_hireCheapest_22 : decode cX9_hireCheapest 22 = .ok (.istore_n 1, 1) := by decide +kernel
theorem dX9_hireCheapest_23 : decode cX9_hireCheapest 23 = .ok (.iinc 2 1, 3) := by decide +kernel
theorem dX9_hireCheapest_26 : decode cX9_hireCheapest 26 = .ok (.goto (-22), 3) := by decide +kernel
theorem dX9_hireCheapest_29 : decode cX9_hireCheapest 29 = .ok (.aload_n 0, 1) := by decide +kernel
theorem dX9_hireCheapest_30 : decode cX9_hireCheapest 30 = .ok (.sipush 1000, 3) := by decide +kernel
theorem dX9_hireCheapest_33 : decode cX9_hireCheapest 33 = .ok (.putfield 48, 3) := by decide +kernel
theorem dX9_hireCheapest_36 : decode cX9_hireCheapest 36 = .ok (.aload_n 0, 1) := by decide +kernel
theorem dX9_hireCheapest_37 : decode cX9_hireCheapest 37 = .ok (.iconst 0, 1) := by decide +kernel
theorem dX9_hireCheapest_38 : decode cX9_hireCheapest 38 = .ok (.iconst 0, 1) := by decide +kernel
theorem dX9_hireCheapest_39 : decode cX9_hireCheapest 39 = .ok (.iconst 0, 1) := by decide +kernel
theorem dX9_hireCheapest_40 : decode cX9_hireCheapest 40 = .ok (.iload_n 1, 1) := by decide +kernel
theorem dX9_hireCheapest_41 : decode cX9_hireCheapest 41 = .ok (.invokevirtual 51, 3) := by decide +kernel
theorem dX9_hireCheapest_44 : decode cX9_hireCheapest 44 = .ok (.aload_n 0, 1) := by decide +kernel
theorem dX9_hireCheapest_45 : decode cX9_hireCheapest 45 = .ok (.getfield 48, 3) := by decide +kernel
theorem dX9_hireCheapest_48 : decode cX9_hireCheapest 48 = .ok (.sipush 1000, 3) := by decide +kernel
theorem dX9_hireCheapest_51 : decode cX9_hireCheapest 51 = .ok (.if_icmp .ge 7, 3) := by decide +kernel
theorem dX9_hireCheapest_54 : decode cX9_hireCheapest 54 = .ok (.iconst 1, 1) := by decide +kernel
theorem dX9_hireCheapest_55 : decode cX9_hireCheapest 55 = .ok (.goto 4, 3) := by decide +kernel
theorem dX9_hireCheapest_58 : decode cX9_hireCheapest 58 = .ok (.iconst 0, 1) := by decide +kernel
theorem dX9_hireCheapest_59 : decode cX9_hireCheapest 59 = .ok (.ireturn, 1) := by decide +kernel
theorem dX9_hireFrom_0 : decode cX9_hireFrom 0 = .ok (.iload_n 3, 1) := by decide +kernel
theorem dX9_hireFrom_1 : decode cX9_hireFrom 1 = .ok (.aload_n 0, 1) := by decide +kernel
theorem dX9_hireFrom_2 : decode cX9_hireFrom 2 = .ok (.getfield 48, 3) := by decide +kernel
theorem dX9_hireFrom_5 : decode cX9_hireFrom 5 = .ok (.if_icmp .ge 17, 3) := by decide +kernel
theorem dX9_hireFrom_8 : decode cX9_hireFrom 8 = .ok (.iload 4, 2) := by decide +kernel
theorem dX9_hireFrom_10 : decode cX9_hireFrom 10 = .ok (.aload_n 0, 1) := by decide +kernel
theorem dX9_hireFrom_11 : decode cX9_hireFrom 11 = .ok (.getfield 21, 3) := by decide +kernel
theorem dX9_hireFrom_14 : decode cX9_hireFrom 14 = .ok (.getfield 55, 3) := by decide +kernel
theorem dX9_hireFrom_17 : decode cX9_hireFrom 17 = .ok (.iload_n 1, 1) := by decide +kernel
theorem dX9_hireFrom_18 : decode cX9_hireFrom 18 = .ok (.iaload, 1) := by decide +kernel
theorem dX9_hireFrom_19 : decode cX9_hireFrom 19 = .ok (.if_icmp .le 4, 3) := by decide +kernel
theorem dX9_hireFrom_22 : decode cX9_hireFrom 22 = .ok (.return_, 1) := by decide +kernel
theorem dX9_hireFrom_23 : decode cX9_hireFrom 23 = .ok (.iload_n 1, 1) := by decide +kernel
theorem dX9_hireFrom_24 : decode cX9_hireFrom 24 = .ok (.aload_n 0, 1) := by decide +kernel
theorem dX9_hireFrom_25 : decode cX9_hireFrom 25 = .ok (.getfield 21, 3) := by decide +kernel
theorem dX9_hireFrom_28 : decode cX9_hireFrom 28 = .ok (.getfield 36, 3) := by decide +kernel
theorem dX9_hireFrom_31 : decode cX9_hireFrom 31 = .ok (.if_icmp .lt 24, 3) := by decide +kernel
theorem dX9_hireFrom_34 : decode cX9_hireFrom 34 = .ok (.aload_n 0, 1) := by decide +kernel
theorem dX9_hireFrom_35 : decode cX9_hireFrom 35 = .ok (.iload_n 3, 1) := by decide +kernel
theorem dX9_hireFrom_36 : decode cX9_hireFrom 36 = .ok (.putfield 48, 3) := by decide +kernel
theorem dX9_hireFrom_39 : decode cX9_hireFrom 39 = .ok (.aload_n 0, 1) := by decide +kernel
theorem dX9_hireFrom_40 : decode cX9_hireFrom 40 = .ok (.getfield 15, 3) := by decide +kernel
theorem dX9_hireFrom_43 : decode cX9_hireFrom 43 = .ok (.iconst 0, 1) := by decide +kernel
theorem dX9_hireFrom_44 : decode cX9_hireFrom 44 = .ok (.aload_n 0, 1) := by decide +kernel
theorem dX9_hireFrom_45 : decode cX9_hireFrom 45 = .ok (.getfield 18, 3) := by decide +kernel
theorem dX9_hireFrom_48 : decode cX9_hireFrom 48 = .ok (.iconst 0, 1) := by decide +kernel
theorem dX9_hireFrom_49 : decode cX9_hireFrom 49 = .ok (.bipush 6, 2) := by decide +kernel
theorem dX9_hireFrom_51 : decode cX9_hireFrom 51 = .ok (.invokestatic 58, 3) := by decide +kernel
theorem dX9_hireFrom_54 : decode cX9_hireFrom 54 = .ok (.return_, 1) := by decide +kernel
theorem dX9_hireFrom_55 : decode cX9_hireFrom 55 = .ok (.aload_n 0, 1) := by decide +kernel
theorem dX9_hireFrom_56 : decode cX9_hireFrom 56 = .ok (.getfield 21, 3) := by decide +kernel
theorem dX9_hireFrom_59 : decode cX9_hireFrom 59 = .ok (.iload_n 1, 1) := by decide +kernel
theorem dX9_hireFrom_60 : decode cX9_hireFrom 60 = .ok (.iload_n 2, 1) := by decide +kernel
theorem dX9_hireFrom_61 : decode cX9_hireFrom 61 = .ok (.invokevirtual 64, 3) := by decide +kernel
theorem dX9_hireFrom_64 : decode cX9_hireFrom 64 = .ok (.istore 5, 2) := by decide +kernel
theorem dX9_hireFrom_66 : decode cX9_hireFrom 66 = .ok (.iconst 0, 1) := by decide +kernel
theorem dX9_hireFrom_67 : decode cX9_hireFrom 67 = .ok (.istore 6, 2) := by decide +kernel
theorem dX9_hireFrom_69 : decode cX9_hireFrom 69 = .ok (.iload 6, 2) := by decide +kernel
theorem dX9_hireFrom_71 : decode cX9_hireFrom 71 = .ok (.bipush 6, 2) := by decide +kernel
theorem dX9_hireFrom_73 : decode cX9_hireFrom 73 = .ok (.if_icmp .ge 129, 3) := by decide +kernel
theorem dX9_hireFrom_76 : decode cX9_hireFrom 76 = .ok (.iload 5, 2) := by decide +kernel
theorem dX9_hireFrom_78 : decode cX9_hireFrom 78 = .ok (.iload 6, 2) := by decide +kernel
theorem dX9_hireFrom_80 : decode cX9_hireFrom 80 = .ok (.invokestatic 67, 3) := by decide +kernel
theorem dX9_hireFrom_83 : decode cX9_hireFrom 83 = .ok (.ifCond .eq 113, 3) := by decide +kernel
theorem dX9_hireFrom_86 : decode cX9_hireFrom 86 = .ok (.aload_n 0, 1) := by decide +kernel
theorem dX9_hireFrom_87 : decode cX9_hireFrom 87 = .ok (.getfield 21, 3) := by decide +kernel
theorem dX9_hireFrom_90 : decode cX9_hireFrom 90 = .ok (.getfield 71, 3) := by decide +kernel
theorem dX9_hireFrom_93 : decode cX9_hireFrom 93 = .ok (.iload 6, 2) := by decide +kernel
theorem dX9_hireFrom_95 : decode cX9_hireFrom 95 = .ok (.iaload, 1) := by decide +kernel
theorem dX9_hireFrom_96 : decode cX9_hireFrom 96 = .ok (.istore 7, 2) := by decide +kernel
theorem dX9_hireFrom_98 : decode cX9_hireFrom 98 = .ok (.aload_n 0, 1) := by decide +kernel
theorem dX9_hireFrom_99 : decode cX9_hireFrom 99 = .ok (.getfield 9, 3) := by decide +kernel
theorem dX9_hireFrom_102 : decode cX9_hireFrom 102 = .ok (.iload 7, 2) := by decide +kernel
theorem dX9_hireFrom_104 : decode cX9_hireFrom 104 = .ok (.iaload, 1) := by decide +kernel
theorem dX9_hireFrom_105 : decode cX9_hireFrom 105 = .ok (.istore 8, 2) := by decide +kernel
theorem dX9_hireFrom_107 : decode cX9_hireFrom 107 = .ok (.iload 8, 2) := by decide +kernel
theorem dX9_hireFrom_109 : decode cX9_hireFrom 109 = .ok (.aload_n 0, 1) := by decide +kernel
theorem dX9_hireFrom_110 : decode cX9_hireFrom 110 = .ok (.getfield 21, 3) := by decide +kernel
theorem dX9_hireFrom_113 : decode cX9_hireFrom 113 = .ok (.getfield 74, 3) := by decide +kernel
theorem dX9_hireFrom_116 : decode cX9_hireFrom 116 = .ok (.iload_n 1, 1) := by decide +kernel
theorem dX9_hireFrom_117 : decode cX9_hireFrom 117 = .ok (.iaload, 1) := by decide +kernel
theorem dX9_hireFrom_118 : decode cX9_hireFrom 118 = .ok (.isub, 1) := by decide +kernel
theorem dX9_hireFrom_119 : decode cX9_hireFrom 119 = .ok (.istore 9, 2) := by decide +kernel
theorem dX9_hireFrom_121 : decode cX9_hireFrom 121 = .ok (.aload_n 0, 1) := by decide +kernel
theorem dX9_hireFrom_122 : decode cX9_hireFrom 122 = .ok (.getfield 9, 3) := by decide +kernel
theorem dX9_hireFrom_125 : decode cX9_hireFrom 125 = .ok (.iload 7, 2) := by decide +kernel
theorem dX9_hireFrom_127 : decode cX9_hireFrom 127 = .ok (.iload 9, 2) := by decide +kernel
theorem dX9_hireFrom_129 : decode cX9_hireFrom 129 = .ok (.iastore, 1) := by decide +kernel
theorem dX9_hireFrom_130 : decode cX9_hireFrom 130 = .ok (.aload_n 0, 1) := by decide +kernel
theorem dX9_hireFrom_131 : decode cX9_hireFrom 131 = .ok (.getfield 15, 3) := by decide +kernel
theorem dX9_hireFrom_134 : decode cX9_hireFrom 134 = .ok (.iload_n 1, 1) := by decide +kernel
theorem dX9_hireFrom_135 : decode cX9_hireFrom 135 = .ok (.iload 6, 2) := by decide +kernel
theorem dX9_hireFrom_137 : decode cX9_hireFrom 137 = .ok (.iastore, 1) := by decide +kernel
theorem dX9_hireFrom_138 : decode cX9_hireFrom 138 = .ok (.iload 4, 2) := by decide +kernel
theorem dX9_hireFrom_140 : decode cX9_hireFrom 140 = .ok (.iconst 0, 1) := by decide +kernel
theorem dX9_hireFrom_141 : decode cX9_hireFrom 141 = .ok (.iload 8, 2) := by decide +kernel
theorem dX9_hireFrom_143 : decode cX9_hireFrom 143 = .ok (.invokestatic 31, 3) := by decide +kernel
theorem dX9_hireFrom_146 : decode cX9_hireFrom 146 = .ok (.isub, 1) := by decide +kernel
theorem dX9_hireFrom_147 : decode cX9_hireFrom 147 = .ok (.iconst 0, 1) := by decide +kernel
theorem dX9_hireFrom_148 : decode cX9_hireFrom 148 = .ok (.iload 9, 2) := by decide +kernel
theorem dX9_hireFrom_150 : decode cX9_hireFrom 150 = .ok (.invokestatic 31, 3) := by decide +kernel
theorem dX9_hireFrom_153 : decode cX9_hireFrom 153 = .ok (.iadd, 1) := by decide +kernel
theorem dX9_hireFrom_154 : decode cX9_hireFrom 154 = .ok (.istore 10, 2) := by decide +kernel
theorem dX9_hireFrom_156 : decode cX9_hireFrom 156 = .ok (.aload_n 0, 1) := by decide +kernel
theorem dX9_hireFrom_157 : decode cX9_hireFrom 157 = .ok (.iload_n 1, 1) := by decide +kernel
theorem dX9_hireFrom_158 : decode cX9_hireFrom 158 = .ok (.iconst 1, 1) := by decide +kernel
theorem dX9_hireFrom_159 : decode cX9_hireFrom 159 = .ok (.iadd, 1) := by decide +kernel
theorem dX9_hireFrom_160 : decode cX9_hireFrom 160 = .ok (.aload_n 0, 1) := by decide +kernel
theorem dX9_hireFrom_161 : decode cX9_hireFrom 161 = .ok (.getfield 21, 3) := by decide +kernel
theorem dX9_hireFrom_164 : decode cX9_hireFrom 164 = .ok (.iload_n 2, 1) := by decide +kernel
theorem dX9_hireFrom_165 : decode cX9_hireFrom 165 = .ok (.iload 6, 2) := by decide +kernel
theorem dX9_hireFrom_167 : decode cX9_hireFrom 167 = .ok (.invokevirtual 77, 3) := by decide +kernel
theorem dX9_hireFrom_170 : decode cX9_hireFrom 170 = .ok (.iload_n 3, 1) := by decide +kernel
theorem dX9_hireFrom_171 : decode cX9_hireFrom 171 = .ok (.aload_n 0, 1) := by decide +kernel
theorem dX9_hireFrom_172 : decode cX9_hireFrom 172 = .ok (.getfield 21, 3) := by decide +kernel
theorem dX9_hireFrom_175 : decode cX9_hireFrom 175 = .ok (.iload_n 2, 1) := by decide +kernel
theorem dX9_hireFrom_176 : decode cX9_hireFrom 176 = .ok (.iload 6, 2) := by decide +kernel
theorem dX9_hireFrom_178 : decode cX9_hireFrom 178 = .ok (.invokevirtual 80, 3) := by decide +kernel
theorem dX9_hireFrom_181 : decode cX9_hireFrom 181 = .ok (.iadd, 1) := by decide +kernel
theorem dX9_hireFrom_182 : decode cX9_hireFrom 182 = .ok (.iload 10, 2) := by decide +kernel
theorem dX9_hireFrom_184 : decode cX9_hireFrom 184 = .ok (.invokevirtual 51, 3) := by decide +kernel
theorem dX9_hireFrom_187 : decode cX9_hireFrom 187 = .ok (.aload_n 0, 1) := by decide +kernel
theorem dX9_hireFrom_188 : decode cX9_hireFrom 188 = .ok (.getfield 9, 3) := by decide +kernel
theorem dX9_hireFrom_191 : decode cX9_hireFrom 191 = .ok (.iload 7, 2) := by decide +kernel
theorem dX9_hireFrom_193 : decode cX9_hireFrom 193 = .ok (.iload 8, 2) := by decide +kernel
theorem dX9_hireFrom_195 : decode cX9_hireFrom 195 = .ok (.iastore, 1) := by decide +kernel
theorem dX9_hireFrom_196 : decode cX9_hireFrom 196 = .ok (.iinc 6 1, 3) := by decide +kernel
theorem dX9_hireFrom_199 : decode cX9_hireFrom 199 = .ok (.goto (-130), 3) := by decide +kernel
theorem dX9_hireFrom_202 : decode cX9_hireFrom 202 = .ok (.return_, 1) := by decide +kernel
theorem dX9_bakeAll_0 : decode cX9_bakeAll 0 = .ok (.aload_n 0, 1) := by decide +kernel
theorem dX9_bakeAll_1 : decode cX9_bakeAll 1 = .ok (.iconst 0, 1) := by decide +kernel
theorem dX9_bakeAll_2 : decode cX9_bakeAll 2 = .ok (.putfield 83, 3) := by decide +kernel
theorem dX9_bakeAll_5 : decode cX9_bakeAll 5 = .ok (.iconst 0, 1) := by decide +kernel
theorem dX9_bakeAll_6 : decode cX9_bakeAll 6 = .ok (.istore_n 1, 1) := by decide +kernel
theorem dX9_bakeAll_7 : decode cX9_bakeAll 7 = .ok (.iconst 0, 1) := by decide +kernel
theorem dX9_bakeAll_8 : decode cX9_bakeAll 8 = .ok (.istore_n 2, 1) := by decide +kernel
theorem dX9_bakeAll_9 : decode cX9_bakeAll 9 = .ok (.iload_n 2, 1) := by decide +kernel
theorem dX9_bakeAll_10 : decode cX9_bakeAll 10 = .ok (.bipush 10, 2) := by decide +kernel
theorem dX9_bakeAll_12 : decode cX9_bakeAll 12 = .ok (.if_icmp .ge 28, 3) := by decide +kernel
theorem dX9_bakeAll_15 : decode cX9_bakeAll 15 = .ok (.aload_n 0, 1) := by decide +kernel
theorem dX9_bakeAll_16 : decode cX9_bakeAll 16 = .ok (.getfield 9, 3) := by decide +kernel
theorem dX9_bakeAll_19 : decode cX9_bakeAll 19 = .ok (.iload_n 2, 1) := by decide +kernel
theorem dX9_bakeAll_20 : decode cX9_bakeAll 20 = .ok (.iaload, 1) := by decide +kernel
theorem dX9_bakeAll_21 : decode cX9_bakeAll 21 = .ok (.ifCond .ge 4, 3) := by decide +kernel
theorem dX9_bakeAll_24 : decode cX9_bakeAll 24 = .ok (.return_, 1) := by decide +kernel
theorem dX9_bakeAll_25 : decode cX9_bakeAll 25 = .ok (.iload_n 1, 1) := by decide +kernel
theorem dX9_bakeAll_26 : decode cX9_bakeAll 26 = .ok (.aload_n 0, 1) := by decide +kernel
theorem dX9_bakeAll_27 : decode cX9_bakeAll 27 = .ok (.getfield 9, 3) := by decide +kernel
theorem dX9_bakeAll_30 : decode cX9_bakeAll 30 = .ok (.iload_n 2, 1) := by decide +kernel
theorem dX9_bakeAll_31 : decode cX9_bakeAll 31 = .ok (.iaload, 1) := by decide +kernel
theorem dX9_bakeAll_32 : decode cX9_bakeAll 32 = .ok (.iadd, 1) := by decide +kernel
theorem dX9_bakeAll_33 : decode cX9_bakeAll 33 = .ok (.istore_n 1, 1) := by decide +kernel
theorem dX9_bakeAll_34 : decode cX9_bakeAll 34 = .ok (.iinc 2 1, 3) := by decide +kernel
theorem dX9_bakeAll_37 : decode cX9_bakeAll 37 = .ok (.goto (-28), 3) := by decide +kernel
theorem dX9_bakeAll_40 : decode cX9_bakeAll 40 = .ok (.iload_n 1, 1) := by decide +kernel
theorem dX9_bakeAll_41 : decode cX9_bakeAll 41 = .ok (.aload_n 0, 1) := by decide +kernel
theorem dX9_bakeAll_42 : decode cX9_bakeAll 42 = .ok (.getfield 21, 3) := by decide +kernel
theorem dX9_bakeAll_45 : decode cX9_bakeAll 45 = .ok (.getfield 55, 3) := by decide +kernel
theorem dX9_bakeAll_48 : decode cX9_bakeAll 48 = .ok (.iconst 0, 1) := by decide +kernel
theorem dX9_bakeAll_49 : decode cX9_bakeAll 49 = .ok (.iaload, 1) := by decide +kernel
theorem dX9_bakeAll_50 : decode cX9_bakeAll 50 = .ok (.if_icmp .ne 9, 3) := by decide +kernel
theorem dX9_bakeAll_53 : decode cX9_bakeAll 53 = .ok (.aload_n 0, 1) := by decide +kernel
theorem dX9_bakeAll_54 : decode cX9_bakeAll 54 = .ok (.iconst 0, 1) := by decide +kernel
theorem dX9_bakeAll_55 : decode cX9_bakeAll 55 = .ok (.iconst 0, 1) := by decide +kernel
theorem dX9_bakeAll_56 : decode cX9_bakeAll 56 = .ok (.invokevirtual 86, 3) := by decide +kernel
theorem dX9_bakeAll_59 : decode cX9_bakeAll 59 = .ok (.return_, 1) := by decide +kernel
theorem dX9_bakeFrom_0 : decode cX9_bakeFrom 0 = .ok (.iload_n 1, 1) := by decide +kernel
theorem dX9_bakeFrom_1 : decode cX9_bakeFrom 1 = .ok (.aload_n 0, 1) := by decide +kernel
theorem dX9_bakeFrom_2 : decode cX9_bakeFrom 2 = .ok (.getfield 21, 3) := by decide +kernel
theorem dX9_bakeFrom_5 : decode cX9_bakeFrom 5 = .ok (.getfield 36, 3) := by decide +kernel
theorem dX9_bakeFrom_8 : decode cX9_bakeFrom 8 = .ok (.if_icmp .lt 36, 3) := by decide +kernel
theorem dX9_bakeFrom_11 : decode cX9_bakeFrom 11 = .ok (.aload_n 0, 1) := by decide +kernel
theorem dX9_bakeFrom_12 : decode cX9_bakeFrom 12 = .ok (.getfield 83, 3) := by decide +kernel
theorem dX9_bakeFrom_15 : decode cX9_bakeFrom 15 = .ok (.ifCond .ne 18, 3) := by decide +kernel
theorem dX9_bakeFrom_18 : decode cX9_bakeFrom 18 = .ok (.aload_n 0, 1) := by decide +kernel
theorem dX9_bakeFrom_19 : decode cX9_bakeFrom 19 = .ok (.getfield 15, 3) := by decide +kernel
theorem dX9_bakeFrom_22 : decode cX9_bakeFrom 22 = .ok (.iconst 0, 1) := by decide +kernel
theorem dX9_bakeFrom_23 : decode cX9_bakeFrom 23 = .ok (.aload_n 0, 1) := by decide +kernel
theorem dX9_bakeFrom_24 : decode cX9_bakeFrom 24 = .ok (.getfield 18, 3) := by decide +kernel
theorem dX9_bakeFrom_27 : decode cX9_bakeFrom 27 = .ok (.iconst 0, 1) := by decide +kernel
theorem dX9_bakeFrom_28 : decode cX9_bakeFrom 28 = .ok (.bipush 6, 2) := by decide +kernel
theorem dX9_bakeFrom_30 : decode cX9_bakeFrom 30 = .ok (.invokestatic 58, 3) := by decide +kernel
theorem dX9_bakeFrom_33 : decode cX9_bakeFrom 33 = .ok (.aload_n 0, 1) := by decide +kernel
theorem dX9_bakeFrom_34 : decode cX9_bakeFrom 34 = .ok (.dup, 1) := by decide +kernel
theorem dX9_bakeFrom_35 : decode cX9_bakeFrom 35 = .ok (.getfield 83, 3) := by decide +kernel
theorem dX9_bakeFrom_38 : decode cX9_bakeFrom 38 = .ok (.iconst 1, 1) := by decide +kernel
theorem dX9_bakeFrom_39 : decode cX9_bakeFrom 39 = .ok (.iadd, 1) := by decide +kernel
theorem dX9_bakeFrom_40 : decode cX9_bakeFrom 40 = .ok (.putfield 83, 3) := by decide +kernel
theorem dX9_bakeFrom_43 : decode cX9_bakeFrom 43 = .ok (.return_, 1) := by decide +kernel
theorem dX9_bakeFrom_44 : decode cX9_bakeFrom 44 = .ok (.aload_n 0, 1) := by decide +kernel
theorem dX9_bakeFrom_45 : decode cX9_bakeFrom 45 = .ok (.getfield 21, 3) := by decide +kernel
theorem dX9_bakeFrom_48 : decode cX9_bakeFrom 48 = .ok (.iload_n 1, 1) := by decide +kernel
theorem dX9_bakeFrom_49 : decode cX9_bakeFrom 49 = .ok (.iload_n 2, 1) := by decide +kernel
theorem dX9_bakeFrom_50 : decode cX9_bakeFrom 50 = .ok (.invokevirtual 64, 3) := by decide +kernel
theorem dX9_bakeFrom_53 : decode cX9_bakeFrom 53 = .ok (.istore_n 3, 1) := by decide +kernel
theorem dX9_bakeFrom_54 : decode cX9_bakeFrom 54 = .ok (.iconst 0, 1) := by decide +kernel
theorem dX9_bakeFrom_55 : decode cX9_bakeFrom 55 = .ok (.istore 4, 2) := by decide +kernel
theorem dX9_bakeFrom_57 : decode cX9_bakeFrom 57 = .ok (.iload 4, 2) := by decide +kernel
theorem dX9_bakeFrom_59 : decode cX9_bakeFrom 59 = .ok (.bipush 6, 2) := by decide +kernel
theorem dX9_bakeFrom_61 : decode cX9_bakeFrom 61 = .ok (.if_icmp .ge 112, 3) := by decide +kernel
theorem dX9_bakeFrom_64 : decode cX9_bakeFrom 64 = .ok (.aload_n 0, 1) := by decide +kernel
theorem dX9_bakeFrom_65 : decode cX9_bakeFrom 65 = .ok (.getfield 21, 3) := by decide +kernel
theorem dX9_bakeFrom_68 : decode cX9_bakeFrom 68 = .ok (.getfield 71, 3) := by decide +kernel
theorem dX9_bakeFrom_71 : decode cX9_bakeFrom 71 = .ok (.iload 4, 2) := by decide +kernel
theorem dX9_bakeFrom_73 : decode cX9_bakeFrom 73 = .ok (.iaload, 1) := by decide +kernel
theorem dX9_bakeFrom_74 : decode cX9_bakeFrom 74 = .ok (.istore 5, 2) := by decide +kernel
theorem dX9_bakeFrom_76 : decode cX9_bakeFrom 76 = .ok (.iload_n 3, 1) := by decide +kernel
theorem dX9_bakeFrom_77 : decode cX9_bakeFrom 77 = .ok (.iload 4, 2) := by decide +kernel
theorem dX9_bakeFrom_79 : decode cX9_bakeFrom 79 = .ok (.invokestatic 67, 3) := by decide +kernel
theorem dX9_bakeFrom_82 : decode cX9_bakeFrom 82 = .ok (.ifCond .eq 85, 3) := by decide +kernel
theorem dX9_bakeFrom_85 : decode cX9_bakeFrom 85 = .ok (.aload_n 0, 1) := by decide +kernel
theorem dX9_bakeFrom_86 : decode cX9_bakeFrom 86 = .ok (.getfield 9, 3) := by decide +kernel
theorem dX9_bakeFrom_89 : decode cX9_bakeFrom 89 = .ok (.iload 5, 2) := by decide +kernel
theorem dX9_bakeFrom_91 : decode cX9_bakeFrom 91 = .ok (.iaload, 1) := by decide +kernel
theorem dX9_bakeFrom_92 : decode cX9_bakeFrom 92 = .ok (.aload_n 0, 1) := by decide +kernel
theorem dX9_bakeFrom_93 : decode cX9_bakeFrom 93 = .ok (.getfield 21, 3) := by decide +kernel
theorem dX9_bakeFrom_96 : decode cX9_bakeFrom 96 = .ok (.getfield 74, 3) := by decide +kernel
