section
-- ===== PART A: goes FIRST, ahead of the names: the tables' words, and 'selects' of the private methods out of them =====
/-- a private method of a class that the tables say can be made, by its rows of tables_1 -/
def lw_okq (q : MethodName × Nat) : Prop := (q.1.cls ≠ "java/lang/invoke/MethodHandle" ∧ q.1.cls ≠ "java/lang/invoke/VarHandle") ∧ Cond.instantiable q.1.cls q.2 ∈ tables_1 ∧ Cond.privateMethod q.1 ∈ tables_1 ∧ Cond.instanceMethod q.1 ∈ tables_1
theorem lw_p0 : lw_okq (⟨"ClimbedFruit$Ground", "climbsElsewhere", "(II)Z"⟩, 8) := ⟨⟨by decide +kernel, by decide +kernel⟩, List.mem_of_getElem? (i := 31) (by decide +kernel), List.mem_of_getElem? (i := 503) (by decide +kernel), List.mem_of_getElem? (i := 504) (by decide +kernel)⟩
theorem lw_p1 : lw_okq (⟨"ClimbedFruit$Tape", "parseTree", "(II)Z"⟩, 6) := ⟨⟨by decide +kernel, by decide +kernel⟩, List.mem_of_getElem? (i := 151) (by decide +kernel), List.mem_of_getElem? (i := 523) (by decide +kernel), List.mem_of_getElem? (i := 524) (by decide +kernel)⟩
theorem lw_p2 : lw_okq (⟨"ClimbedFruit$Tape", "peek", "()I"⟩, 6) := ⟨⟨by decide +kernel, by decide +kernel⟩, List.mem_of_getElem? (i := 151) (by decide +kernel), List.mem_of_getElem? (i := 528) (by decide +kernel), List.mem_of_getElem? (i := 529) (by decide +kernel)⟩
theorem lw_p3 : lw_okq (⟨"ClimbedFruit$Tape", "parseClimber", "(I)I"⟩, 6) := ⟨⟨by decide +kernel, by decide +kernel⟩, List.mem_of_getElem? (i := 151) (by decide +kernel), List.mem_of_getElem? (i := 618) (by decide +kernel), List.mem_of_getElem? (i := 619) (by decide +kernel)⟩
theorem lw_p4 : lw_okq (⟨"ClimbedFruit$Ground", "borneNext", "(II)I"⟩, 8) := ⟨⟨by decide +kernel, by decide +kernel⟩, List.mem_of_getElem? (i := 31) (by decide +kernel), List.mem_of_getElem? (i := 669) (by decide +kernel), List.mem_of_getElem? (i := 670) (by decide +kernel)⟩
theorem lw_p5 : lw_okq (⟨"ClimbedFruit$Ground", "drawByTen", "()I"⟩, 8) := ⟨⟨by decide +kernel, by decide +kernel⟩, List.mem_of_getElem? (i := 31) (by decide +kernel), List.mem_of_getElem? (i := 695) (by decide +kernel), List.mem_of_getElem? (i := 696) (by decide +kernel)⟩
theorem lw_p6 : lw_okq (⟨"ClimbedFruit$Ground", "oddsOf", "(I)I"⟩, 8) := ⟨⟨by decide +kernel, by decide +kernel⟩, List.mem_of_getElem? (i := 31) (by decide +kernel), List.mem_of_getElem? (i := 702) (by decide +kernel), List.mem_of_getElem? (i := 703) (by decide +kernel)⟩
theorem lw_p7 : lw_okq (⟨"ClimbedFruit$Plan", "layFolk", "(LClimbedFruit$Ground;)V"⟩, 11) := ⟨⟨by decide +kernel, by decide +kernel⟩, List.mem_of_getElem? (i := 179) (by decide +kernel), List.mem_of_getElem? (i := 726) (by decide +kernel), List.mem_of_getElem? (i := 727) (by decide +kernel)⟩
theorem lw_p8 : lw_okq (⟨"ClimbedFruit$Plan", "layTree", "(ILClimbedFruit$Ground;)V"⟩, 11) := ⟨⟨by decide +kernel, by decide +kernel⟩, List.mem_of_getElem? (i := 179) (by decide +kernel), List.mem_of_getElem? (i := 733) (by decide +kernel), List.mem_of_getElem? (i := 734) (by decide +kernel)⟩
theorem lw_p9 : lw_okq (⟨"ClimbedFruit$Orders", "mostFrom", "(II)I"⟩, 7) := ⟨⟨by decide +kernel, by decide +kernel⟩, List.mem_of_getElem? (i := 230) (by decide +kernel), List.mem_of_getElem? (i := 750) (by decide +kernel), List.mem_of_getElem? (i := 751) (by decide +kernel)⟩
theorem lw_p10 : lw_okq (⟨"ClimbedFruit$Orders", "freeAllowed", "(II)I"⟩, 7) := ⟨⟨by decide +kernel, by decide +kernel⟩, List.mem_of_getElem? (i := 230) (by decide +kernel), List.mem_of_getElem? (i := 754) (by decide +kernel), List.mem_of_getElem? (i := 755) (by decide +kernel)⟩
theorem lw_p11 : lw_okq (⟨"ClimbedFruit$Orders", "gainFrom", "(III)I"⟩, 7) := ⟨⟨by decide +kernel, by decide +kernel⟩, List.mem_of_getElem? (i := 230) (by decide +kernel), List.mem_of_getElem? (i := 763) (by decide +kernel), List.mem_of_getElem? (i := 764) (by decide +kernel)⟩
theorem lw_p12 : lw_okq (⟨"ClimbedFruit$Orders", "firstOfMost", "(II)I"⟩, 7) := ⟨⟨by decide +kernel, by decide +kernel⟩, List.mem_of_getElem? (i := 230) (by decide +kernel), List.mem_of_getElem? (i := 785) (by decide +kernel), List.mem_of_getElem? (i := 786) (by decide +kernel)⟩
theorem lw_p13 : lw_okq (⟨"ClimbedFruit$Villages", "outcomeFrom", "(IIIZ)I"⟩, 3) := ⟨⟨by decide +kernel, by decide +kernel⟩, List.mem_of_getElem? (i := 289) (by decide +kernel), List.mem_of_getElem? (i := 803) (by decide +kernel), List.mem_of_getElem? (i := 804) (by decide +kernel)⟩
theorem lw_p14 : lw_okq (⟨"ClimbedFruit$Villages", "sendBest", "(III)I"⟩, 3) := ⟨⟨by decide +kernel, by decide +kernel⟩, List.mem_of_getElem? (i := 289) (by decide +kernel), List.mem_of_getElem? (i := 807) (by decide +kernel), List.mem_of_getElem? (i := 808) (by decide +kernel)⟩
theorem lw_p15 : lw_okq (⟨"ClimbedFruit", "faultOf", "(IIII)I"⟩, 11) := ⟨⟨by decide +kernel, by decide +kernel⟩, List.mem_of_getElem? (i := 23) (by decide +kernel), List.mem_of_getElem? (i := 879) (by decide +kernel), List.mem_of_getElem? (i := 880) (by decide +kernel)⟩
def lw_privs_1 : List (MethodName × Nat) := [(⟨"ClimbedFruit$Ground", "climbsElsewhere", "(II)Z"⟩, 8), (⟨"ClimbedFruit$Tape", "parseTree", "(II)Z"⟩, 6), (⟨"ClimbedFruit$Tape", "peek", "()I"⟩, 6), (⟨"ClimbedFruit$Tape", "parseClimber", "(I)I"⟩, 6), (⟨"ClimbedFruit$Ground", "borneNext", "(II)I"⟩, 8), (⟨"ClimbedFruit$Ground", "drawByTen", "()I"⟩, 8), (⟨"ClimbedFruit$Ground", "oddsOf", "(I)I"⟩, 8), (⟨"ClimbedFruit$Plan", "layFolk", "(LClimbedFruit$Ground;)V"⟩, 11), (⟨"ClimbedFruit$Plan", "layTree", "(ILClimbedFruit$Ground;)V"⟩, 11), (⟨"ClimbedFruit$Orders", "mostFrom", "(II)I"⟩, 7), (⟨"ClimbedFruit$Orders", "freeAllowed", "(II)I"⟩, 7), (⟨"ClimbedFruit$Orders", "gainFrom", "(III)I"⟩, 7), (⟨"ClimbedFruit$Orders", "firstOfMost", "(II)I"⟩, 7), (⟨"ClimbedFruit$Villages", "outcomeFrom", "(IIIZ)I"⟩, 3), (⟨"ClimbedFruit$Villages", "sendBest", "(III)I"⟩, 3), (⟨"ClimbedFruit", "faultOf", "(IIII)I"⟩, 11)]
theorem lw_r1 : ∀ q ∈ lw_privs_1, lw_okq q := List.forall_mem_cons.mpr ⟨lw_p0, List.forall_mem_cons.mpr ⟨lw_p1, List.forall_mem_cons.mpr ⟨lw_p2, List.forall_mem_cons.mpr ⟨lw_p3, List.forall_mem_cons.mpr ⟨lw_p4, List.forall_mem_cons.mpr ⟨lw_p5, List.forall_mem_cons.mpr ⟨lw_p6, List.forall_mem_cons.mpr ⟨lw_p7, List.forall_mem_cons.mpr ⟨lw_p8, List.forall_mem_cons.mpr ⟨lw_p9, List.forall_mem_cons.mpr ⟨lw_p10, List.forall_mem_cons.mpr ⟨lw_p11, List.forall_mem_cons.mpr ⟨lw_p12, List.forall_mem_cons.mpr ⟨lw_p13, List.forall_mem_cons.mpr ⟨lw_p14, List.forall_mem_cons.mpr ⟨lw_p15, fun _ h => absurd h List.not_mem_nil⟩⟩⟩⟩⟩⟩⟩⟩⟩⟩⟩⟩⟩⟩⟩⟩
theorem lw_p16 : lw_okq (⟨"ClimbedFruit$Wants", "hireFrom", "(IIII)V"⟩, 6) := ⟨⟨by decide +kernel, by decide +kernel⟩, List.mem_of_getElem? (i := 261) (by decide +kernel), List.mem_of_getElem? (i := 901) (by decide +kernel), List.mem_of_getElem? (i := 902) (by decide +kernel)⟩
theorem lw_p17 : lw_okq (⟨"ClimbedFruit$Orders", "spreadWays", "(III)V"⟩, 7) := ⟨⟨by decide +kernel, by decide +kernel⟩, List.mem_of_getElem? (i := 230) (by decide +kernel), List.mem_of_getElem? (i := 923) (by decide +kernel), List.mem_of_getElem? (i := 924) (by decide +kernel)⟩
theorem lw_p18 : lw_okq (⟨"ClimbedFruit$Wants", "bakeFrom", "(II)V"⟩, 6) := ⟨⟨by decide +kernel, by decide +kernel⟩, List.mem_of_getElem? (i := 261) (by decide +kernel), List.mem_of_getElem? (i := 940) (by decide +kernel), List.mem_of_getElem? (i := 941) (by decide +kernel)⟩
theorem lw_p19 : lw_okq (⟨"ClimbedFruit", "layRota", "(IIII)I"⟩, 11) := ⟨⟨by decide +kernel, by decide +kernel⟩, List.mem_of_getElem? (i := 23) (by decide +kernel), List.mem_of_getElem? (i := 952) (by decide +kernel), List.mem_of_getElem? (i := 953) (by decide +kernel)⟩
theorem lw_p20 : lw_okq (⟨"ClimbedFruit$Rota", "valueBehind", "(II)I"⟩, 5) := ⟨⟨by decide +kernel, by decide +kernel⟩, List.mem_of_getElem? (i := 305) (by decide +kernel), List.mem_of_getElem? (i := 967) (by decide +kernel), List.mem_of_getElem? (i := 968) (by decide +kernel)⟩
theorem lw_p21 : lw_okq (⟨"ClimbedFruit$Rota", "lastFellBehind", "(II)Z"⟩, 5) := ⟨⟨by decide +kernel, by decide +kernel⟩, List.mem_of_getElem? (i := 305) (by decide +kernel), List.mem_of_getElem? (i := 971) (by decide +kernel), List.mem_of_getElem? (i := 972) (by decide +kernel)⟩
theorem lw_p22 : lw_okq (⟨"ClimbedFruit$Rota", "beforeFellBehind", "(II)Z"⟩, 5) := ⟨⟨by decide +kernel, by decide +kernel⟩, List.mem_of_getElem? (i := 305) (by decide +kernel), List.mem_of_getElem? (i := 976) (by decide +kernel), List.mem_of_getElem? (i := 977) (by decide +kernel)⟩
theorem lw_p23 : lw_okq (⟨"ClimbedFruit$Rota", "lastBehind", "(II)I"⟩, 5) := ⟨⟨by decide +kernel, by decide +kernel⟩, List.mem_of_getElem? (i := 305) (by decide +kernel), List.mem_of_getElem? (i := 981) (by decide +kernel), List.mem_of_getElem? (i := 982) (by decide +kernel)⟩
theorem lw_p24 : lw_okq (⟨"ClimbedFruit$Rota", "beforeBehind", "(II)I"⟩, 5) := ⟨⟨by decide +kernel, by decide +kernel⟩, List.mem_of_getElem? (i := 305) (by decide +kernel), List.mem_of_getElem? (i := 986) (by decide +kernel), List.mem_of_getElem? (i := 987) (by decide +kernel)⟩
theorem lw_p25 : lw_okq (⟨"ClimbedFruit$Rota", "areAlike", "(II)Z"⟩, 5) := ⟨⟨by decide +kernel, by decide +kernel⟩, List.mem_of_getElem? (i := 305) (by decide +kernel), List.mem_of_getElem? (i := 998) (by decide +kernel), List.mem_of_getElem? (i := 999) (by decide +kernel)⟩
theorem lw_p26 : lw_okq (⟨"ClimbedFruitModel", "add", "(IIIII)I"⟩, 18) := ⟨⟨by decide +kernel, by decide +kernel⟩, List.mem_of_getElem? (i := 1034) (by decide +kernel), List.mem_of_getElem? (i := 1104) (by decide +kernel), List.mem_of_getElem? (i := 1105) (by decide +kernel)⟩
theorem lw_p27 : lw_okq (⟨"ClimbedFruitModel", "isTree", "(I)Z"⟩, 18) := ⟨⟨by decide +kernel, by decide +kernel⟩, List.mem_of_getElem? (i := 1034) (by decide +kernel), List.mem_of_getElem? (i := 1112) (by decide +kernel), List.mem_of_getElem? (i := 1113) (by decide +kernel)⟩
theorem lw_p28 : lw_okq (⟨"ClimbedFruitModel", "isClimber", "(I)Z"⟩, 18) := ⟨⟨by decide +kernel, by decide +kernel⟩, List.mem_of_getElem? (i := 1034) (by decide +kernel), List.mem_of_getElem? (i := 1127) (by decide +kernel), List.mem_of_getElem? (i := 1128) (by decide +kernel)⟩
theorem lw_p29 : lw_okq (⟨"ClimbedFruitModel", "brings", "(I)I"⟩, 18) := ⟨⟨by decide +kernel, by decide +kernel⟩, List.mem_of_getElem? (i := 1034) (by decide +kernel), List.mem_of_getElem? (i := 1136) (by decide +kernel), List.mem_of_getElem? (i := 1137) (by decide +kernel)⟩
theorem lw_p30 : lw_okq (⟨"ClimbedFruitModel", "isSet", "(I)Z"⟩, 18) := ⟨⟨by decide +kernel, by decide +kernel⟩, List.mem_of_getElem? (i := 1034) (by decide +kernel), List.mem_of_getElem? (i := 1155) (by decide +kernel), List.mem_of_getElem? (i := 1156) (by decide +kernel)⟩
theorem lw_p31 : lw_okq (⟨"ClimbedFruitModel", "isCommons", "()Z"⟩, 18) := ⟨⟨by decide +kernel, by decide +kernel⟩, List.mem_of_getElem? (i := 1034) (by decide +kernel), List.mem_of_getElem? (i := 1176) (by decide +kernel), List.mem_of_getElem? (i := 1177) (by decide +kernel)⟩
def lw_privs_2 : List (MethodName × Nat) := [(⟨"ClimbedFruit$Wants", "hireFrom", "(IIII)V"⟩, 6), (⟨"ClimbedFruit$Orders", "spreadWays", "(III)V"⟩, 7), (⟨"ClimbedFruit$Wants", "bakeFrom", "(II)V"⟩, 6), (⟨"ClimbedFruit", "layRota", "(IIII)I"⟩, 11), (⟨"ClimbedFruit$Rota", "valueBehind", "(II)I"⟩, 5), (⟨"ClimbedFruit$Rota", "lastFellBehind", "(II)Z"⟩, 5), (⟨"ClimbedFruit$Rota", "beforeFellBehind", "(II)Z"⟩, 5), (⟨"ClimbedFruit$Rota", "lastBehind", "(II)I"⟩, 5), (⟨"ClimbedFruit$Rota", "beforeBehind", "(II)I"⟩, 5), (⟨"ClimbedFruit$Rota", "areAlike", "(II)Z"⟩, 5), (⟨"ClimbedFruitModel", "add", "(IIIII)I"⟩, 18), (⟨"ClimbedFruitModel", "isTree", "(I)Z"⟩, 18), (⟨"ClimbedFruitModel", "isClimber", "(I)Z"⟩, 18), (⟨"ClimbedFruitModel", "brings", "(I)I"⟩, 18), (⟨"ClimbedFruitModel", "isSet", "(I)Z"⟩, 18), (⟨"ClimbedFruitModel", "isCommons", "()Z"⟩, 18)]
theorem lw_r2 : ∀ q ∈ lw_privs_2, lw_okq q := List.forall_mem_cons.mpr ⟨lw_p16, List.forall_mem_cons.mpr ⟨lw_p17, List.forall_mem_cons.mpr ⟨lw_p18, List.forall_mem_cons.mpr ⟨lw_p19, List.forall_mem_cons.mpr ⟨lw_p20, List.forall_mem_cons.mpr ⟨lw_p21, List.forall_mem_cons.mpr ⟨lw_p22, List.forall_mem_cons.mpr ⟨lw_p23, List.forall_mem_cons.mpr ⟨lw_p24, List.forall_mem_cons.mpr ⟨lw_p25, List.forall_mem_cons.mpr ⟨lw_p26, List.forall_mem_cons.mpr ⟨lw_p27, List.forall_mem_cons.mpr ⟨lw_p28, List.forall_mem_cons.mpr ⟨lw_p29, List.forall_mem_cons.mpr ⟨lw_p30, List.forall_mem_cons.mpr ⟨lw_p31, fun _ h => absurd h List.not_mem_nil⟩⟩⟩⟩⟩⟩⟩⟩⟩⟩⟩⟩⟩⟩⟩⟩
theorem lw_p32 : lw_okq (⟨"ClimbedFruitModel", "takesTree", "()Z"⟩, 18) := ⟨⟨by decide +kernel, by decide +kernel⟩, List.mem_of_getElem? (i := 1034) (by decide +kernel), List.mem_of_getElem? (i := 1180) (by decide +kernel), List.mem_of_getElem? (i := 1181) (by decide +kernel)⟩
theorem lw_p33 : lw_okq (⟨"ClimbedFruitModel", "ahead", "()I"⟩, 18) := ⟨⟨by decide +kernel, by decide +kernel⟩, List.mem_of_getElem? (i := 1034) (by decide +kernel), List.mem_of_getElem? (i := 1184) (by decide +kernel), List.mem_of_getElem? (i := 1185) (by decide +kernel)⟩
theorem lw_p34 : lw_okq (⟨"ClimbedFruitModel", "whoIs", "(I)I"⟩, 18) := ⟨⟨by decide +kernel, by decide +kernel⟩, List.mem_of_getElem? (i := 1034) (by decide +kernel), List.mem_of_getElem? (i := 1188) (by decide +kernel), List.mem_of_getElem? (i := 1189) (by decide +kernel)⟩
theorem lw_p35 : lw_okq (⟨"ClimbedFruitModel", "nowSet", "()I"⟩, 18) := ⟨⟨by decide +kernel, by decide +kernel⟩, List.mem_of_getElem? (i := 1034) (by decide +kernel), List.mem_of_getElem? (i := 1198) (by decide +kernel), List.mem_of_getElem? (i := 1199) (by decide +kernel)⟩
theorem lw_p36 : lw_okq (⟨"ClimbedFruitModel", "bearsNow", "(II)I"⟩, 18) := ⟨⟨by decide +kernel, by decide +kernel⟩, List.mem_of_getElem? (i := 1034) (by decide +kernel), List.mem_of_getElem? (i := 1206) (by decide +kernel), List.mem_of_getElem? (i := 1207) (by decide +kernel)⟩
theorem lw_p37 : lw_okq (⟨"ClimbedFruitModel", "borne", "(IIIIII)I"⟩, 18) := ⟨⟨by decide +kernel, by decide +kernel⟩, List.mem_of_getElem? (i := 1034) (by decide +kernel), List.mem_of_getElem? (i := 1210) (by decide +kernel), List.mem_of_getElem? (i := 1211) (by decide +kernel)⟩
theorem lw_p38 : lw_okq (⟨"ClimbedFruitModel", "basketOf", "(II)I"⟩, 18) := ⟨⟨by decide +kernel, by decide +kernel⟩, List.mem_of_getElem? (i := 1034) (by decide +kernel), List.mem_of_getElem? (i := 1221) (by decide +kernel), List.mem_of_getElem? (i := 1222) (by decide +kernel)⟩
theorem lw_p39 : lw_okq (⟨"ClimbedFruitModel", "bearsNext", "(IIII)I"⟩, 18) := ⟨⟨by decide +kernel, by decide +kernel⟩, List.mem_of_getElem? (i := 1034) (by decide +kernel), List.mem_of_getElem? (i := 1225) (by decide +kernel), List.mem_of_getElem? (i := 1226) (by decide +kernel)⟩
theorem lw_p40 : lw_okq (⟨"ClimbedFruitModel", "valueOf", "(I)I"⟩, 18) := ⟨⟨by decide +kernel, by decide +kernel⟩, List.mem_of_getElem? (i := 1034) (by decide +kernel), List.mem_of_getElem? (i := 1233) (by decide +kernel), List.mem_of_getElem? (i := 1234) (by decide +kernel)⟩
theorem lw_p41 : lw_okq (⟨"ClimbedFruitModel", "draw", "(I)I"⟩, 18) := ⟨⟨by decide +kernel, by decide +kernel⟩, List.mem_of_getElem? (i := 1034) (by decide +kernel), List.mem_of_getElem? (i := 1241) (by decide +kernel), List.mem_of_getElem? (i := 1242) (by decide +kernel)⟩
theorem lw_p42 : lw_okq (⟨"ClimbedFruitModel", "turns", "(II)V"⟩, 18) := ⟨⟨by decide +kernel, by decide +kernel⟩, List.mem_of_getElem? (i := 1034) (by decide +kernel), List.mem_of_getElem? (i := 1249) (by decide +kernel), List.mem_of_getElem? (i := 1250) (by decide +kernel)⟩
theorem lw_p43 : lw_okq (⟨"ClimbedFruitModel", "everybody", "()I"⟩, 18) := ⟨⟨by decide +kernel, by decide +kernel⟩, List.mem_of_getElem? (i := 1034) (by decide +kernel), List.mem_of_getElem? (i := 1262) (by decide +kernel), List.mem_of_getElem? (i := 1263) (by decide +kernel)⟩
theorem lw_p44 : lw_okq (⟨"ClimbedFruitModel", "bestOf", "(II)I"⟩, 18) := ⟨⟨by decide +kernel, by decide +kernel⟩, List.mem_of_getElem? (i := 1034) (by decide +kernel), List.mem_of_getElem? (i := 1266) (by decide +kernel), List.mem_of_getElem? (i := 1267) (by decide +kernel)⟩
theorem lw_p45 : lw_okq (⟨"ClimbedFruitModel", "layWorths", "()V"⟩, 18) := ⟨⟨by decide +kernel, by decide +kernel⟩, List.mem_of_getElem? (i := 1034) (by decide +kernel), List.mem_of_getElem? (i := 1270) (by decide +kernel), List.mem_of_getElem? (i := 1271) (by decide +kernel)⟩
theorem lw_p46 : lw_okq (⟨"ClimbedFruitModel", "worthNext", "(III)I"⟩, 18) := ⟨⟨by decide +kernel, by decide +kernel⟩, List.mem_of_getElem? (i := 1034) (by decide +kernel), List.mem_of_getElem? (i := 1274) (by decide +kernel), List.mem_of_getElem? (i := 1275) (by decide +kernel)⟩
theorem lw_p47 : lw_okq (⟨"ClimbedFruitModel", "orders", "()I"⟩, 18) := ⟨⟨by decide +kernel, by decide +kernel⟩, List.mem_of_getElem? (i := 1034) (by decide +kernel), List.mem_of_getElem? (i := 1279) (by decide +kernel), List.mem_of_getElem? (i := 1280) (by decide +kernel)⟩
def lw_privs_3 : List (MethodName × Nat) := [(⟨"ClimbedFruitModel", "takesTree", "()Z"⟩, 18), (⟨"ClimbedFruitModel", "ahead", "()I"⟩, 18), (⟨"ClimbedFruitModel", "whoIs", "(I)I"⟩, 18), (⟨"ClimbedFruitModel", "nowSet", "()I"⟩, 18), (⟨"ClimbedFruitModel", "bearsNow", "(II)I"⟩, 18), (⟨"ClimbedFruitModel", "borne", "(IIIIII)I"⟩, 18), (⟨"ClimbedFruitModel", "basketOf", "(II)I"⟩, 18), (⟨"ClimbedFruitModel", "bearsNext", "(IIII)I"⟩, 18), (⟨"ClimbedFruitModel", "valueOf", "(I)I"⟩, 18), (⟨"ClimbedFruitModel", "draw", "(I)I"⟩, 18), (⟨"ClimbedFruitModel", "turns", "(II)V"⟩, 18), (⟨"ClimbedFruitModel", "everybody", "()I"⟩, 18), (⟨"ClimbedFruitModel", "bestOf", "(II)I"⟩, 18), (⟨"ClimbedFruitModel", "layWorths", "()V"⟩, 18), (⟨"ClimbedFruitModel", "worthNext", "(III)I"⟩, 18), (⟨"ClimbedFruitModel", "orders", "()I"⟩, 18)]
theorem lw_r3 : ∀ q ∈ lw_privs_3, lw_okq q := List.forall_mem_cons.mpr ⟨lw_p32, List.forall_mem_cons.mpr ⟨lw_p33, List.forall_mem_cons.mpr ⟨lw_p34, List.forall_mem_cons.mpr ⟨lw_p35, List.forall_mem_cons.mpr ⟨lw_p36, List.forall_mem_cons.mpr ⟨lw_p37, List.forall_mem_cons.mpr ⟨lw_p38, List.forall_mem_cons.mpr ⟨lw_p39, List.forall_mem_cons.mpr ⟨lw_p40, List.forall_mem_cons.mpr ⟨lw_p41, List.forall_mem_cons.mpr ⟨lw_p42, List.forall_mem_cons.mpr ⟨lw_p43, List.forall_mem_cons.mpr ⟨lw_p44, List.forall_mem_cons.mpr ⟨lw_p45, List.forall_mem_cons.mpr ⟨lw_p46, List.forall_mem_cons.mpr ⟨lw_p47, fun _ h => absurd h List.not_mem_nil⟩⟩⟩⟩⟩⟩⟩⟩⟩⟩⟩⟩⟩⟩⟩⟩
theorem lw_p48 : lw_okq (⟨"ClimbedFruitModel", "layOrder", "(III)I"⟩, 18) := ⟨⟨by decide +kernel, by decide +kernel⟩, List.mem_of_getElem? (i := 1034) (by decide +kernel), List.mem_of_getElem? (i := 1283) (by decide +kernel), List.mem_of_getElem? (i := 1284) (by decide +kernel)⟩
theorem lw_p49 : lw_okq (⟨"ClimbedFruitModel", "wagesOf", "(I)I"⟩, 18) := ⟨⟨by decide +kernel, by decide +kernel⟩, List.mem_of_getElem? (i := 1034) (by decide +kernel), List.mem_of_getElem? (i := 1287) (by decide +kernel), List.mem_of_getElem? (i := 1288) (by decide +kernel)⟩
theorem lw_p50 : lw_okq (⟨"ClimbedFruitModel", "gameOf", "(I)I"⟩, 18) := ⟨⟨by decide +kernel, by decide +kernel⟩, List.mem_of_getElem? (i := 1034) (by decide +kernel), List.mem_of_getElem? (i := 1303) (by decide +kernel), List.mem_of_getElem? (i := 1304) (by decide +kernel)⟩
theorem lw_p51 : lw_okq (⟨"ClimbedFruitModel", "knows", "(II)I"⟩, 18) := ⟨⟨by decide +kernel, by decide +kernel⟩, List.mem_of_getElem? (i := 1034) (by decide +kernel), List.mem_of_getElem? (i := 1307) (by decide +kernel), List.mem_of_getElem? (i := 1308) (by decide +kernel)⟩
theorem lw_p52 : lw_okq (⟨"ClimbedFruitModel", "canAny", "(II)Z"⟩, 18) := ⟨⟨by decide +kernel, by decide +kernel⟩, List.mem_of_getElem? (i := 1034) (by decide +kernel), List.mem_of_getElem? (i := 1312) (by decide +kernel), List.mem_of_getElem? (i := 1313) (by decide +kernel)⟩
theorem lw_p53 : lw_okq (⟨"ClimbedFruitModel", "canSend", "(III)Z"⟩, 18) := ⟨⟨by decide +kernel, by decide +kernel⟩, List.mem_of_getElem? (i := 1034) (by decide +kernel), List.mem_of_getElem? (i := 1316) (by decide +kernel), List.mem_of_getElem? (i := 1317) (by decide +kernel)⟩
theorem lw_p54 : lw_okq (⟨"ClimbedFruitModel", "sentFor", "(II)I"⟩, 18) := ⟨⟨by decide +kernel, by decide +kernel⟩, List.mem_of_getElem? (i := 1034) (by decide +kernel), List.mem_of_getElem? (i := 1329) (by decide +kernel), List.mem_of_getElem? (i := 1330) (by decide +kernel)⟩
theorem lw_p55 : lw_okq (⟨"ClimbedFruitModel", "expected", "()I"⟩, 18) := ⟨⟨by decide +kernel, by decide +kernel⟩, List.mem_of_getElem? (i := 1034) (by decide +kernel), List.mem_of_getElem? (i := 1346) (by decide +kernel), List.mem_of_getElem? (i := 1347) (by decide +kernel)⟩
theorem lw_p56 : lw_okq (⟨"ClimbedFruitModel", "bars", "(IIII)I"⟩, 18) := ⟨⟨by decide +kernel, by decide +kernel⟩, List.mem_of_getElem? (i := 1034) (by decide +kernel), List.mem_of_getElem? (i := 1375) (by decide +kernel), List.mem_of_getElem? (i := 1376) (by decide +kernel)⟩
theorem lw_p57 : lw_okq (⟨"ClimbedFruitModel", "nextOf", "(I)I"⟩, 18) := ⟨⟨by decide +kernel, by decide +kernel⟩, List.mem_of_getElem? (i := 1034) (by decide +kernel), List.mem_of_getElem? (i := 1379) (by decide +kernel), List.mem_of_getElem? (i := 1380) (by decide +kernel)⟩
theorem lw_p58 : lw_okq (⟨"ClimbedFruitModel", "wanted", "(II)J"⟩, 18) := ⟨⟨by decide +kernel, by decide +kernel⟩, List.mem_of_getElem? (i := 1034) (by decide +kernel), List.mem_of_getElem? (i := 1383) (by decide +kernel), List.mem_of_getElem? (i := 1384) (by decide +kernel)⟩
theorem lw_p59 : lw_okq (⟨"ClimbedFruitModel", "itemAt", "(II)J"⟩, 18) := ⟨⟨by decide +kernel, by decide +kernel⟩, List.mem_of_getElem? (i := 1034) (by decide +kernel), List.mem_of_getElem? (i := 1387) (by decide +kernel), List.mem_of_getElem? (i := 1388) (by decide +kernel)⟩
theorem lw_p60 : lw_okq (⟨"ClimbedFruitModel", "rotaBars", "(IIII)I"⟩, 18) := ⟨⟨by decide +kernel, by decide +kernel⟩, List.mem_of_getElem? (i := 1034) (by decide +kernel), List.mem_of_getElem? (i := 1405) (by decide +kernel), List.mem_of_getElem? (i := 1406) (by decide +kernel)⟩
theorem lw_p61 : lw_okq (⟨"ClimbedFruitModel", "layState", "(I)V"⟩, 18) := ⟨⟨by decide +kernel, by decide +kernel⟩, List.mem_of_getElem? (i := 1034) (by decide +kernel), List.mem_of_getElem? (i := 1411) (by decide +kernel), List.mem_of_getElem? (i := 1412) (by decide +kernel)⟩
theorem lw_p62 : lw_okq (⟨"ClimbedFruitModel", "rotaYear", "(III)V"⟩, 18) := ⟨⟨by decide +kernel, by decide +kernel⟩, List.mem_of_getElem? (i := 1034) (by decide +kernel), List.mem_of_getElem? (i := 1415) (by decide +kernel), List.mem_of_getElem? (i := 1416) (by decide +kernel)⟩
theorem lw_p63 : lw_okq (⟨"ClimbedFruitModel", "valueBehind", "(I)I"⟩, 18) := ⟨⟨by decide +kernel, by decide +kernel⟩, List.mem_of_getElem? (i := 1034) (by decide +kernel), List.mem_of_getElem? (i := 1419) (by decide +kernel), List.mem_of_getElem? (i := 1420) (by decide +kernel)⟩
def lw_privs_4 : List (MethodName × Nat) := [(⟨"ClimbedFruitModel", "layOrder", "(III)I"⟩, 18), (⟨"ClimbedFruitModel", "wagesOf", "(I)I"⟩, 18), (⟨"ClimbedFruitModel", "gameOf", "(I)I"⟩, 18), (⟨"ClimbedFruitModel", "knows", "(II)I"⟩, 18), (⟨"ClimbedFruitModel", "canAny", "(II)Z"⟩, 18), (⟨"ClimbedFruitModel", "canSend", "(III)Z"⟩, 18), (⟨"ClimbedFruitModel", "sentFor", "(II)I"⟩, 18), (⟨"ClimbedFruitModel", "expected", "()I"⟩, 18), (⟨"ClimbedFruitModel", "bars", "(IIII)I"⟩, 18), (⟨"ClimbedFruitModel", "nextOf", "(I)I"⟩, 18), (⟨"ClimbedFruitModel", "wanted", "(II)J"⟩, 18), (⟨"ClimbedFruitModel", "itemAt", "(II)J"⟩, 18), (⟨"ClimbedFruitModel", "rotaBars", "(IIII)I"⟩, 18), (⟨"ClimbedFruitModel", "layState", "(I)V"⟩, 18), (⟨"ClimbedFruitModel", "rotaYear", "(III)V"⟩, 18), (⟨"ClimbedFruitModel", "valueBehind", "(I)I"⟩, 18)]
theorem lw_r4 : ∀ q ∈ lw_privs_4, lw_okq q := List.forall_mem_cons.mpr ⟨lw_p48, List.forall_mem_cons.mpr ⟨lw_p49, List.forall_mem_cons.mpr ⟨lw_p50, List.forall_mem_cons.mpr ⟨lw_p51, List.forall_mem_cons.mpr ⟨lw_p52, List.forall_mem_cons.mpr ⟨lw_p53, List.forall_mem_cons.mpr ⟨lw_p54, List.forall_mem_cons.mpr ⟨lw_p55, List.forall_mem_cons.mpr ⟨lw_p56, List.forall_mem_cons.mpr ⟨lw_p57, List.forall_mem_cons.mpr ⟨lw_p58, List.forall_mem_cons.mpr ⟨lw_p59, List.forall_mem_cons.mpr ⟨lw_p60, List.forall_mem_cons.mpr ⟨lw_p61, List.forall_mem_cons.mpr ⟨lw_p62, List.forall_mem_cons.mpr ⟨lw_p63, fun _ h => absurd h List.not_mem_nil⟩⟩⟩⟩⟩⟩⟩⟩⟩⟩⟩⟩⟩⟩⟩⟩
theorem lw_p64 : lw_okq (⟨"ClimbedFruitModel", "areAlike", "(II)Z"⟩, 18) := ⟨⟨by decide +kernel, by decide +kernel⟩, List.mem_of_getElem? (i := 1034) (by decide +kernel), List.mem_of_getElem? (i := 1427) (by decide +kernel), List.mem_of_getElem? (i := 1428) (by decide +kernel)⟩
def lw_privs_5 : List (MethodName × Nat) := [(⟨"ClimbedFruitModel", "areAlike", "(II)Z"⟩, 18)]
theorem lw_r5 : ∀ q ∈ lw_privs_5, lw_okq q := List.forall_mem_cons.mpr ⟨lw_p64, fun _ h => absurd h List.not_mem_nil⟩
def lw_privs : List (MethodName × Nat) := lw_privs_1 ++ (lw_privs_2 ++ (lw_privs_3 ++ (lw_privs_4 ++ (lw_privs_5))))
def lw_tbl : List Cond := k2_sels lw_privs ++ tables_1
theorem lw_privs_ok : ∀ q ∈ lw_privs, lw_okq q := by
  show ∀ q ∈ lw_privs_1 ++ (lw_privs_2 ++ (lw_privs_3 ++ (lw_privs_4 ++ (lw_privs_5)))), lw_okq q
  exact List.forall_mem_append.mpr ⟨lw_r1, List.forall_mem_append.mpr ⟨lw_r2, List.forall_mem_append.mpr ⟨lw_r3, List.forall_mem_append.mpr ⟨lw_r4, lw_r5⟩⟩⟩⟩
end
section
def RX0 : String := "ClimbedFruit$Climber"
def TX0 : u_T := fun k => match k with
  | 0 => ("ClimbedFruit$Climber", "kind", "I", false)
  | 1 => ("ClimbedFruit$Climber", "fruit", "I", false)
  | 2 => ("ClimbedFruit$Climber", "wage", "I", false)
  | _ => ("ClimbedFruit$Climber", "odds", "I", false)
def tyX0 : Nat → FieldType := fun k => match k with
  | 0 => .int
  | 1 => .int
  | 2 => .int
  | _ => .int
abbrev wsX00 : List Cond := u_ws RX0 TX0 4
theorem nmX0 : ∀ a, a < 4 → ∀ b, b < 4 → a ≠ b → (TX0 a).2.1 ≠ (TX0 b).2.1 := by decide +kernel
theorem tyX0_ok : ∀ k, k < 4 → parseFieldDescriptor (TX0 k).2.2.1 = some (tyX0 k) := by decide +kernel
abbrev cX0_init : ByteArray := prog_2_method_1_code
def yX0_init : MethodName := ⟨RX0, "<init>", "()V"⟩
abbrev cX0_become : ByteArray := prog_2_method_2_code
def yX0_become : MethodName := ⟨RX0, "become", "(IIII)V"⟩
abbrev cX0_trait : ByteArray := prog_2_method_3_code
def yX0_trait : MethodName := ⟨RX0, "trait", "(I)I"⟩
abbrev cX0_change : ByteArray := prog_2_method_4_code
def yX0_change : MethodName := ⟨RX0, "change", "(II)V"⟩
abbrev cX0_brings : ByteArray := prog_2_method_5_code
def yX0_brings : MethodName := ⟨RX0, "brings", "()I"⟩
abbrev cX0_isMonk : ByteArray := prog_2_method_6_code
def yX0_isMonk : MethodName := ⟨RX0, "isMonk", "()Z"⟩
abbrev cX0_fallOdds : ByteArray := prog_2_method_7_code
def yX0_fallOdds : MethodName := ⟨RX0, "fallOdds", "()I"⟩
def RX1 : String := "ClimbedFruit$Ground"
def TX1 : u_T := fun k => match k with
  | 0 => ("ClimbedFruit$Ground", "trees", "[LClimbedFruit$Tree;", true)
  | 1 => ("ClimbedFruit$Ground", "climbers", "[LClimbedFruit$Climber;", true)
  | 2 => ("ClimbedFruit$Ground", "prices", "[I", true)
  | 3 => ("ClimbedFruit$Ground", "treeCount", "I", false)
  | 4 => ("ClimbedFruit$Ground", "climberCount", "I", false)
  | 5 => ("ClimbedFruit$Ground", "draw", "I", false)
  | 6 => ("ClimbedFruit$Ground", "years", "I", false)
  | _ => ("ClimbedFruit$Ground", "fell", "I", false)
def tyX1 : Nat → FieldType := fun k => match k with
  | 0 => .array (.object "ClimbedFruit$Tree")
  | 1 => .array (.object "ClimbedFruit$Climber")
  | 2 => .array .int
  | 3 => .int
  | 4 => .int
  | 5 => .int
  | 6 => .int
  | _ => .int
abbrev wsX10 : List Cond := u_ws RX1 TX1 8
theorem nmX1 : ∀ a, a < 8 → ∀ b, b < 8 → a ≠ b → (TX1 a).2.1 ≠ (TX1 b).2.1 := by decide +kernel
theorem tyX1_ok : ∀ k, k < 8 → parseFieldDescriptor (TX1 k).2.2.1 = some (tyX1 k) := by decide +kernel
abbrev cX1_init : ByteArray := prog_3_method_1_code
def yX1_init : MethodName := ⟨RX1, "<init>", "()V"⟩
abbrev cX1_become : ByteArray := prog_3_method_2_code
def yX1_become : MethodName := ⟨RX1, "become", "(LClimbedFruit$Ground;)V"⟩
abbrev cX1_plant : ByteArray := prog_3_method_3_code
def yX1_plant : MethodName := ⟨RX1, "plant", "(I)I"⟩
abbrev cX1_plantCutting : ByteArray := prog_3_method_4_code
def yX1_plantCutting : MethodName := ⟨RX1, "plantCutting", "(I)I"⟩
abbrev cX1_welcome : ByteArray := prog_3_method_5_code
def yX1_welcome : MethodName := ⟨RX1, "welcome", "(IIII)I"⟩
abbrev cX1_hasTree : ByteArray := prog_3_method_6_code
def yX1_hasTree : MethodName := ⟨RX1, "hasTree", "(I)Z"⟩
abbrev cX1_hasClimber : ByteArray := prog_3_method_7_code
def yX1_hasClimber : MethodName := ⟨RX1, "hasClimber", "(I)Z"⟩
abbrev cX1_isFolk : ByteArray := prog_3_method_8_code
def yX1_isFolk : MethodName := ⟨RX1, "isFolk", "(I)Z"⟩
abbrev cX1_isSet : ByteArray := prog_3_method_9_code
def yX1_isSet : MethodName := ⟨RX1, "isSet", "(I)Z"⟩
abbrev cX1_brought : ByteArray := prog_3_method_10_code
def yX1_brought : MethodName := ⟨RX1, "brought", "(I)I"⟩
abbrev cX1_oddsOf : ByteArray := prog_3_method_11_code
def yX1_oddsOf : MethodName := ⟨RX1, "oddsOf", "(I)I"⟩
abbrev cX1_mayClimbNow : ByteArray := prog_3_method_12_code
def yX1_mayClimbNow : MethodName := ⟨RX1, "mayClimbNow", "(II)Z"⟩
abbrev cX1_climbsElsewhere : ByteArray := prog_3_method_13_code
def yX1_climbsElsewhere : MethodName := ⟨RX1, "climbsElsewhere", "(II)Z"⟩
abbrev cX1_climbersNow : ByteArray := prog_3_method_14_code
def yX1_climbersNow : MethodName := ⟨RX1, "climbersNow", "()I"⟩
abbrev cX1_borne : ByteArray := prog_3_method_15_code
def yX1_borne : MethodName := ⟨RX1, "borne", "(II)I"⟩
abbrev cX1_borneNext : ByteArray := prog_3_method_16_code
def yX1_borneNext : MethodName := ⟨RX1, "borneNext", "(II)I"⟩
abbrev cX1_inBasket : ByteArray := prog_3_method_17_code
def yX1_inBasket : MethodName := ⟨RX1, "inBasket", "(I)I"⟩
abbrev cX1_inNext : ByteArray := prog_3_method_18_code
def yX1_inNext : MethodName := ⟨RX1, "inNext", "(I)I"⟩
abbrev cX1_basketValue : ByteArray := prog_3_method_19_code
def yX1_basketValue : MethodName := ⟨RX1, "basketValue", "()I"⟩
abbrev cX1_nextValue : ByteArray := prog_3_method_20_code
def yX1_nextValue : MethodName := ⟨RX1, "nextValue", "()I"⟩
abbrev cX1_priceOfBrought : ByteArray := prog_3_method_21_code
def yX1_priceOfBrought : MethodName := ⟨RX1, "priceOfBrought", "(I)I"⟩
abbrev cX1_expectedTenths : ByteArray := prog_3_method_22_code
def yX1_expectedTenths : MethodName := ⟨RX1, "expectedTenths", "()I"⟩
abbrev cX1_passYear : ByteArray := prog_3_method_23_code
def yX1_passYear : MethodName := ⟨RX1, "passYear", "()I"⟩
abbrev cX1_drawByTen : ByteArray := prog_3_method_24_code
def yX1_drawByTen : MethodName := ⟨RX1, "drawByTen", "()I"⟩
def RX2 : String := "ClimbedFruit$Orders"
def TX2 : u_T := fun k => match k with
  | 0 => ("ClimbedFruit$Orders", "plan", "LClimbedFruit$Plan;", true)
  | 1 => ("ClimbedFruit$Orders", "table", "[I", true)
  | 2 => ("ClimbedFruit$Orders", "row", "[I", true)
  | 3 => ("ClimbedFruit$Orders", "ways", "I", false)
  | 4 => ("ClimbedFruit$Orders", "sure", "I", false)
  | 5 => ("ClimbedFruit$Orders", "allowed", "I", false)
  | _ => ("ClimbedFruit$Orders", "shut", "I", false)
def tyX2 : Nat → FieldType := fun k => match k with
  | 0 => .object "ClimbedFruit$Plan"
  | 1 => .array .int
  | 2 => .array .int
  | 3 => .int
  | 4 => .int
  | 5 => .int
  | _ => .int
abbrev wsX20 : List Cond := u_ws RX2 TX2 7
theorem nmX2 : ∀ a, a < 7 → ∀ b, b < 7 → a ≠ b → (TX2 a).2.1 ≠ (TX2 b).2.1 := by decide +kernel
theorem tyX2_ok : ∀ k, k < 7 → parseFieldDescriptor (TX2 k).2.2.1 = some (tyX2 k) := by decide +kernel
abbrev cX2_init : ByteArray := prog_4_method_1_code
def yX2_init : MethodName := ⟨RX2, "<init>", "(LClimbedFruit$Plan;)V"⟩
abbrev cX2_mostGain : ByteArray := prog_4_method_2_code
def yX2_mostGain : MethodName := ⟨RX2, "mostGain", "(II)I"⟩
abbrev cX2_mostFrom : ByteArray := prog_4_method_3_code
def yX2_mostFrom : MethodName := ⟨RX2, "mostFrom", "(II)I"⟩
abbrev cX2_freeAllowed : ByteArray := prog_4_method_4_code
def yX2_freeAllowed : MethodName := ⟨RX2, "freeAllowed", "(II)I"⟩
abbrev cX2_gainFrom : ByteArray := prog_4_method_5_code
def yX2_gainFrom : MethodName := ⟨RX2, "gainFrom", "(III)I"⟩
abbrev cX2_layRow : ByteArray := prog_4_method_6_code
def yX2_layRow : MethodName := ⟨RX2, "layRow", "()V"⟩
abbrev cX2_firstOfMost : ByteArray := prog_4_method_7_code
def yX2_firstOfMost : MethodName := ⟨RX2, "firstOfMost", "(II)I"⟩
abbrev cX2_fewestShut : ByteArray := prog_4_method_8_code
def yX2_fewestShut : MethodName := ⟨RX2, "fewestShut", "(II)I"⟩
abbrev cX2_layNights : ByteArray := prog_4_method_9_code
def yX2_layNights : MethodName := ⟨RX2, "layNights", "([I)V"⟩
abbrev cX2_spreadWays : ByteArray := prog_4_method_10_code
def yX2_spreadWays : MethodName := ⟨RX2, "spreadWays", "(III)V"⟩
def RX3 : String := "ClimbedFruit$Plan"
def TX3 : u_T := fun k => match k with
  | 0 => ("ClimbedFruit$Plan", "open", "[I", true)
  | 1 => ("ClimbedFruit$Plan", "shares", "[I", true)
  | 2 => ("ClimbedFruit$Plan", "keptShares", "[I", true)
  | 3 => ("ClimbedFruit$Plan", "keptFruits", "[I", true)
  | 4 => ("ClimbedFruit$Plan", "shareSums", "[I", true)
  | 5 => ("ClimbedFruit$Plan", "values", "[I", true)
  | 6 => ("ClimbedFruit$Plan", "fruits", "[I", true)
  | 7 => ("ClimbedFruit$Plan", "wages", "[I", true)
  | 8 => ("ClimbedFruit$Plan", "treeCount", "I", false)
  | 9 => ("ClimbedFruit$Plan", "all", "I", false)
  | _ => ("ClimbedFruit$Plan", "monks", "I", false)
def tyX3 : Nat → FieldType := fun k => match k with
  | 0 => .array .int
  | 1 => .array .int
  | 2 => .array .int
  | 3 => .array .int
  | 4 => .array .int
  | 5 => .array .int
  | 6 => .array .int
  | 7 => .array .int
  | 8 => .int
  | 9 => .int
  | _ => .int
abbrev wsX30 : List Cond := u_ws RX3 TX3 11
theorem nmX3 : ∀ a, a < 11 → ∀ b, b < 11 → a ≠ b → (TX3 a).2.1 ≠ (TX3 b).2.1 := by decide +kernel
theorem tyX3_ok : ∀ k, k < 11 → parseFieldDescriptor (TX3 k).2.2.1 = some (tyX3 k) := by decide +kernel
abbrev cX3_init : ByteArray := prog_5_method_1_code
def yX3_init : MethodName := ⟨RX3, "<init>", "()V"⟩
abbrev cX3_lay : ByteArray := prog_5_method_2_code
def yX3_lay : MethodName := ⟨RX3, "lay", "(LClimbedFruit$Ground;)V"⟩
abbrev cX3_layFolk : ByteArray := prog_5_method_3_code
def yX3_layFolk : MethodName := ⟨RX3, "layFolk", "(LClimbedFruit$Ground;)V"⟩
abbrev cX3_layTree : ByteArray := prog_5_method_4_code
def yX3_layTree : MethodName := ⟨RX3, "layTree", "(ILClimbedFruit$Ground;)V"⟩
abbrev cX3_freeClimbers : ByteArray := prog_5_method_5_code
def yX3_freeClimbers : MethodName := ⟨RX3, "freeClimbers", "(II)I"⟩
abbrev cX3_freeFolk : ByteArray := prog_5_method_6_code
def yX3_freeFolk : MethodName := ⟨RX3, "freeFolk", "(II)I"⟩
abbrev cX3_join : ByteArray := prog_5_method_7_code
def yX3_join : MethodName := ⟨RX3, "join", "(II)I"⟩
abbrev cX3_newWage : ByteArray := prog_5_method_8_code
def yX3_newWage : MethodName := ⟨RX3, "newWage", "(II)I"⟩
abbrev cX3_valueBy : ByteArray := prog_5_method_9_code
def yX3_valueBy : MethodName := ⟨RX3, "valueBy", "(II)I"⟩
abbrev cX3_wouldBear : ByteArray := prog_5_method_10_code
def yX3_wouldBear : MethodName := ⟨RX3, "wouldBear", "(III)Z"⟩
def RX4 : String := "ClimbedFruit$Rota"
def TX4 : u_T := fun k => match k with
  | 0 => ("ClimbedFruit$Rota", "ground", "LClimbedFruit$Ground;", true)
  | 1 => ("ClimbedFruit$Rota", "places", "[I", true)
  | 2 => ("ClimbedFruit$Rota", "length", "I", false)
  | 3 => ("ClimbedFruit$Rota", "yearsBehind", "I", false)
  | _ => ("ClimbedFruit$Rota", "yearsAhead", "I", false)
def tyX4 : Nat → FieldType := fun k => match k with
  | 0 => .object "ClimbedFruit$Ground"
  | 1 => .array .int
  | 2 => .int
  | 3 => .int
  | _ => .int
abbrev wsX40 : List Cond := u_ws RX4 TX4 5
theorem nmX4 : ∀ a, a < 5 → ∀ b, b < 5 → a ≠ b → (TX4 a).2.1 ≠ (TX4 b).2.1 := by decide +kernel
theorem tyX4_ok : ∀ k, k < 5 → parseFieldDescriptor (TX4 k).2.2.1 = some (tyX4 k) := by decide +kernel
abbrev cX4_init : ByteArray := prog_6_method_1_code
def yX4_init : MethodName := ⟨RX4, "<init>", "(LClimbedFruit$Ground;)V"⟩
abbrev cX4_take : ByteArray := prog_6_method_2_code
def yX4_take : MethodName := ⟨RX4, "take", "(LClimbedFruit$Sheet;II)Z"⟩
abbrev cX4_valueOfYears : ByteArray := prog_6_method_3_code
def yX4_valueOfYears : MethodName := ⟨RX4, "valueOfYears", "(I)I"⟩
abbrev cX4_valueBehind : ByteArray := prog_6_method_4_code
def yX4_valueBehind : MethodName := ⟨RX4, "valueBehind", "(II)I"⟩
abbrev cX4_lastBehind : ByteArray := prog_6_method_5_code
def yX4_lastBehind : MethodName := ⟨RX4, "lastBehind", "(II)I"⟩
abbrev cX4_beforeBehind : ByteArray := prog_6_method_6_code
def yX4_beforeBehind : MethodName := ⟨RX4, "beforeBehind", "(II)I"⟩
abbrev cX4_lastFellBehind : ByteArray := prog_6_method_7_code
def yX4_lastFellBehind : MethodName := ⟨RX4, "lastFellBehind", "(II)Z"⟩
abbrev cX4_beforeFellBehind : ByteArray := prog_6_method_8_code
def yX4_beforeFellBehind : MethodName := ⟨RX4, "beforeFellBehind", "(II)Z"⟩
abbrev cX4_findAgain : ByteArray := prog_6_method_9_code
def yX4_findAgain : MethodName := ⟨RX4, "findAgain", "()Z"⟩
abbrev cX4_areAlike : ByteArray := prog_6_method_10_code
def yX4_areAlike : MethodName := ⟨RX4, "areAlike", "(II)Z"⟩
def RX5 : String := "ClimbedFruit$Sheet"
def TX5 : u_T := fun k => match k with
  | 0 => ("ClimbedFruit$Sheet", "items", "[J", true)
  | 1 => ("ClimbedFruit$Sheet", "isHeld", "Z", false)
  | 2 => ("ClimbedFruit$Sheet", "lane", "I", false)
  | _ => ("ClimbedFruit$Sheet", "length", "I", false)
def tyX5 : Nat → FieldType := fun k => match k with
  | 0 => .array .long
  | 1 => .boolean
  | 2 => .int
  | _ => .int
abbrev wsX50 : List Cond := u_ws RX5 TX5 4
theorem nmX5 : ∀ a, a < 4 → ∀ b, b < 4 → a ≠ b → (TX5 a).2.1 ≠ (TX5 b).2.1 := by decide +kernel
theorem tyX5_ok : ∀ k, k < 4 → parseFieldDescriptor (TX5 k).2.2.1 = some (tyX5 k) := by decide +kernel
abbrev cX5_init : ByteArray := prog_7_method_1_code
def yX5_init : MethodName := ⟨RX5, "<init>", "()V"⟩
abbrev cX5_begin : ByteArray := prog_7_method_2_code
def yX5_begin : MethodName := ⟨RX5, "begin", "(II)V"⟩
abbrev cX5_hasItems : ByteArray := prog_7_method_3_code
def yX5_hasItems : MethodName := ⟨RX5, "hasItems", "(II)Z"⟩
abbrev cX5_put : ByteArray := prog_7_method_4_code
def yX5_put : MethodName := ⟨RX5, "put", "(IJ)V"⟩
abbrev cX5_near : ByteArray := prog_7_method_5_code
def yX5_near : MethodName := ⟨RX5, "near", "(II)I"⟩
def RX6 : String := "ClimbedFruit$Tape"
def TX6 : u_T := fun k => match k with
  | 0 => ("ClimbedFruit$Tape", "letters", "[I", true)
  | 1 => ("ClimbedFruit$Tape", "kinds", "[I", true)
  | 2 => ("ClimbedFruit$Tape", "lasts", "[I", true)
  | 3 => ("ClimbedFruit$Tape", "befores", "[I", true)
  | 4 => ("ClimbedFruit$Tape", "length", "I", false)
  | _ => ("ClimbedFruit$Tape", "place", "I", false)
def tyX6 : Nat → FieldType := fun k => match k with
  | 0 => .array .int
  | 1 => .array .int
  | 2 => .array .int
  | 3 => .array .int
  | 4 => .int
  | _ => .int
abbrev wsX60 : List Cond := u_ws RX6 TX6 6
theorem nmX6 : ∀ a, a < 6 → ∀ b, b < 6 → a ≠ b → (TX6 a).2.1 ≠ (TX6 b).2.1 := by decide +kernel
theorem tyX6_ok : ∀ k, k < 6 → parseFieldDescriptor (TX6 k).2.2.1 = some (tyX6 k) := by decide +kernel
abbrev cX6_init : ByteArray := prog_8_method_1_code
def yX6_init : MethodName := ⟨RX6, "<init>", "()V"⟩
abbrev cX6_write : ByteArray := prog_8_method_2_code
def yX6_write : MethodName := ⟨RX6, "write", "(I)I"⟩
abbrev cX6_parse : ByteArray := prog_8_method_3_code
def yX6_parse : MethodName := ⟨RX6, "parse", "(I)I"⟩
abbrev cX6_parseTree : ByteArray := prog_8_method_4_code
def yX6_parseTree : MethodName := ⟨RX6, "parseTree", "(II)Z"⟩
abbrev cX6_parseClimber : ByteArray := prog_8_method_5_code
def yX6_parseClimber : MethodName := ⟨RX6, "parseClimber", "(I)I"⟩
abbrev cX6_peek : ByteArray := prog_8_method_6_code
def yX6_peek : MethodName := ⟨RX6, "peek", "()I"⟩
abbrev cX6_plantAll : ByteArray := prog_8_method_7_code
def yX6_plantAll : MethodName := ⟨RX6, "plantAll", "(LClimbedFruit$Ground;I)V"⟩
def RX7 : String := "ClimbedFruit$Tree"
def TX7 : u_T := fun k => match k with
  | 0 => ("ClimbedFruit$Tree", "kind", "I", false)
  | 1 => ("ClimbedFruit$Tree", "now", "I", false)
  | 2 => ("ClimbedFruit$Tree", "last", "I", false)
  | 3 => ("ClimbedFruit$Tree", "before", "I", false)
  | 4 => ("ClimbedFruit$Tree", "lastFell", "Z", false)
  | 5 => ("ClimbedFruit$Tree", "beforeFell", "Z", false)
  | _ => ("ClimbedFruit$Tree", "fence", "I", false)
def tyX7 : Nat → FieldType := fun k => match k with
  | 0 => .int
  | 1 => .int
  | 2 => .int
  | 3 => .int
  | 4 => .boolean
  | 5 => .boolean
  | _ => .int
abbrev wsX70 : List Cond := u_ws RX7 TX7 7
theorem nmX7 : ∀ a, a < 7 → ∀ b, b < 7 → a ≠ b → (TX7 a).2.1 ≠ (TX7 b).2.1 := by decide +kernel
theorem tyX7_ok : ∀ k, k < 7 → parseFieldDescriptor (TX7 k).2.2.1 = some (tyX7 k) := by decide +kernel
abbrev cX7_init : ByteArray := prog_9_method_1_code
def yX7_init : MethodName := ⟨RX7, "<init>", "()V"⟩
abbrev cX7_begin : ByteArray := prog_9_method_2_code
def yX7_begin : MethodName := ⟨RX7, "begin", "(III)V"⟩
abbrev cX7_becomeCuttingOf : ByteArray := prog_9_method_3_code
def yX7_becomeCuttingOf : MethodName := ⟨RX7, "becomeCuttingOf", "(LClimbedFruit$Tree;)V"⟩
abbrev cX7_become : ByteArray := prog_9_method_4_code
def yX7_become : MethodName := ⟨RX7, "become", "(LClimbedFruit$Tree;)V"⟩
abbrev cX7_mark : ByteArray := prog_9_method_5_code
def yX7_mark : MethodName := ⟨RX7, "mark", "(I)I"⟩
abbrev cX7_passYear : ByteArray := prog_9_method_6_code
def yX7_passYear : MethodName := ⟨RX7, "passYear", "(Z)V"⟩
abbrev cX7_shareOfLast : ByteArray := prog_9_method_7_code
def yX7_shareOfLast : MethodName := ⟨RX7, "shareOfLast", "(IZ)I"⟩
abbrev cX7_shareOfBefore : ByteArray := prog_9_method_8_code
def yX7_shareOfBefore : MethodName := ⟨RX7, "shareOfBefore", "(IZ)I"⟩
def RX8 : String := "ClimbedFruit$Villages"
def TX8 : u_T := fun k => match k with
  | 0 => ("ClimbedFruit$Villages", "plan", "LClimbedFruit$Plan;", true)
  | 1 => ("ClimbedFruit$Villages", "outcomes", "[I", true)
  | _ => ("ClimbedFruit$Villages", "own", "I", false)
def tyX8 : Nat → FieldType := fun k => match k with
  | 0 => .object "ClimbedFruit$Plan"
  | 1 => .array .int
  | _ => .int
abbrev wsX80 : List Cond := u_ws RX8 TX8 3
theorem nmX8 : ∀ a, a < 3 → ∀ b, b < 3 → a ≠ b → (TX8 a).2.1 ≠ (TX8 b).2.1 := by decide +kernel
theorem tyX8_ok : ∀ k, k < 3 → parseFieldDescriptor (TX8 k).2.2.1 = some (tyX8 k) := by decide +kernel
abbrev cX8_init : ByteArray := prog_10_method_1_code
def yX8_init : MethodName := ⟨RX8, "<init>", "(LClimbedFruit$Plan;)V"⟩
abbrev cX8_outcome : ByteArray := prog_10_method_2_code
def yX8_outcome : MethodName := ⟨RX8, "outcome", "(I)I"⟩
abbrev cX8_outcomeFrom : ByteArray := prog_10_method_3_code
def yX8_outcomeFrom : MethodName := ⟨RX8, "outcomeFrom", "(IIIZ)I"⟩
abbrev cX8_sendBest : ByteArray := prog_10_method_4_code
def yX8_sendBest : MethodName := ⟨RX8, "sendBest", "(III)I"⟩
def RX9 : String := "ClimbedFruit$Wants"
def TX9 : u_T := fun k => match k with
  | 0 => ("ClimbedFruit$Wants", "plan", "LClimbedFruit$Plan;", true)
  | 1 => ("ClimbedFruit$Wants", "lacks", "[I", true)
  | 2 => ("ClimbedFruit$Wants", "row", "[I", true)
  | 3 => ("ClimbedFruit$Wants", "found", "[I", true)
  | 4 => ("ClimbedFruit$Wants", "wages", "I", false)
  | _ => ("ClimbedFruit$Wants", "ways", "I", false)
def tyX9 : Nat → FieldType := fun k => match k with
  | 0 => .object "ClimbedFruit$Plan"
  | 1 => .array .int
  | 2 => .array .int
  | 3 => .array .int
  | 4 => .int
  | _ => .int
abbrev wsX90 : List Cond := u_ws RX9 TX9 6
theorem nmX9 : ∀ a, a < 6 → ∀ b, b < 6 → a ≠ b → (TX9 a).2.1 ≠ (TX9 b).2.1 := by decide +kernel
theorem tyX9_ok : ∀ k, k < 6 → parseFieldDescriptor (TX9 k).2.2.1 = some (tyX9 k) := by decide +kernel
abbrev cX9_init : ByteArray := prog_11_method_1_code
def yX9_init : MethodName := ⟨RX9, "<init>", "(LClimbedFruit$Plan;)V"⟩
abbrev cX9_take : ByteArray := prog_11_method_2_code
def yX9_take : MethodName := ⟨RX9, "take", "(LClimbedFruit$Sheet;I)V"⟩
abbrev cX9_hireCheapest : ByteArray := prog_11_method_3_code
def yX9_hireCheapest : MethodName := ⟨RX9, "hireCheapest", "()Z"⟩
abbrev cX9_hireFrom : ByteArray := prog_11_method_4_code
def yX9_hireFrom : MethodName := ⟨RX9, "hireFrom", "(IIII)V"⟩
abbrev cX9_bakeAll : ByteArray := prog_11_method_5_code
def yX9_bakeAll : MethodName := ⟨RX9, "bakeAll", "()V"⟩
abbrev cX9_bakeFrom : ByteArray := prog_11_method_6_code
def yX9_bakeFrom : MethodName := ⟨RX9, "bakeFrom", "(II)V"⟩
abbrev cX9_foundDigits : ByteArray := prog_11_method_7_code
def yX9_foundDigits : MethodName := ⟨RX9, "foundDigits", "()I"⟩
def RX10 : String := "ClimbedFruit"
def TX10 : u_T := fun k => match k with
  | 0 => ("ClimbedFruit", "ground", "LClimbedFruit$Ground;", true)
  | 1 => ("ClimbedFruit", "kept", "LClimbedFruit$Ground;", true)
  | 2 => ("ClimbedFruit", "hasImage", "Z", false)
  | 3 => ("ClimbedFruit", "tape", "LClimbedFruit$Tape;", true)
  | 4 => ("ClimbedFruit", "sheets", "[LClimbedFruit$Sheet;", true)
  | 5 => ("ClimbedFruit", "plan", "LClimbedFruit$Plan;", true)
  | 6 => ("ClimbedFruit", "orders", "LClimbedFruit$Orders;", true)
  | 7 => ("ClimbedFruit", "wants", "LClimbedFruit$Wants;", true)
  | 8 => ("ClimbedFruit", "villages", "LClimbedFruit$Villages;", true)
  | 9 => ("ClimbedFruit", "rota", "LClimbedFruit$Rota;", true)
  | _ => ("ClimbedFruit", "fruits", "[I", true)
def tyX10 : Nat → FieldType := fun k => match k with
  | 0 => .object "ClimbedFruit$Ground"
  | 1 => .object "ClimbedFruit$Ground"
  | 2 => .boolean
  | 3 => .object "ClimbedFruit$Tape"
  | 4 => .array (.object "ClimbedFruit$Sheet")
  | 5 => .object "ClimbedFruit$Plan"
  | 6 => .object "ClimbedFruit$Orders"
  | 7 => .object "ClimbedFruit$Wants"
  | 8 => .object "ClimbedFruit$Villages"
  | 9 => .object "ClimbedFruit$Rota"
  | _ => .array .int
abbrev wsX100 : List Cond := u_ws RX10 TX10 11
theorem nmX10 : ∀ a, a < 11 → ∀ b, b < 11 → a ≠ b → (TX10 a).2.1 ≠ (TX10 b).2.1 := by decide +kernel
theorem tyX10_ok : ∀ k, k < 11 → parseFieldDescriptor (TX10 k).2.2.1 = some (tyX10 k) := by decide +kernel
abbrev cX10_init : ByteArray := prog_1_method_1_code
def yX10_init : MethodName := ⟨RX10, "<init>", "()V"⟩
abbrev cX10_tree : ByteArray := prog_1_method_2_code
def yX10_tree : MethodName := ⟨RX10, "tree", "(I)I"⟩
abbrev cX10_cutting : ByteArray := prog_1_method_3_code
def yX10_cutting : MethodName := ⟨RX10, "cutting", "(I)I"⟩
abbrev cX10_climber : ByteArray := prog_1_method_4_code
def yX10_climber : MethodName := ⟨RX10, "climber", "(IIII)I"⟩
abbrev cX10_set : ByteArray := prog_1_method_5_code
def yX10_set : MethodName := ⟨RX10, "set", "(III)I"⟩
abbrev cX10_told : ByteArray := prog_1_method_6_code
def yX10_told : MethodName := ⟨RX10, "told", "(II)I"⟩
abbrev cX10_of : ByteArray := prog_1_method_7_code
def yX10_of : MethodName := ⟨RX10, "of", "(II)I"⟩
abbrev cX10_price : ByteArray := prog_1_method_8_code
def yX10_price : MethodName := ⟨RX10, "price", "(II)I"⟩
abbrev cX10_fence : ByteArray := prog_1_method_9_code
def yX10_fence : MethodName := ⟨RX10, "fence", "(II)I"⟩
abbrev cX10_climb : ByteArray := prog_1_method_10_code
def yX10_climb : MethodName := ⟨RX10, "climb", "(II)I"⟩
abbrev cX10_type : ByteArray := prog_1_method_11_code
def yX10_type : MethodName := ⟨RX10, "type", "(I)I"⟩
abbrev cX10_commons : ByteArray := prog_1_method_12_code
def yX10_commons : MethodName := ⟨RX10, "commons", "()I"⟩
abbrev cX10_count : ByteArray := prog_1_method_13_code
def yX10_count : MethodName := ⟨RX10, "count", "(I)I"⟩
abbrev cX10_bears : ByteArray := prog_1_method_14_code
def yX10_bears : MethodName := ⟨RX10, "bears", "(II)I"⟩
abbrev cX10_basket : ByteArray := prog_1_method_15_code
def yX10_basket : MethodName := ⟨RX10, "basket", "(II)I"⟩
abbrev cX10_value : ByteArray := prog_1_method_16_code
def yX10_value : MethodName := ⟨RX10, "value", "(I)I"⟩
abbrev cX10_year : ByteArray := prog_1_method_17_code
def yX10_year : MethodName := ⟨RX10, "year", "()I"⟩
abbrev cX10_seed : ByteArray := prog_1_method_18_code
def yX10_seed : MethodName := ⟨RX10, "seed", "(I)I"⟩
abbrev cX10_best : ByteArray := prog_1_method_19_code
def yX10_best : MethodName := ⟨RX10, "best", "(I)I"⟩
abbrev cX10_worth : ByteArray := prog_1_method_20_code
def yX10_worth : MethodName := ⟨RX10, "worth", "(I)I"⟩
abbrev cX10_game : ByteArray := prog_1_method_21_code
def yX10_game : MethodName := ⟨RX10, "game", "(I)I"⟩
abbrev cX10_fences : ByteArray := prog_1_method_22_code
def yX10_fences : MethodName := ⟨RX10, "fences", "(II)I"⟩
abbrev cX10_upper : ByteArray := prog_1_method_23_code
def yX10_upper : MethodName := ⟨RX10, "upper", "()I"⟩
abbrev cX10_lower : ByteArray := prog_1_method_24_code
def yX10_lower : MethodName := ⟨RX10, "lower", "()I"⟩
abbrev cX10_send : ByteArray := prog_1_method_25_code
def yX10_send : MethodName := ⟨RX10, "send", "()I"⟩
abbrev cX10_image : ByteArray := prog_1_method_26_code
def yX10_image : MethodName := ⟨RX10, "image", "()I"⟩
abbrev cX10_restore : ByteArray := prog_1_method_27_code
def yX10_restore : MethodName := ⟨RX10, "restore", "()I"⟩
abbrev cX10_hired : ByteArray := prog_1_method_28_code
def yX10_hired : MethodName := ⟨RX10, "hired", "(IIII)I"⟩
abbrev cX10_night : ByteArray := prog_1_method_29_code
def yX10_night : MethodName := ⟨RX10, "night", "(IIII)I"⟩
abbrev cX10_pie : ByteArray := prog_1_method_30_code
def yX10_pie : MethodName := ⟨RX10, "pie", "(IIII)I"⟩
abbrev cX10_earned : ByteArray := prog_1_method_31_code
def yX10_earned : MethodName := ⟨RX10, "earned", "(IIIII)I"⟩
abbrev cX10_again : ByteArray := prog_1_method_32_code
def yX10_again : MethodName := ⟨RX10, "again", "(IIIII)I"⟩
abbrev cX10_film : ByteArray := prog_1_method_33_code
def yX10_film : MethodName := ⟨RX10, "film", "(III)I"⟩
abbrev cX10_sheet : ByteArray := prog_1_method_34_code
def yX10_sheet : MethodName := ⟨RX10, "sheet", "(III)I"⟩
abbrev cX10_drop : ByteArray := prog_1_method_35_code
def yX10_drop : MethodName := ⟨RX10, "drop", "(I)I"⟩
abbrev cX10_item : ByteArray := prog_1_method_36_code
def yX10_item : MethodName := ⟨RX10, "item", "(IIIJ)I"⟩
abbrev cX10_copy : ByteArray := prog_1_method_37_code
def yX10_copy : MethodName := ⟨RX10, "copy", "(IIIII)I"⟩
abbrev cX10_isWithin : ByteArray := prog_1_method_38_code
def yX10_isWithin : MethodName := ⟨RX10, "isWithin", "(III)Z"⟩
abbrev cX10_isFruit : ByteArray := prog_1_method_39_code
def yX10_isFruit : MethodName := ⟨RX10, "isFruit", "(I)Z"⟩
abbrev cX10_isSheet : ByteArray := prog_1_method_40_code
def yX10_isSheet : MethodName := ⟨RX10, "isSheet", "(I)Z"⟩
abbrev cX10_isLane : ByteArray := prog_1_method_41_code
def yX10_isLane : MethodName := ⟨RX10, "isLane", "(I)Z"⟩
abbrev cX10_isTrait : ByteArray := prog_1_method_42_code
def yX10_isTrait : MethodName := ⟨RX10, "isTrait", "(II)Z"⟩
abbrev cX10_isIn : ByteArray := prog_1_method_43_code
def yX10_isIn : MethodName := ⟨RX10, "isIn", "(II)Z"⟩
abbrev cX10_sharedWithTen : ByteArray := prog_1_method_44_code
def yX10_sharedWithTen : MethodName := ⟨RX10, "sharedWithTen", "(I)I"⟩
abbrev cX10_faultOf : ByteArray := prog_1_method_45_code
def yX10_faultOf : MethodName := ⟨RX10, "faultOf", "(IIII)I"⟩
abbrev cX10_layRota : ByteArray := prog_1_method_46_code
def yX10_layRota : MethodName := ⟨RX10, "layRota", "(IIII)I"⟩
def RX11 : String := "ClimbedFruitModel"
def TX11 : u_T := fun k => match k with
  | 0 => ("ClimbedFruitModel", "w", "[I", true)
  | 1 => ("ClimbedFruitModel", "isKept", "Z", false)
  | 2 => ("ClimbedFruitModel", "tape", "[I", true)
  | 3 => ("ClimbedFruitModel", "taped", "I", false)
  | 4 => ("ClimbedFruitModel", "at", "I", false)
  | 5 => ("ClimbedFruitModel", "readMany", "I", false)
  | 6 => ("ClimbedFruitModel", "readTrees", "[I", true)
  | 7 => ("ClimbedFruitModel", "who", "[I", true)
  | 8 => ("ClimbedFruitModel", "worths", "[I", true)
  | 9 => ("ClimbedFruitModel", "bestCode", "I", false)
  | 10 => ("ClimbedFruitModel", "rest", "[I", true)
  | 11 => ("ClimbedFruitModel", "isKnown", "[Z", true)
  | 12 => ("ClimbedFruitModel", "pile", "[I", true)
  | 13 => ("ClimbedFruitModel", "lanes", "[I", true)
  | 14 => ("ClimbedFruitModel", "sizes", "[I", true)
  | 15 => ("ClimbedFruitModel", "items", "[J", true)
  | 16 => ("ClimbedFruitModel", "held", "[J", true)
  | _ => ("ClimbedFruitModel", "states", "[I", true)
def tyX11 : Nat → FieldType := fun k => match k with
  | 0 => .array .int
  | 1 => .boolean
  | 2 => .array .int
  | 3 => .int
  | 4 => .int
  | 5 => .int
  | 6 => .array .int
  | 7 => .array .int
  | 8 => .array .int
  | 9 => .int
  | 10 => .array .int
  | 11 => .array .boolean
  | 12 => .array .int
  | 13 => .array .int
  | 14 => .array .int
  | 15 => .array .long
  | 16 => .array .long
  | _ => .array .int
abbrev wsX110 : List Cond := u_ws RX11 TX11 18
theorem nmX11 : ∀ a, a < 18 → ∀ b, b < 18 → a ≠ b → (TX11 a).2.1 ≠ (TX11 b).2.1 := by decide +kernel
theorem tyX11_ok : ∀ k, k < 18 → parseFieldDescriptor (TX11 k).2.2.1 = some (tyX11 k) := by decide +kernel
abbrev cX11_init : ByteArray := prog_13_method_1_code
def yX11_init : MethodName := ⟨RX11, "<init>", "()V"⟩
abbrev cX11_in : ByteArray := prog_13_method_3_code
def yX11_in : MethodName := ⟨RX11, "in", "(JJJ)Z"⟩
abbrev cX11_has : ByteArray := prog_13_method_4_code
def yX11_has : MethodName := ⟨RX11, "has", "(II)Z"⟩
abbrev cX11_size : ByteArray := prog_13_method_5_code
def yX11_size : MethodName := ⟨RX11, "size", "(I)I"⟩
abbrev cX11_isTree : ByteArray := prog_13_method_6_code
def yX11_isTree : MethodName := ⟨RX11, "isTree", "(I)Z"⟩
abbrev cX11_isClimber : ByteArray := prog_13_method_7_code
def yX11_isClimber : MethodName := ⟨RX11, "isClimber", "(I)Z"⟩
abbrev cX11_add : ByteArray := prog_13_method_8_code
def yX11_add : MethodName := ⟨RX11, "add", "(IIIII)I"⟩
abbrev cX11_tree : ByteArray := prog_13_method_9_code
def yX11_tree : MethodName := ⟨RX11, "tree", "(I)I"⟩
abbrev cX11_cutting : ByteArray := prog_13_method_10_code
def yX11_cutting : MethodName := ⟨RX11, "cutting", "(I)I"⟩
abbrev cX11_climber : ByteArray := prog_13_method_11_code
def yX11_climber : MethodName := ⟨RX11, "climber", "(IIII)I"⟩
abbrev cX11_set : ByteArray := prog_13_method_12_code
def yX11_set : MethodName := ⟨RX11, "set", "(III)I"⟩
abbrev cX11_brings : ByteArray := prog_13_method_13_code
def yX11_brings : MethodName := ⟨RX11, "brings", "(I)I"⟩
abbrev cX11_told : ByteArray := prog_13_method_14_code
def yX11_told : MethodName := ⟨RX11, "told", "(II)I"⟩
abbrev cX11_of : ByteArray := prog_13_method_15_code
def yX11_of : MethodName := ⟨RX11, "of", "(II)I"⟩
abbrev cX11_price : ByteArray := prog_13_method_16_code
def yX11_price : MethodName := ⟨RX11, "price", "(II)I"⟩
abbrev cX11_isSet : ByteArray := prog_13_method_17_code
def yX11_isSet : MethodName := ⟨RX11, "isSet", "(I)Z"⟩
abbrev cX11_fence : ByteArray := prog_13_method_18_code
def yX11_fence : MethodName := ⟨RX11, "fence", "(II)I"⟩
abbrev cX11_climb : ByteArray := prog_13_method_19_code
def yX11_climb : MethodName := ⟨RX11, "climb", "(II)I"⟩
abbrev cX11_type : ByteArray := prog_13_method_20_code
def yX11_type : MethodName := ⟨RX11, "type", "(I)I"⟩
abbrev cX11_ahead : ByteArray := prog_13_method_21_code
def yX11_ahead : MethodName := ⟨RX11, "ahead", "()I"⟩
abbrev cX11_whoIs : ByteArray := prog_13_method_22_code
def yX11_whoIs : MethodName := ⟨RX11, "whoIs", "(I)I"⟩
abbrev cX11_takesTree : ByteArray := prog_13_method_23_code
def yX11_takesTree : MethodName := ⟨RX11, "takesTree", "()Z"⟩
abbrev cX11_isCommons : ByteArray := prog_13_method_24_code
def yX11_isCommons : MethodName := ⟨RX11, "isCommons", "()Z"⟩
abbrev cX11_commons : ByteArray := prog_13_method_25_code
def yX11_commons : MethodName := ⟨RX11, "commons", "()I"⟩
abbrev cX11_nowSet : ByteArray := prog_13_method_26_code
def yX11_nowSet : MethodName := ⟨RX11, "nowSet", "()I"⟩
abbrev cX11_count : ByteArray := prog_13_method_27_code
def yX11_count : MethodName := ⟨RX11, "count", "(I)I"⟩
abbrev cX11_plain : ByteArray := prog_13_method_28_code
def yX11_plain : MethodName := ⟨RX11, "plain", "(I)I"⟩
abbrev cX11_borne : ByteArray := prog_13_method_29_code
def yX11_borne : MethodName := ⟨RX11, "borne", "(IIIIII)I"⟩
abbrev cX11_bearsNow : ByteArray := prog_13_method_30_code
def yX11_bearsNow : MethodName := ⟨RX11, "bearsNow", "(II)I"⟩
abbrev cX11_bearsNext : ByteArray := prog_13_method_31_code
def yX11_bearsNext : MethodName := ⟨RX11, "bearsNext", "(IIII)I"⟩
abbrev cX11_worthNext : ByteArray := prog_13_method_32_code
def yX11_worthNext : MethodName := ⟨RX11, "worthNext", "(III)I"⟩
abbrev cX11_bears : ByteArray := prog_13_method_33_code
def yX11_bears : MethodName := ⟨RX11, "bears", "(II)I"⟩
abbrev cX11_basketOf : ByteArray := prog_13_method_34_code
def yX11_basketOf : MethodName := ⟨RX11, "basketOf", "(II)I"⟩
abbrev cX11_basket : ByteArray := prog_13_method_35_code
def yX11_basket : MethodName := ⟨RX11, "basket", "(II)I"⟩
abbrev cX11_valueOf : ByteArray := prog_13_method_36_code
def yX11_valueOf : MethodName := ⟨RX11, "valueOf", "(I)I"⟩
abbrev cX11_value : ByteArray := prog_13_method_37_code
def yX11_value : MethodName := ⟨RX11, "value", "(I)I"⟩
abbrev cX11_draw : ByteArray := prog_13_method_38_code
def yX11_draw : MethodName := ⟨RX11, "draw", "(I)I"⟩
abbrev cX11_turns : ByteArray := prog_13_method_39_code
def yX11_turns : MethodName := ⟨RX11, "turns", "(II)V"⟩
abbrev cX11_year : ByteArray := prog_13_method_40_code
def yX11_year : MethodName := ⟨RX11, "year", "()I"⟩
abbrev cX11_seed : ByteArray := prog_13_method_41_code
def yX11_seed : MethodName := ⟨RX11, "seed", "(I)I"⟩
abbrev cX11_orders : ByteArray := prog_13_method_42_code
def yX11_orders : MethodName := ⟨RX11, "orders", "()I"⟩
abbrev cX11_layOrder : ByteArray := prog_13_method_43_code
def yX11_layOrder : MethodName := ⟨RX11, "layOrder", "(III)I"⟩
abbrev cX11_wagesOf : ByteArray := prog_13_method_44_code
def yX11_wagesOf : MethodName := ⟨RX11, "wagesOf", "(I)I"⟩
abbrev cX11_layWorths : ByteArray := prog_13_method_45_code
def yX11_layWorths : MethodName := ⟨RX11, "layWorths", "()V"⟩
abbrev cX11_bestOf : ByteArray := prog_13_method_46_code
def yX11_bestOf : MethodName := ⟨RX11, "bestOf", "(II)I"⟩
abbrev cX11_everybody : ByteArray := prog_13_method_47_code
def yX11_everybody : MethodName := ⟨RX11, "everybody", "()I"⟩
abbrev cX11_best : ByteArray := prog_13_method_48_code
def yX11_best : MethodName := ⟨RX11, "best", "(I)I"⟩
abbrev cX11_worth : ByteArray := prog_13_method_49_code
def yX11_worth : MethodName := ⟨RX11, "worth", "(I)I"⟩
abbrev cX11_send : ByteArray := prog_13_method_50_code
def yX11_send : MethodName := ⟨RX11, "send", "()I"⟩
abbrev cX11_takenOf : ByteArray := prog_13_method_51_code
def yX11_takenOf : MethodName := ⟨RX11, "takenOf", "(I)I"⟩
abbrev cX11_usedOf : ByteArray := prog_13_method_52_code
def yX11_usedOf : MethodName := ⟨RX11, "usedOf", "(I)I"⟩
abbrev cX11_canSend : ByteArray := prog_13_method_53_code
def yX11_canSend : MethodName := ⟨RX11, "canSend", "(III)Z"⟩
abbrev cX11_canAny : ByteArray := prog_13_method_54_code
def yX11_canAny : MethodName := ⟨RX11, "canAny", "(II)Z"⟩
abbrev cX11_behind : ByteArray := prog_13_method_55_code
def yX11_behind : MethodName := ⟨RX11, "behind", "(II)I"⟩
abbrev cX11_sentFor : ByteArray := prog_13_method_56_code
def yX11_sentFor : MethodName := ⟨RX11, "sentFor", "(II)I"⟩
abbrev cX11_knows : ByteArray := prog_13_method_57_code
def yX11_knows : MethodName := ⟨RX11, "knows", "(II)I"⟩
abbrev cX11_gameOf : ByteArray := prog_13_method_58_code
def yX11_gameOf : MethodName := ⟨RX11, "gameOf", "(I)I"⟩
abbrev cX11_game : ByteArray := prog_13_method_59_code
def yX11_game : MethodName := ⟨RX11, "game", "(I)I"⟩
abbrev cX11_fences : ByteArray := prog_13_method_60_code
def yX11_fences : MethodName := ⟨RX11, "fences", "(II)I"⟩
abbrev cX11_common : ByteArray := prog_13_method_61_code
def yX11_common : MethodName := ⟨RX11, "common", "(II)I"⟩
abbrev cX11_expected : ByteArray := prog_13_method_62_code
def yX11_expected : MethodName := ⟨RX11, "expected", "()I"⟩
abbrev cX11_upper : ByteArray := prog_13_method_63_code
def yX11_upper : MethodName := ⟨RX11, "upper", "()I"⟩
abbrev cX11_lower : ByteArray := prog_13_method_64_code
def yX11_lower : MethodName := ⟨RX11, "lower", "()I"⟩
abbrev cX11_image : ByteArray := prog_13_method_65_code
def yX11_image : MethodName := ⟨RX11, "image", "()I"⟩
abbrev cX11_restore : ByteArray := prog_13_method_66_code
def yX11_restore : MethodName := ⟨RX11, "restore", "()I"⟩
abbrev cX11_isSheet : ByteArray := prog_13_method_67_code
def yX11_isSheet : MethodName := ⟨RX11, "isSheet", "(I)Z"⟩
abbrev cX11_isLane : ByteArray := prog_13_method_68_code
def yX11_isLane : MethodName := ⟨RX11, "isLane", "(I)Z"⟩
abbrev cX11_bars : ByteArray := prog_13_method_69_code
def yX11_bars : MethodName := ⟨RX11, "bars", "(IIII)I"⟩
abbrev cX11_cutTo : ByteArray := prog_13_method_70_code
def yX11_cutTo : MethodName := ⟨RX11, "cutTo", "(IJ)J"⟩
abbrev cX11_itemAt : ByteArray := prog_13_method_71_code
def yX11_itemAt : MethodName := ⟨RX11, "itemAt", "(II)J"⟩
abbrev cX11_wanted : ByteArray := prog_13_method_72_code
def yX11_wanted : MethodName := ⟨RX11, "wanted", "(II)J"⟩
abbrev cX11_nextOf : ByteArray := prog_13_method_73_code
def yX11_nextOf : MethodName := ⟨RX11, "nextOf", "(I)I"⟩
abbrev cX11_hired : ByteArray := prog_13_method_74_code
def yX11_hired : MethodName := ⟨RX11, "hired", "(IIII)I"⟩
abbrev cX11_night : ByteArray := prog_13_method_75_code
def yX11_night : MethodName := ⟨RX11, "night", "(IIII)I"⟩
abbrev cX11_pie : ByteArray := prog_13_method_76_code
def yX11_pie : MethodName := ⟨RX11, "pie", "(IIII)I"⟩
abbrev cX11_layState : ByteArray := prog_13_method_77_code
def yX11_layState : MethodName := ⟨RX11, "layState", "(I)V"⟩
abbrev cX11_rotaYear : ByteArray := prog_13_method_78_code
def yX11_rotaYear : MethodName := ⟨RX11, "rotaYear", "(III)V"⟩
abbrev cX11_valueBehind : ByteArray := prog_13_method_79_code
def yX11_valueBehind : MethodName := ⟨RX11, "valueBehind", "(I)I"⟩
abbrev cX11_rotaBars : ByteArray := prog_13_method_80_code
def yX11_rotaBars : MethodName := ⟨RX11, "rotaBars", "(IIII)I"⟩
abbrev cX11_earned : ByteArray := prog_13_method_81_code
def yX11_earned : MethodName := ⟨RX11, "earned", "(IIIII)I"⟩
abbrev cX11_areAlike : ByteArray := prog_13_method_82_code
def yX11_areAlike : MethodName := ⟨RX11, "areAlike", "(II)Z"⟩
abbrev cX11_again : ByteArray := prog_13_method_83_code
def yX11_again : MethodName := ⟨RX11, "again", "(IIIII)I"⟩
abbrev cX11_film : ByteArray := prog_13_method_84_code
def yX11_film : MethodName := ⟨RX11, "film", "(III)I"⟩
abbrev cX11_sheet : ByteArray := prog_13_method_85_code
def yX11_sheet : MethodName := ⟨RX11, "sheet", "(III)I"⟩
abbrev cX11_drop : ByteArray := prog_13_method_86_code
def yX11_drop : MethodName := ⟨RX11, "drop", "(I)I"⟩
abbrev cX11_item : ByteArray := prog_13_method_87_code
def yX11_item : MethodName := ⟨RX11, "item", "(IIIJ)I"⟩
abbrev cX11_copy : ByteArray := prog_13_method_88_code
def yX11_copy : MethodName := ⟨RX11, "copy", "(IIIII)I"⟩
def RJx145de : String := "java/io/Serializable"
def TJx145de : u_T := fun k => match k with
  | _ => ("", "", "", false)
def tyJx145de : Nat → FieldType := fun k => match k with
  | _ => .int
theorem nmJx145de : ∀ a, a < 0 → ∀ b, b < 0 → a ≠ b → (TJx145de a).2.1 ≠ (TJx145de b).2.1 := by decide +kernel
theorem tyJx145de_ok : ∀ k, k < 0 → parseFieldDescriptor (TJx145de k).2.2.1 = some (tyJx145de k) := by decide +kernel
def RJx9f9b0 : String := "java/lang/CharSequence"
def TJx9f9b0 : u_T := fun k => match k with
  | _ => ("", "", "", false)
def tyJx9f9b0 : Nat → FieldType := fun k => match k with
  | _ => .int
theorem nmJx9f9b0 : ∀ a, a < 0 → ∀ b, b < 0 → a ≠ b → (TJx9f9b0 a).2.1 ≠ (TJx9f9b0 b).2.1 := by decide +kernel
theorem tyJx9f9b0_ok : ∀ k, k < 0 → parseFieldDescriptor (TJx9f9b0 k).2.2.1 = some (tyJx9f9b0 k) := by decide +kernel
def RJ11 : String := "java/lang/Character"
def TJ11 : u_T := fun k => match k with
  | _ => ("", "", "", false)
def tyJ11 : Nat → FieldType := fun k => match k with
  | _ => .int
abbrev wsJ110 : List Cond := u_ws RJ11 TJ11 0
theorem nmJ11 : ∀ a, a < 0 → ∀ b, b < 0 → a ≠ b → (TJ11 a).2.1 ≠ (TJ11 b).2.1 := by decide +kernel
theorem tyJ11_ok : ∀ k, k < 0 → parseFieldDescriptor (TJ11 k).2.2.1 = some (tyJ11 k) := by decide +kernel
abbrev cJ11_isValidCodePoint_9a6ad : ByteArray := prog_14_method_11_code
def yJ11_isValidCodePoint_9a6ad : MethodName := ⟨RJ11, "isValidCodePoint", "(I)Z"⟩
abbrev cJ11_highSurrogate_5068e : ByteArray := prog_14_method_28_code
def yJ11_highSurrogate_5068e : MethodName := ⟨RJ11, "highSurrogate", "(I)C"⟩
abbrev cJ11_lowSurrogate_5068e : ByteArray := prog_14_method_29_code
def yJ11_lowSurrogate_5068e : MethodName := ⟨RJ11, "lowSurrogate", "(I)C"⟩
def RJxb160c : String := "java/lang/Comparable"
def TJxb160c : u_T := fun k => match k with
  | _ => ("", "", "", false)
def tyJxb160c : Nat → FieldType := fun k => match k with
  | _ => .int
theorem nmJxb160c : ∀ a, a < 0 → ∀ b, b < 0 → a ≠ b → (TJxb160c a).2.1 ≠ (TJxb160c b).2.1 := by decide +kernel
theorem tyJxb160c_ok : ∀ k, k < 0 → parseFieldDescriptor (TJxb160c k).2.2.1 = some (tyJxb160c k) := by decide +kernel
def RJ6 : String := "java/lang/Integer"
def TJ6 : u_T := fun k => match k with
  | _ => ("", "", "", false)
def tyJ6 : Nat → FieldType := fun k => match k with
  | _ => .int
abbrev wsJ60 : List Cond := u_ws RJ6 TJ6 0
theorem nmJ6 : ∀ a, a < 0 → ∀ b, b < 0 → a ≠ b → (TJ6 a).2.1 ≠ (TJ6 b).2.1 := by decide +kernel
theorem tyJ6_ok : ∀ k, k < 0 → parseFieldDescriptor (TJ6 k).2.2.1 = some (tyJ6 k) := by decide +kernel
abbrev cJ6_bitCount_0f7a4 : ByteArray := prog_15_method_49_code
def yJ6_bitCount_0f7a4 : MethodName := ⟨RJ6, "bitCount", "(I)I"⟩
def RJ9 : String := "java/lang/Math"
def TJ9 : u_T := fun k => match k with
  | _ => ("", "", "", false)
def tyJ9 : Nat → FieldType := fun k => match k with
  | _ => .int
abbrev wsJ90 : List Cond := u_ws RJ9 TJ9 0
theorem nmJ9 : ∀ a, a < 0 → ∀ b, b < 0 → a ≠ b → (TJ9 a).2.1 ≠ (TJ9 b).2.1 := by decide +kernel
theorem tyJ9_ok : ∀ k, k < 0 → parseFieldDescriptor (TJ9 k).2.2.1 = some (tyJ9 k) := by decide +kernel
abbrev cJ9_max_7cf53 : ByteArray := prog_16_method_65_code
def yJ9_max_7cf53 : MethodName := ⟨RJ9, "max", "(II)I"⟩
abbrev cJ9_min_7cf53 : ByteArray := prog_16_method_69_code
def yJ9_min_7cf53 : MethodName := ⟨RJ9, "min", "(II)I"⟩
def RJ0 : String := "java/lang/String"
def TJ0 : u_T := fun k => match k with
  | _ => ("", "", "", false)
def tyJ0 : Nat → FieldType := fun k => match k with
  | _ => .int
abbrev wsJ00 : List Cond := u_ws RJ0 TJ0 0
theorem nmJ0 : ∀ a, a < 0 → ∀ b, b < 0 → a ≠ b → (TJ0 a).2.1 ≠ (TJ0 b).2.1 := by decide +kernel
theorem tyJ0_ok : ∀ k, k < 0 → parseFieldDescriptor (TJ0 k).2.2.1 = some (tyJ0 k) := by decide +kernel
abbrev cJ0_length_8abf5 : ByteArray := prog_17_method_54_code
def yJ0_length_8abf5 : MethodName := ⟨RJ0, "length", "()I"⟩
abbrev cJ0_indexOf_0f7a4 : ByteArray := prog_17_method_79_code
def yJ0_indexOf_0f7a4 : MethodName := ⟨RJ0, "indexOf", "(I)I"⟩
abbrev cJ0_indexOf_7cf53 : ByteArray := prog_17_method_80_code
def yJ0_indexOf_7cf53 : MethodName := ⟨RJ0, "indexOf", "(II)I"⟩
abbrev cJ0_coder_7d493 : ByteArray := prog_17_method_152_code
def yJ0_coder_7d493 : MethodName := ⟨RJ0, "coder", "()B"⟩
abbrev cJ0_isLatin1_aae02 : ByteArray := prog_17_method_154_code
def yJ0_isLatin1_aae02 : MethodName := ⟨RJ0, "isLatin1", "()Z"⟩
abbrev cJ0_checkBoundsBeginEnd_23922 : ByteArray := prog_17_method_158_code
def yJ0_checkBoundsBeginEnd_23922 : MethodName := ⟨RJ0, "checkBoundsBeginEnd", "(III)V"⟩
def RJ1 : String := "java/lang/StringLatin1"
def TJ1 : u_T := fun k => match k with
  | _ => ("", "", "", false)
def tyJ1 : Nat → FieldType := fun k => match k with
  | _ => .int
abbrev wsJ10 : List Cond := u_ws RJ1 TJ1 0
theorem nmJ1 : ∀ a, a < 0 → ∀ b, b < 0 → a ≠ b → (TJ1 a).2.1 ≠ (TJ1 b).2.1 := by decide +kernel
theorem tyJ1_ok : ∀ k, k < 0 → parseFieldDescriptor (TJ1 k).2.2.1 = some (tyJ1 k) := by decide +kernel
abbrev cJ1_canEncode_9a6ad : ByteArray := prog_18_method_4_code
def yJ1_canEncode_9a6ad : MethodName := ⟨RJ1, "canEncode", "(I)Z"⟩
abbrev cJ1_indexOf_4cfef : ByteArray := prog_18_method_22_code
def yJ1_indexOf_4cfef : MethodName := ⟨RJ1, "indexOf", "([BIII)I"⟩
abbrev cJ1_indexOfChar_4cfef : ByteArray := prog_18_method_23_code
def yJ1_indexOfChar_4cfef : MethodName := ⟨RJ1, "indexOfChar", "([BIII)I"⟩
def RJ2 : String := "java/lang/StringUTF16"
def TJ2 : u_T := fun k => match k with
  | _ => ("", "", "", false)
def tyJ2 : Nat → FieldType := fun k => match k with
  | _ => .int
abbrev wsJ20 : List Cond := u_ws RJ2 TJ2 0
theorem nmJ2 : ∀ a, a < 0 → ∀ b, b < 0 → a ≠ b → (TJ2 a).2.1 ≠ (TJ2 b).2.1 := by decide +kernel
theorem tyJ2_ok : ∀ k, k < 0 → parseFieldDescriptor (TJ2 k).2.2.1 = some (tyJ2 k) := by decide +kernel
abbrev cJ2_getChar_3b067 : ByteArray := prog_19_method_5_code
def yJ2_getChar_3b067 : MethodName := ⟨RJ2, "getChar", "([BI)C"⟩
abbrev cJ2_length_9d52b : ByteArray := prog_19_method_6_code
def yJ2_length_9d52b : MethodName := ⟨RJ2, "length", "([B)I"⟩
abbrev cJ2_indexOf_4cfef : ByteArray := prog_19_method_40_code
def yJ2_indexOf_4cfef : MethodName := ⟨RJ2, "indexOf", "([BIII)I"⟩
abbrev cJ2_indexOfChar_4cfef : ByteArray := prog_19_method_47_code
def yJ2_indexOfChar_4cfef : MethodName := ⟨RJ2, "indexOfChar", "([BIII)I"⟩
abbrev cJ2_indexOfCharUnsafe_4cfef : ByteArray := prog_19_method_48_code
def yJ2_indexOfCharUnsafe_4cfef : MethodName := ⟨RJ2, "indexOfCharUnsafe", "([BIII)I"⟩
abbrev cJ2_indexOfSupplementary_4cfef : ByteArray := prog_19_method_49_code
def yJ2_indexOfSupplementary_4cfef : MethodName := ⟨RJ2, "indexOfSupplementary", "([BIII)I"⟩
abbrev cJ2_checkBoundsBeginEnd_d044e : ByteArray := prog_19_method_93_code
def yJ2_checkBoundsBeginEnd_d044e : MethodName := ⟨RJ2, "checkBoundsBeginEnd", "(II[B)V"⟩
def RJ10 : String := "java/lang/System"
def TJ10 : u_T := fun k => match k with
  | _ => ("", "", "", false)
def tyJ10 : Nat → FieldType := fun k => match k with
  | _ => .int
abbrev wsJ100 : List Cond := u_ws RJ10 TJ10 0
theorem nmJ10 : ∀ a, a < 0 → ∀ b, b < 0 → a ≠ b → (TJ10 a).2.1 ≠ (TJ10 b).2.1 := by decide +kernel
theorem tyJ10_ok : ∀ k, k < 0 → parseFieldDescriptor (TJ10 k).2.2.1 = some (tyJ10 k) := by decide +kernel
def RJxfd54e : String := "java/lang/constant/Constable"
def TJxfd54e : u_T := fun k => match k with
  | _ => ("", "", "", false)
def tyJxfd54e : Nat → FieldType := fun k => match k with
  | _ => .int
theorem nmJxfd54e : ∀ a, a < 0 → ∀ b, b < 0 → a ≠ b → (TJxfd54e a).2.1 ≠ (TJxfd54e b).2.1 := by decide +kernel
theorem tyJxfd54e_ok : ∀ k, k < 0 → parseFieldDescriptor (TJxfd54e k).2.2.1 = some (tyJxfd54e k) := by decide +kernel
def RJx3cf43 : String := "java/lang/constant/ConstantDesc"
def TJx3cf43 : u_T := fun k => match k with
  | _ => ("", "", "", false)
def tyJx3cf43 : Nat → FieldType := fun k => match k with
  | _ => .int
theorem nmJx3cf43 : ∀ a, a < 0 → ∀ b, b < 0 → a ≠ b → (TJx3cf43 a).2.1 ≠ (TJx3cf43 b).2.1 := by decide +kernel
theorem tyJx3cf43_ok : ∀ k, k < 0 → parseFieldDescriptor (TJx3cf43 k).2.2.1 = some (tyJx3cf43 k) := by decide +kernel
def RJ7 : String := "java/util/Arrays"
def TJ7 : u_T := fun k => match k with
  | _ => ("", "", "", false)
def tyJ7 : Nat → FieldType := fun k => match k with
  | _ => .int
abbrev wsJ70 : List Cond := u_ws RJ7 TJ7 0
theorem nmJ7 : ∀ a, a < 0 → ∀ b, b < 0 → a ≠ b → (TJ7 a).2.1 ≠ (TJ7 b).2.1 := by decide +kernel
theorem tyJ7_ok : ∀ k, k < 0 → parseFieldDescriptor (TJ7 k).2.2.1 = some (tyJ7 k) := by decide +kernel
abbrev cJ7_fill_d0a16 : ByteArray := prog_21_method_101_code
def yJ7_fill_d0a16 : MethodName := ⟨RJ7, "fill", "([JJ)V"⟩
abbrev cJ7_fill_53178 : ByteArray := prog_21_method_103_code
def yJ7_fill_53178 : MethodName := ⟨RJ7, "fill", "([II)V"⟩
def RJ3 : String := "jdk/internal/util/Preconditions"
def TJ3 : u_T := fun k => match k with
  | _ => ("", "", "", false)
def tyJ3 : Nat → FieldType := fun k => match k with
  | _ => .int
abbrev wsJ30 : List Cond := u_ws RJ3 TJ3 0
theorem nmJ3 : ∀ a, a < 0 → ∀ b, b < 0 → a ≠ b → (TJ3 a).2.1 ≠ (TJ3 b).2.1 := by decide +kernel
theorem tyJ3_ok : ∀ k, k < 0 → parseFieldDescriptor (TJ3 k).2.2.1 = some (tyJ3 k) := by decide +kernel
abbrev cJ3_checkFromToIndex_8c36e : ByteArray := prog_22_method_12_code
def yJ3_checkFromToIndex_8c36e : MethodName := ⟨RJ3, "checkFromToIndex", "(IIILjava/util/function/BiFunction;)I"⟩
def RL : String := "ClimbedFruitLaw"
abbrev cL_law : ByteArray := code
def yL_law : MethodName := ⟨RL, "law", "([I)Z"⟩
abbrev vwCl : List vw_C := [(RX0, TX0, 4), (RX1, TX1, 8), (RX2, TX2, 7), (RX3, TX3, 11), (RX4, TX4, 5), (RX5, TX5, 4), (RX6, TX6, 6), (RX7, TX7, 7), (RX8, TX8, 3), (RX9, TX9, 6), (RX10, TX10, 11), (RX11, TX11, 18)]
theorem fi_X0 : ∀ w ∈ wsX00, w ∈ lw_tbl := by decide +kernel
theorem fi_X1 : ∀ w ∈ wsX10, w ∈ lw_tbl := by decide +kernel
end
section
theorem dX0_init_0 : decode cX0_init 0 = .ok (.aload_n 0, 1) := by decide +kernel
theorem dX0_init_1 : decode cX0_init 1 = .ok (.invokespecial 3, 3) := by decide +kernel
theorem dX0_init_4 : decode cX0_init 4 = .ok (.return_, 1) := by decide +kernel
theorem dX0_become_0 : decode cX0_become 0 = .ok (.aload_n 0, 1) := by decide +kernel
theorem dX0_become_1 : decode cX0_become 1 = .ok (.iload_n 1, 1) := by decide +kernel
theorem dX0_become_2 : decode cX0_become 2 = .ok (.putfield 9, 3) := by decide +kernel
theorem dX0_become_5 : decode cX0_become 5 = .ok (.aload_n 0, 1) := by decide +kernel
theorem dX0_become_6 : decode cX0_become 6 = .ok (.iload_n 2, 1) := by decide +kernel
theorem dX0_become_7 : decode cX0_become 7 = .ok (.putfield 15, 3) := by decide +kernel
theorem dX0_become_10 : decode cX0_become 10 = .ok (.aload_n 0, 1) := by decide +kernel
theorem dX0_become_11 : decode cX0_become 11 = .ok (.iload_n 3, 1) := by decide +kernel
theorem dX0_become_12 : decode cX0_become 12 = .ok (.putfield 18, 3) := by decide +kernel
theorem dX0_become_15 : decode cX0_become 15 = .ok (.aload_n 0, 1) := by decide +kernel
theorem dX0_become_16 : decode cX0_become 16 = .ok (.iload 4, 2) := by decide +kernel
theorem dX0_become_18 : decode cX0_become 18 = .ok (.putfield 21, 3) := by decide +kernel
theorem dX0_become_21 : decode cX0_become 21 = .ok (.return_, 1) := by decide +kernel
theorem dX0_trait_0 : decode cX0_trait 0 = .ok (.iload_n 1, 1) := by decide +kernel
theorem dX0_trait_1 : decode cX0_trait 1 = .ok (.tableswitch 51 0 3 #[31, 36, 41, 46], 31) := by decide +kernel
theorem dX0_trait_32 : decode cX0_trait 32 = .ok (.aload_n 0, 1) := by decide +kernel
theorem dX0_trait_33 : decode cX0_trait 33 = .ok (.getfield 9, 3) := by decide +kernel
theorem dX0_trait_36 : decode cX0_trait 36 = .ok (.ireturn, 1) := by decide +kernel
theorem dX0_trait_37 : decode cX0_trait 37 = .ok (.aload_n 0, 1) := by decide +kernel
theorem dX0_trait_38 : decode cX0_trait 38 = .ok (.getfield 15, 3) := by decide +kernel
theorem dX0_trait_41 : decode cX0_trait 41 = .ok (.ireturn, 1) := by decide +kernel
theorem dX0_trait_42 : decode cX0_trait 42 = .ok (.aload_n 0, 1) := by decide +kernel
theorem dX0_trait_43 : decode cX0_trait 43 = .ok (.getfield 18, 3) := by decide +kernel
theorem dX0_trait_46 : decode cX0_trait 46 = .ok (.ireturn, 1) := by decide +kernel
theorem dX0_trait_47 : decode cX0_trait 47 = .ok (.aload_n 0, 1) := by decide +kernel
theorem dX0_trait_48 : decode cX0_trait 48 = .ok (.getfield 21, 3) := by decide +kernel
theorem dX0_trait_51 : decode cX0_trait 51 = .ok (.ireturn, 1) := by decide +kernel
theorem dX0_trait_52 : decode cX0_trait 52 = .ok (.aload_n 0, 1) := by decide +kernel
theorem dX0_trait_53 : decode cX0_trait 53 = .ok (.invokevirtual 24, 3) := by decide +kernel
theorem dX0_trait_56 : decode cX0_trait 56 = .ok (.ireturn, 1) := by decide +kernel
theorem dX0_change_0 : decode cX0_change 0 = .ok (.iload_n 1, 1) := by decide +kernel
theorem dX0_change_1 : decode cX0_change 1 = .ok (.lookupswitch 43 #[(1, 27), (2, 35)], 27) := by decide +kernel
theorem dX0_change_28 : decode cX0_change 28 = .ok (.aload_n 0, 1) := by decide +kernel
theorem dX0_change_29 : decode cX0_change 29 = .ok (.iload_n 2, 1) := by decide +kernel
theorem dX0_change_30 : decode cX0_change 30 = .ok (.putfield 15, 3) := by decide +kernel
theorem dX0_change_33 : decode cX0_change 33 = .ok (.goto 16, 3) := by decide +kernel
theorem dX0_change_36 : decode cX0_change 36 = .ok (.aload_n 0, 1) := by decide +kernel
theorem dX0_change_37 : decode cX0_change 37 = .ok (.iload_n 2, 1) := by decide +kernel
theorem dX0_change_38 : decode cX0_change 38 = .ok (.putfield 18, 3) := by decide +kernel
theorem dX0_change_41 : decode cX0_change 41 = .ok (.goto 8, 3) := by decide +kernel
theorem dX0_change_44 : decode cX0_change 44 = .ok (.aload_n 0, 1) := by decide +kernel
theorem dX0_change_45 : decode cX0_change 45 = .ok (.iload_n 2, 1) := by decide +kernel
theorem dX0_change_46 : decode cX0_change 46 = .ok (.putfield 21, 3) := by decide +kernel
theorem dX0_change_49 : decode cX0_change 49 = .ok (.return_, 1) := by decide +kernel
theorem dX0_brings_0 : decode cX0_brings 0 = .ok (.aload_n 0, 1) := by decide +kernel
theorem dX0_brings_1 : decode cX0_brings 1 = .ok (.getfield 9, 3) := by decide +kernel
theorem dX0_brings_4 : decode cX0_brings 4 = .ok (.iconst 1, 1) := by decide +kernel
theorem dX0_brings_5 : decode cX0_brings 5 = .ok (.if_icmp .eq 11, 3) := by decide +kernel
theorem dX0_brings_8 : decode cX0_brings 8 = .ok (.aload_n 0, 1) := by decide +kernel
theorem dX0_brings_9 : decode cX0_brings 9 = .ok (.getfield 9, 3) := by decide +kernel
theorem dX0_brings_12 : decode cX0_brings 12 = .ok (.iconst 3, 1) := by decide +kernel
theorem dX0_brings_13 : decode cX0_brings 13 = .ok (.if_icmp .ne 13, 3) := by decide +kernel
theorem dX0_brings_16 : decode cX0_brings 16 = .ok (.bipush 10, 2) := by decide +kernel
theorem dX0_brings_18 : decode cX0_brings 18 = .ok (.aload_n 0, 1) := by decide +kernel
theorem dX0_brings_19 : decode cX0_brings 19 = .ok (.getfield 15, 3) := by decide +kernel
theorem dX0_brings_22 : decode cX0_brings 22 = .ok (.isub, 1) := by decide +kernel
theorem dX0_brings_23 : decode cX0_brings 23 = .ok (.goto 7, 3) := by decide +kernel
theorem dX0_brings_26 : decode cX0_brings 26 = .ok (.aload_n 0, 1) := by decide +kernel
theorem dX0_brings_27 : decode cX0_brings 27 = .ok (.getfield 15, 3) := by decide +kernel
theorem dX0_brings_30 : decode cX0_brings 30 = .ok (.ireturn, 1) := by decide +kernel
theorem dX0_isMonk_0 : decode cX0_isMonk 0 = .ok (.aload_n 0, 1) := by decide +kernel
theorem dX0_isMonk_1 : decode cX0_isMonk 1 = .ok (.getfield 9, 3) := by decide +kernel
theorem dX0_isMonk_4 : decode cX0_isMonk 4 = .ok (.iconst 2, 1) := by decide +kernel
theorem dX0_isMonk_5 : decode cX0_isMonk 5 = .ok (.if_icmp .ne 7, 3) := by decide +kernel
theorem dX0_isMonk_8 : decode cX0_isMonk 8 = .ok (.iconst 1, 1) := by decide +kernel
theorem dX0_isMonk_9 : decode cX0_isMonk 9 = .ok (.goto 4, 3) := by decide +kernel
theorem dX0_isMonk_12 : decode cX0_isMonk 12 = .ok (.iconst 0, 1) := by decide +kernel
theorem dX0_isMonk_13 : decode cX0_isMonk 13 = .ok (.ireturn, 1) := by decide +kernel
theorem dX0_fallOdds_0 : decode cX0_fallOdds 0 = .ok (.aload_n 0, 1) := by decide +kernel
theorem dX0_fallOdds_1 : decode cX0_fallOdds 1 = .ok (.getfield 9, 3) := by decide +kernel
theorem dX0_fallOdds_4 : decode cX0_fallOdds 4 = .ok (.iconst 3, 1) := by decide +kernel
theorem dX0_fallOdds_5 : decode cX0_fallOdds 5 = .ok (.if_icmp .ne 7, 3) := by decide +kernel
theorem dX0_fallOdds_8 : decode cX0_fallOdds 8 = .ok (.iconst 0, 1) := by decide +kernel
theorem dX0_fallOdds_9 : decode cX0_fallOdds 9 = .ok (.goto 7, 3) := by decide +kernel
theorem dX0_fallOdds_12 : decode cX0_fallOdds 12 = .ok (.aload_n 0, 1) := by decide +kernel
theorem dX0_fallOdds_13 : decode cX0_fallOdds 13 = .ok (.getfield 21, 3) := by decide +kernel
theorem dX0_fallOdds_16 : decode cX0_fallOdds 16 = .ok (.ireturn, 1) := by decide +kernel
theorem dX7_init_0 : decode cX7_init 0 = .ok (.aload_n 0, 1) := by decide +kernel
theorem dX7_init_1 : decode cX7_init 1 = .ok (.invokespecial 3, 3) := by decide +kernel
theorem dX7_init_4 : decode cX7_init 4 = .ok (.return_, 1) := by decide +kernel
theorem dX7_begin_0 : decode cX7_begin 0 = .ok (.aload_n 0, 1) := by decide +kernel
theorem dX7_begin_1 : decode cX7_begin 1 = .ok (.iload_n 1, 1) := by decide +kernel
theorem dX7_begin_2 : decode cX7_begin 2 = .ok (.putfield 9, 3) := by decide +kernel
theorem dX7_begin_5 : decode cX7_begin 5 = .ok (.aload_n 0, 1) := by decide +kernel
theorem dX7_begin_6 : decode cX7_begin 6 = .ok (.iconst 5, 1) := by decide +kernel
theorem dX7_begin_7 : decode cX7_begin 7 = .ok (.putfield 15, 3) := by decide +kernel
theorem dX7_begin_10 : decode cX7_begin 10 = .ok (.aload_n 0, 1) := by decide +kernel
theorem dX7_begin_11 : decode cX7_begin 11 = .ok (.iload_n 2, 1) := by decide +kernel
theorem dX7_begin_12 : decode cX7_begin 12 = .ok (.putfield 18, 3) := by decide +kernel
theorem dX7_begin_15 : decode cX7_begin 15 = .ok (.aload_n 0, 1) := by decide +kernel
theorem dX7_begin_16 : decode cX7_begin 16 = .ok (.iload_n 3, 1) := by decide +kernel
theorem dX7_begin_17 : decode cX7_begin 17 = .ok (.putfield 21, 3) := by decide +kernel
theorem dX7_begin_20 : decode cX7_begin 20 = .ok (.aload_n 0, 1) := by decide +kernel
theorem dX7_begin_21 : decode cX7_begin 21 = .ok (.iconst 0, 1) := by decide +kernel
theorem dX7_begin_22 : decode cX7_begin 22 = .ok (.putfield 24, 3) := by decide +kernel
theorem dX7_begin_25 : decode cX7_begin 25 = .ok (.aload_n 0, 1) := by decide +kernel
theorem dX7_begin_26 : decode cX7_begin 26 = .ok (.iconst 0, 1) := by decide +kernel
theorem dX7_begin_27 : decode cX7_begin 27 = .ok (.putfield 28, 3) := by decide +kernel
theorem dX7_begin_30 : decode cX7_begin 30 = .ok (.aload_n 0, 1) := by decide +kernel
theorem dX7_begin_31 : decode cX7_begin 31 = .ok (.iconst 0, 1) := by decide +kernel
theorem dX7_begin_32 : decode cX7_begin 32 = .ok (.putfield 31, 3) := by decide +kernel
theorem dX7_begin_35 : decode cX7_begin 35 = .ok (.return_, 1) := by decide +kernel
theorem dX7_becomeCuttingOf_0 : decode cX7_becomeCuttingOf 0 = .ok (.aload_n 0, 1) := by decide +kernel
theorem dX7_becomeCuttingOf_1 : decode cX7_becomeCuttingOf 1 = .ok (.aload_n 1, 1) := by decide +kernel
theorem dX7_becomeCuttingOf_2 : decode cX7_becomeCuttingOf 2 = .ok (.getfield 9, 3) := by decide +kernel
theorem dX7_becomeCuttingOf_5 : decode cX7_becomeCuttingOf 5 = .ok (.aload_n 1, 1) := by decide +kernel
theorem dX7_becomeCuttingOf_6 : decode cX7_becomeCuttingOf 6 = .ok (.getfield 18, 3) := by decide +kernel
theorem dX7_becomeCuttingOf_9 : decode cX7_becomeCuttingOf 9 = .ok (.aload_n 1, 1) := by decide +kernel
theorem dX7_becomeCuttingOf_10 : decode cX7_becomeCuttingOf 10 = .ok (.getfield 21, 3) := by decide +kernel
theorem dX7_becomeCuttingOf_13 : decode cX7_becomeCuttingOf 13 = .ok (.invokevirtual 34, 3) := by decide +kernel
theorem dX7_becomeCuttingOf_16 : decode cX7_becomeCuttingOf 16 = .ok (.aload_n 0, 1) := by decide +kernel
theorem dX7_becomeCuttingOf_17 : decode cX7_becomeCuttingOf 17 = .ok (.aload_n 1, 1) := by decide +kernel
theorem dX7_becomeCuttingOf_18 : decode cX7_becomeCuttingOf 18 = .ok (.getfield 24, 3) := by decide +kernel
theorem dX7_becomeCuttingOf_21 : decode cX7_becomeCuttingOf 21 = .ok (.putfield 24, 3) := by decide +kernel
theorem dX7_becomeCuttingOf_24 : decode cX7_becomeCuttingOf 24 = .ok (.aload_n 0, 1) := by decide +kernel
theorem dX7_becomeCuttingOf_25 : decode cX7_becomeCuttingOf 25 = .ok (.aload_n 1, 1) := by decide +kernel
theorem dX7_becomeCuttingOf_26 : decode cX7_becomeCuttingOf 26 = .ok (.getfield 28, 3) := by decide +kernel
theorem dX7_becomeCuttingOf_29 : decode cX7_becomeCuttingOf 29 = .ok (.putfield 28, 3) := by decide +kernel
theorem dX7_becomeCuttingOf_32 : decode cX7_becomeCuttingOf 32 = .ok (.return_, 1) := by decide +kernel
theorem dX7_become_0 : decode cX7_become 0 = .ok (.aload_n 0, 1) := by decide +kernel
theorem dX7_become_1 : decode cX7_become 1 = .ok (.aload_n 1, 1) := by decide +kernel
theorem dX7_become_2 : decode cX7_become 2 = .ok (.invokevirtual 38, 3) := by decide +kernel
theorem dX7_become_5 : decode cX7_become 5 = .ok (.aload_n 0, 1) := by decide +kernel
theorem dX7_become_6 : decode cX7_become 6 = .ok (.aload_n 1, 1) := by decide +kernel
theorem dX7_become_7 : decode cX7_become 7 = .ok (.getfield 15, 3) := by decide +kernel
theorem dX7_become_10 : decode cX7_become 10 = .ok (.putfield 15, 3) := by decide +kernel
theorem dX7_become_13 : decode cX7_become 13 = .ok (.aload_n 0, 1) := by decide +kernel
theorem dX7_become_14 : decode cX7_become 14 = .ok (.aload_n 1, 1) := by decide +kernel
theorem dX7_become_15 : decode cX7_become 15 = .ok (.getfield 31, 3) := by decide +kernel
theorem dX7_become_18 : decode cX7_become 18 = .ok (.putfield 31, 3) := by decide +kernel
theorem dX7_become_21 : decode cX7_become 21 = .ok (.return_, 1) := by decide +kernel
theorem dX7_mark_0 : decode cX7_mark 0 = .ok (.iload_n 1, 1) := by decide +kernel
theorem dX7_mark_1 : decode cX7_mark 1 = .ok (.tableswitch 85 0 5 #[39, 44, 49, 54, 59, 72], 39) := by decide +kernel
theorem dX7_mark_40 : decode cX7_mark 40 = .ok (.aload_n 0, 1) := by decide +kernel
theorem dX7_mark_41 : decode cX7_mark 41 = .ok (.getfield 9, 3) := by decide +kernel
theorem dX7_mark_44 : decode cX7_mark 44 = .ok (.ireturn, 1) := by decide +kernel
theorem dX7_mark_45 : decode cX7_mark 45 = .ok (.aload_n 0, 1) := by decide +kernel
theorem dX7_mark_46 : decode cX7_mark 46 = .ok (.getfield 15, 3) := by decide +kernel
theorem dX7_mark_49 : decode cX7_mark 49 = .ok (.ireturn, 1) := by decide +kernel
theorem dX7_mark_50 : decode cX7_mark 50 = .ok (.aload_n 0, 1) := by decide +kernel
theorem dX7_mark_51 : decode cX7_mark 51 = .ok (.getfield 18, 3) := by decide +kernel
theorem dX7_mark_54 : decode cX7_mark 54 = .ok (.ireturn, 1) := by decide +kernel
theorem dX7_mark_55 : decode cX7_mark 55 = .ok (.aload_n 0, 1) := by decide +kernel
theorem dX7_mark_56 : decode cX7_mark 56 = .ok (.getfield 21, 3) := by decide +kernel
theorem dX7_mark_59 : decode cX7_mark 59 = .ok (.ireturn, 1) := by decide +kernel
theorem dX7_mark_60 : decode cX7_mark 60 = .ok (.aload_n 0, 1) := by decide +kernel
theorem dX7_mark_61 : decode cX7_mark 61 = .ok (.getfield 24, 3) := by decide +kernel
theorem dX7_mark_64 : decode cX7_mark 64 = .ok (.ifCond .eq 7, 3) := by decide +kernel
theorem dX7_mark_67 : decode cX7_mark 67 = .ok (.iconst 1, 1) := by decide +kernel
theorem dX7_mark_68 : decode cX7_mark 68 = .ok (.goto 4, 3) := by decide +kernel
theorem dX7_mark_71 : decode cX7_mark 71 = .ok (.iconst 0, 1) := by decide +kernel
theorem dX7_mark_72 : decode cX7_mark 72 = .ok (.ireturn, 1) := by decide +kernel
theorem dX7_mark_73 : decode cX7_mark 73 = .ok (.aload_n 0, 1) := by decide +kernel
theorem dX7_mark_74 : decode cX7_mark 74 = .ok (.getfield 28, 3) := by decide +kernel
theorem dX7_mark_77 : decode cX7_mark 77 = .ok (.ifCond .eq 7, 3) := by decide +kernel
theorem dX7_mark_80 : decode cX7_mark 80 = .ok (.iconst 1, 1) := by decide +kernel
theorem dX7_mark_81 : decode cX7_mark 81 = .ok (.goto 4, 3) := by decide +kernel
theorem dX7_mark_84 : decode cX7_mark 84 = .ok (.iconst 0, 1) := by decide +kernel
theorem dX7_mark_85 : decode cX7_mark 85 = .ok (.ireturn, 1) := by decide +kernel
theorem dX7_mark_86 : decode cX7_mark 86 = .ok (.aload_n 0, 1) := by decide +kernel
theorem dX7_mark_87 : decode cX7_mark 87 = .ok (.getfield 31, 3) := by decide +kernel
theorem dX7_mark_90 : decode cX7_mark 90 = .ok (.ireturn, 1) := by decide +kernel
theorem dX7_passYear_0 : decode cX7_passYear 0 = .ok (.aload_n 0, 1) := by decide +kernel
theorem dX7_passYear_1 : decode cX7_passYear 1 = .ok (.aload_n 0, 1) := by decide +kernel
theorem dX7_passYear_2 : decode cX7_passYear 2 = .ok (.getfield 18, 3) := by decide +kernel
theorem dX7_passYear_5 : decode cX7_passYear 5 = .ok (.putfield 21, 3) := by decide +kernel
theorem dX7_passYear_8 : decode cX7_passYear 8 = .ok (.aload_n 0, 1) := by decide +kernel
theorem dX7_passYear_9 : decode cX7_passYear 9 = .ok (.aload_n 0, 1) := by decide +kernel
theorem dX7_passYear_10 : decode cX7_passYear 10 = .ok (.getfield 24, 3) := by decide +kernel
theorem dX7_passYear_13 : decode cX7_passYear 13 = .ok (.putfield 28, 3) := by decide +kernel
theorem dX7_passYear_16 : decode cX7_passYear 16 = .ok (.aload_n 0, 1) := by decide +kernel
theorem dX7_passYear_17 : decode cX7_passYear 17 = .ok (.aload_n 0, 1) := by decide +kernel
theorem dX7_passYear_18 : decode cX7_passYear 18 = .ok (.getfield 15, 3) := by decide +kernel
theorem dX7_passYear_21 : decode cX7_passYear 21 = .ok (.putfield 18, 3) := by decide +kernel
theorem dX7_passYear_24 : decode cX7_passYear 24 = .ok (.aload_n 0, 1) := by decide +kernel
theorem dX7_passYear_25 : decode cX7_passYear 25 = .ok (.iload_n 1, 1) := by decide +kernel
theorem dX7_passYear_26 : decode cX7_passYear 26 = .ok (.putfield 24, 3) := by decide +kernel
theorem dX7_passYear_29 : decode cX7_passYear 29 = .ok (.aload_n 0, 1) := by decide +kernel
theorem dX7_passYear_30 : decode cX7_passYear 30 = .ok (.iconst 5, 1) := by decide +kernel
theorem dX7_passYear_31 : decode cX7_passYear 31 = .ok (.putfield 15, 3) := by decide +kernel
theorem dX7_passYear_34 : decode cX7_passYear 34 = .ok (.return_, 1) := by decide +kernel
theorem dX7_shareOfLast_0 : decode cX7_shareOfLast 0 = .ok (.iload_n 1, 1) := by decide +kernel
theorem dX7_shareOfLast_1 : decode cX7_shareOfLast 1 = .ok (.ifCond .eq 7, 3) := by decide +kernel
theorem dX7_shareOfLast_4 : decode cX7_shareOfLast 4 = .ok (.iconst 1, 1) := by decide +kernel
theorem dX7_shareOfLast_5 : decode cX7_shareOfLast 5 = .ok (.goto 4, 3) := by decide +kernel
theorem dX7_shareOfLast_8 : decode cX7_shareOfLast 8 = .ok (.iconst 2, 1) := by decide +kernel
theorem dX7_shareOfLast_9 : decode cX7_shareOfLast 9 = .ok (.istore_n 2, 1) := by decide +kernel
theorem dX7_shareOfLast_10 : decode cX7_shareOfLast 10 = .ok (.iload_n 0, 1) := by decide +kernel
theorem dX7_shareOfLast_11 : decode cX7_shareOfLast 11 = .ok (.tableswitch 35 1 3 #[25, 29, 33], 25) := by decide +kernel
theorem dX7_shareOfLast_36 : decode cX7_shareOfLast 36 = .ok (.iload_n 2, 1) := by decide +kernel
theorem dX7_shareOfLast_37 : decode cX7_shareOfLast 37 = .ok (.iconst 2, 1) := by decide +kernel
theorem dX7_shareOfLast_38 : decode cX7_shareOfLast 38 = .ok (.idiv, 1) := by decide +kernel
theorem dX7_shareOfLast_39 : decode cX7_shareOfLast 39 = .ok (.ireturn, 1) := by decide +kernel
theorem dX7_shareOfLast_40 : decode cX7_shareOfLast 40 = .ok (.iload_n 2, 1) := by decide +kernel
theorem dX7_shareOfLast_41 : decode cX7_shareOfLast 41 = .ok (.iconst 2, 1) := by decide +kernel
theorem dX7_shareOfLast_42 : decode cX7_shareOfLast 42 = .ok (.imul, 1) := by decide +kernel
theorem dX7_shareOfLast_43 : decode cX7_shareOfLast 43 = .ok (.ireturn, 1) := by decide +kernel
theorem dX7_shareOfLast_44 : decode cX7_shareOfLast 44 = .ok (.iconst 0, 1) := by decide +kernel
theorem dX7_shareOfLast_45 : decode cX7_shareOfLast 45 = .ok (.ireturn, 1) := by decide +kernel
theorem dX7_shareOfLast_46 : decode cX7_shareOfLast 46 = .ok (.iload_n 2, 1) := by decide +kernel
theorem dX7_shareOfLast_47 : decode cX7_shareOfLast 47 = .ok (.ireturn, 1) := by decide +kernel
theorem dX7_shareOfBefore_0 : decode cX7_shareOfBefore 0 = .ok (.iload_n 1, 1) := by decide +kernel
theorem dX7_shareOfBefore_1 : decode cX7_shareOfBefore 1 = .ok (.ifCond .eq 7, 3) := by decide +kernel
theorem dX7_shareOfBefore_4 : decode cX7_shareOfBefore 4 = .ok (.iconst 1, 1) := by decide +kernel
theorem dX7_shareOfBefore_5 : decode cX7_shareOfBefore 5 = .ok (.goto 4, 3) := by decide +kernel
theorem dX7_shareOfBefore_8 : decode cX7_shareOfBefore 8 = .ok (.iconst 2, 1) := by decide +kernel
theorem dX7_shareOfBefore_9 : decode cX7_shareOfBefore 9 = .ok (.istore_n 2, 1) := by decide +kernel
theorem dX7_shareOfBefore_10 : decode cX7_shareOfBefore 10 = .ok (.iload_n 0, 1) := by decide +kernel
theorem dX7_shareOfBefore_11 : decode cX7_shareOfBefore 11 = .ok (.lookupswitch 31 #[(1, 25), (3, 29)], 25) := by decide +kernel
theorem dX7_shareOfBefore_36 : decode cX7_shareOfBefore 36 = .ok (.iload_n 2, 1) := by decide +kernel
theorem dX7_shareOfBefore_37 : decode cX7_shareOfBefore 37 = .ok (.iconst 2, 1) := by decide +kernel
theorem dX7_shareOfBefore_38 : decode cX7_shareOfBefore 38 = .ok (.idiv, 1) := by decide +kernel
theorem dX7_shareOfBefore_39 : decode cX7_shareOfBefore 39 = .ok (.ireturn, 1) := by decide +kernel
theorem dX7_shareOfBefore_40 : decode cX7_shareOfBefore 40 = .ok (.iload_n 2, 1) := by decide +kernel
theorem dX7_shareOfBefore_41 : decode cX7_shareOfBefore 41 = .ok (.ireturn, 1) := by decide +kernel
theorem dX7_shareOfBefore_42 : decode cX7_shareOfBefore 42 = .ok (.iconst 0, 1) := by decide +kernel
theorem dX7_shareOfBefore_43 : decode cX7_shareOfBefore 43 = .ok (.ireturn, 1) := by decide +kernel
theorem dX5_init_0 : decode cX5_init 0 = .ok (.aload_n 0, 1) := by decide +kernel
theorem dX5_init_1 : decode cX5_init 1 = .ok (.invokespecial 3, 3) := by decide +kernel
theorem dX5_init_4 : decode cX5_init 4 = .ok (.aload_n 0, 1) := by decide +kernel
theorem dX5_init_5 : decode cX5_init 5 = .ok (.bipush 16, 2) := by decide +kernel
theorem dX5_init_7 : decode cX5_init 7 = .ok (.newarray .long, 2) := by decide +kernel
theorem dX5_init_9 : decode cX5_init 9 = .ok (.putfield 9, 3) := by decide +kernel
theorem dX5_init_12 : decode cX5_init 12 = .ok (.return_, 1) := by decide +kernel
theorem dX5_begin_0 : decode cX5_begin 0 = .ok (.aload_n 0, 1) := by decide +kernel
theorem dX5_begin_1 : decode cX5_begin 1 = .ok (.getfield 9, 3) := by decide +kernel
theorem dX5_begin_4 : decode cX5_begin 4 = .ok (.lconst 0, 1) := by decide +kernel
theorem dX5_begin_5 : decode cX5_begin 5 = .ok (.invokestatic 15, 3) := by decide +kernel
theorem dX5_begin_8 : decode cX5_begin 8 = .ok (.aload_n 0, 1) := by decide +kernel
theorem dX5_begin_9 : decode cX5_begin 9 = .ok (.iload_n 1, 1) := by decide +kernel
theorem dX5_begin_10 : decode cX5_begin 10 = .ok (.putfield 21, 3) := by decide +kernel
theorem dX5_begin_13 : decode cX5_begin 13 = .ok (.aload_n 0, 1) := by decide +kernel
theorem dX5_begin_14 : decode cX5_begin 14 = .ok (.iload_n 2, 1) := by decide +kernel
theorem dX5_begin_15 : decode cX5_begin 15 = .ok (.putfield 25, 3) := by decide +kernel
theorem dX5_begin_18 : decode cX5_begin 18 = .ok (.aload_n 0, 1) := by decide +kernel
theorem dX5_begin_19 : decode cX5_begin 19 = .ok (.iconst 1, 1) := by decide +kernel
theorem dX5_begin_20 : decode cX5_begin 20 = .ok (.putfield 28, 3) := by decide +kernel
theorem dX5_begin_23 : decode cX5_begin 23 = .ok (.return_, 1) := by decide +kernel
theorem dX5_hasItems_0 : decode cX5_hasItems 0 = .ok (.iload_n 2, 1) := by decide +kernel
theorem dX5_hasItems_1 : decode cX5_hasItems 1 = .ok (.ifCond .lt 29, 3) := by decide +kernel
theorem dX5_hasItems_4 : decode cX5_hasItems 4 = .ok (.iload_n 2, 1) := by decide +kernel
theorem dX5_hasItems_5 : decode cX5_hasItems 5 = .ok (.aload_n 0, 1) := by decide +kernel
theorem dX5_hasItems_6 : decode cX5_hasItems 6 = .ok (.getfield 25, 3) := by decide +kernel
theorem dX5_hasItems_9 : decode cX5_hasItems 9 = .ok (.if_icmp .gt 21, 3) := by decide +kernel
theorem dX5_hasItems_12 : decode cX5_hasItems 12 = .ok (.iload_n 1, 1) := by decide +kernel
theorem dX5_hasItems_13 : decode cX5_hasItems 13 = .ok (.iconst 0, 1) := by decide +kernel
theorem dX5_hasItems_14 : decode cX5_hasItems 14 = .ok (.aload_n 0, 1) := by decide +kernel
theorem dX5_hasItems_15 : decode cX5_hasItems 15 = .ok (.getfield 25, 3) := by decide +kernel
theorem dX5_hasItems_18 : decode cX5_hasItems 18 = .ok (.iload_n 2, 1) := by decide +kernel
theorem dX5_hasItems_19 : decode cX5_hasItems 19 = .ok (.isub, 1) := by decide +kernel
theorem dX5_hasItems_20 : decode cX5_hasItems 20 = .ok (.invokestatic 32, 3) := by decide +kernel
theorem dX5_hasItems_23 : decode cX5_hasItems 23 = .ok (.ifCond .eq 7, 3) := by decide +kernel
theorem dX5_hasItems_26 : decode cX5_hasItems 26 = .ok (.iconst 1, 1) := by decide +kernel
theorem dX5_hasItems_27 : decode cX5_hasItems 27 = .ok (.goto 4, 3) := by decide +kernel
theorem dX5_hasItems_30 : decode cX5_hasItems 30 = .ok (.iconst 0, 1) := by decide +kernel
theorem dX5_hasItems_31 : decode cX5_hasItems 31 = .ok (.ireturn, 1) := by decide +kernel
theorem dX5_put_0 : decode cX5_put 0 = .ok (.aload_n 0, 1) := by decide +kernel
theorem dX5_put_1 : decode cX5_put 1 = .ok (.getfield 21, 3) := by decide +kernel
theorem dX5_put_4 : decode cX5_put 4 = .ok (.tableswitch 66 0 2 #[28, 41, 54], 28) := by decide +kernel
theorem dX5_put_32 : decode cX5_put 32 = .ok (.aload_n 0, 1) := by decide +kernel
theorem dX5_put_33 : decode cX5_put 33 = .ok (.getfield 9, 3) := by decide +kernel
theorem dX5_put_36 : decode cX5_put 36 = .ok (.iload_n 1, 1) := by decide +kernel
theorem dX5_put_37 : decode cX5_put 37 = .ok (.lload_n 2, 1) := by decide +kernel
theorem dX5_put_38 : decode cX5_put 38 = .ok (.l2i, 1) := by decide +kernel
theorem dX5_put_39 : decode cX5_put 39 = .ok (.i2b, 1) := by decide +kernel
theorem dX5_put_40 : decode cX5_put 40 = .ok (.i2l, 1) := by decide +kernel
theorem dX5_put_41 : decode cX5_put 41 = .ok (.lastore, 1) := by decide +kernel
theorem dX5_put_42 : decode cX5_put 42 = .ok (.goto 35, 3) := by decide +kernel
theorem dX5_put_45 : decode cX5_put 45 = .ok (.aload_n 0, 1) := by decide +kernel
theorem dX5_put_46 : decode cX5_put 46 = .ok (.getfield 9, 3) := by decide +kernel
theorem dX5_put_49 : decode cX5_put 49 = .ok (.iload_n 1, 1) := by decide +kernel
theorem dX5_put_50 : decode cX5_put 50 = .ok (.lload_n 2, 1) := by decide +kernel
theorem dX5_put_51 : decode cX5_put 51 = .ok (.l2i, 1) := by decide +kernel
theorem dX5_put_52 : decode cX5_put 52 = .ok (.i2s, 1) := by decide +kernel
theorem dX5_put_53 : decode cX5_put 53 = .ok (.i2l, 1) := by decide +kernel
theorem dX5_put_54 : decode cX5_put 54 = .ok (.lastore, 1) := by decide +kernel
theorem dX5_put_55 : decode cX5_put 55 = .ok (.goto 22, 3) := by decide +kernel
theorem dX5_put_58 : decode cX5_put 58 = .ok (.aload_n 0, 1) := by decide +kernel
theorem dX5_put_59 : decode cX5_put 59 = .ok (.getfield 9, 3) := by decide +kernel
theorem dX5_put_62 : decode cX5_put 62 = .ok (.iload_n 1, 1) := by decide +kernel
theorem dX5_put_63 : decode cX5_put 63 = .ok (.lload_n 2, 1) := by decide +kernel
theorem dX5_put_64 : decode cX5_put 64 = .ok (.l2i, 1) := by decide +kernel
theorem dX5_put_65 : decode cX5_put 65 = .ok (.i2l, 1) := by decide +kernel
theorem dX5_put_66 : decode cX5_put 66 = .ok (.lastore, 1) := by decide +kernel
theorem dX5_put_67 : decode cX5_put 67 = .ok (.goto 10, 3) := by decide +kernel
theorem dX5_put_70 : decode cX5_put 70 = .ok (.aload_n 0, 1) := by decide +kernel
theorem dX5_put_71 : decode cX5_put 71 = .ok (.getfield 9, 3) := by decide +kernel
theorem dX5_put_74 : decode cX5_put 74 = .ok (.iload_n 1, 1) := by decide +kernel
theorem dX5_put_75 : decode cX5_put 75 = .ok (.lload_n 2, 1) := by decide +kernel
theorem dX5_put_76 : decode cX5_put 76 = .ok (.lastore, 1) := by decide +kernel
theorem dX5_put_77 : decode cX5_put 77 = .ok (.return_, 1) := by decide +kernel
theorem dX5_near_0 : decode cX5_near 0 = .ok (.aload_n 0, 1) := by decide +kernel
theorem dX5_near_1 : decode cX5_near 1 = .ok (.getfield 9, 3) := by decide +kernel
theorem dX5_near_4 : decode cX5_near 4 = .ok (.iload_n 1, 1) := by decide +kernel
theorem dX5_near_5 : decode cX5_near 5 = .ok (.laload, 1) := by decide +kernel
theorem dX5_near_6 : decode cX5_near 6 = .ok (.lstore_n 3, 1) := by decide +kernel
theorem dX5_near_7 : decode cX5_near 7 = .ok (.lload_n 3, 1) := by decide +kernel
theorem dX5_near_8 : decode cX5_near 8 = .ok (.lconst 0, 1) := by decide +kernel
theorem dX5_near_9 : decode cX5_near 9 = .ok (.lcmp, 1) := by decide +kernel
theorem dX5_near_10 : decode cX5_near 10 = .ok (.ifCond .ge 7, 3) := by decide +kernel
theorem dX5_near_13 : decode cX5_near 13 = .ok (.iconst (-1), 1) := by decide +kernel
theorem dX5_near_14 : decode cX5_near 14 = .ok (.goto 16, 3) := by decide +kernel
theorem dX5_near_17 : decode cX5_near 17 = .ok (.lload_n 3, 1) := by decide +kernel
theorem dX5_near_18 : decode cX5_near 18 = .ok (.iload_n 2, 1) := by decide +kernel
theorem dX5_near_19 : decode cX5_near 19 = .ok (.i2l, 1) := by decide +kernel
theorem dX5_near_20 : decode cX5_near 20 = .ok (.lcmp, 1) := by decide +kernel
theorem dX5_near_21 : decode cX5_near 21 = .ok (.ifCond .le 7, 3) := by decide +kernel
theorem dX5_near_24 : decode cX5_near 24 = .ok (.iload_n 2, 1) := by decide +kernel
theorem dX5_near_25 : decode cX5_near 25 = .ok (.goto 5, 3) := by decide +kernel
theorem dX5_near_28 : decode cX5_near 28 = .ok (.lload_n 3, 1) := by decide +kernel
theorem dX5_near_29 : decode cX5_near 29 = .ok (.l2i, 1) := by decide +kernel
theorem dX5_near_30 : decode cX5_near 30 = .ok (.ireturn, 1) := by decide +kernel
theorem dX6_init_0 : decode cX6_init 0 = .ok (.aload_n 0, 1) := by decide +kernel
theorem dX6_init_1 : decode cX6_init 1 = .ok (.invokespecial 3, 3) := by decide +kernel
theorem dX6_init_4 : decode cX6_init 4 = .ok (.aload_n 0, 1) := by decide +kernel
theorem dX6_init_5 : decode cX6_init 5 = .ok (.bipush 60, 2) := by decide +kernel
theorem dX6_init_7 : decode cX6_init 7 = .ok (.newarray .int, 2) := by decide +kernel
theorem dX6_init_9 : decode cX6_init 9 = .ok (.putfield 9, 3) := by decide +kernel
theorem dX6_init_12 : decode cX6_init 12 = .ok (.aload_n 0, 1) := by decide +kernel
theorem dX6_init_13 : decode cX6_init 13 = .ok (.bipush 6, 2) := by decide +kernel
theorem dX6_init_15 : decode cX6_init 15 = .ok (.newarray .int, 2) := by decide +kernel
theorem dX6_init_17 : decode cX6_init 17 = .ok (.putfield 15, 3) := by decide +kernel
theorem dX6_init_20 : decode cX6_init 20 = .ok (.aload_n 0, 1) := by decide +kernel
theorem dX6_init_21 : decode cX6_init 21 = .ok (.bipush 6, 2) := by decide +kernel
theorem dX6_init_23 : decode cX6_init 23 = .ok (.newarray .int, 2) := by decide +kernel
theorem dX6_init_25 : decode cX6_init 25 = .ok (.putfield 18, 3) := by decide +kernel
theorem dX6_init_28 : decode cX6_init 28 = .ok (.aload_n 0, 1) := by decide +kernel
theorem dX6_init_29 : decode cX6_init 29 = .ok (.bipush 6, 2) := by decide +kernel
theorem dX6_init_31 : decode cX6_init 31 = .ok (.newarray .int, 2) := by decide +kernel
theorem dX6_init_33 : decode cX6_init 33 = .ok (.putfield 21, 3) := by decide +kernel
theorem dX6_init_36 : decode cX6_init 36 = .ok (.return_, 1) := by decide +kernel
theorem dX6_write_0 : decode cX6_write 0 = .ok (.aload_n 0, 1) := by decide +kernel
theorem dX6_write_1 : decode cX6_write 1 = .ok (.getfield 9, 3) := by decide +kernel
theorem dX6_write_4 : decode cX6_write 4 = .ok (.aload_n 0, 1) := by decide +kernel
theorem dX6_write_5 : decode cX6_write 5 = .ok (.getfield 24, 3) := by decide +kernel
theorem dX6_write_8 : decode cX6_write 8 = .ok (.iload_n 1, 1) := by decide +kernel
theorem dX6_write_9 : decode cX6_write 9 = .ok (.iastore, 1) := by decide +kernel
theorem dX6_write_10 : decode cX6_write 10 = .ok (.aload_n 0, 1) := by decide +kernel
theorem dX6_write_11 : decode cX6_write 11 = .ok (.dup, 1) := by decide +kernel
theorem dX6_write_12 : decode cX6_write 12 = .ok (.getfield 24, 3) := by decide +kernel
theorem dX6_write_15 : decode cX6_write 15 = .ok (.iconst 1, 1) := by decide +kernel
theorem dX6_write_16 : decode cX6_write 16 = .ok (.iadd, 1) := by decide +kernel
theorem dX6_write_17 : decode cX6_write 17 = .ok (.putfield 24, 3) := by decide +kernel
theorem dX6_write_20 : decode cX6_write 20 = .ok (.aload_n 0, 1) := by decide +kernel
theorem dX6_write_21 : decode cX6_write 21 = .ok (.getfield 24, 3) := by decide +kernel
theorem dX6_write_24 : decode cX6_write 24 = .ok (.ireturn, 1) := by decide +kernel
theorem dX6_parse_0 : decode cX6_parse 0 = .ok (.aload_n 0, 1) := by decide +kernel
theorem dX6_parse_1 : decode cX6_parse 1 = .ok (.iconst 0, 1) := by decide +kernel
theorem dX6_parse_2 : decode cX6_parse 2 = .ok (.putfield 28, 3) := by decide +kernel
theorem dX6_parse_5 : decode cX6_parse 5 = .ok (.iconst 1, 1) := by decide +kernel
theorem dX6_parse_6 : decode cX6_parse 6 = .ok (.istore_n 2, 1) := by decide +kernel
theorem dX6_parse_7 : decode cX6_parse 7 = .ok (.iload_n 2, 1) := by decide +kernel
theorem dX6_parse_8 : decode cX6_parse 8 = .ok (.bipush 6, 2) := by decide +kernel
theorem dX6_parse_10 : decode cX6_parse 10 = .ok (.if_icmp .gt 63, 3) := by decide +kernel
theorem dX6_parse_13 : decode cX6_parse 13 = .ok (.aload_n 0, 1) := by decide +kernel
theorem dX6_parse_14 : decode cX6_parse 14 = .ok (.iload_n 2, 1) := by decide +kernel
theorem dX6_parse_15 : decode cX6_parse 15 = .ok (.iconst 1, 1) := by decide +kernel
theorem dX6_parse_16 : decode cX6_parse 16 = .ok (.isub, 1) := by decide +kernel
theorem dX6_parse_17 : decode cX6_parse 17 = .ok (.iload_n 1, 1) := by decide +kernel
theorem dX6_parse_18 : decode cX6_parse 18 = .ok (.invokevirtual 31, 3) := by decide +kernel
theorem dX6_parse_21 : decode cX6_parse 21 = .ok (.ifCond .eq 52, 3) := by decide +kernel
theorem dX6_parse_24 : decode cX6_parse 24 = .ok (.aload_n 0, 1) := by decide +kernel
theorem dX6_parse_25 : decode cX6_parse 25 = .ok (.invokevirtual 35, 3) := by decide +kernel
theorem dX6_parse_28 : decode cX6_parse 28 = .ok (.istore_n 3, 1) := by decide +kernel
theorem dX6_parse_29 : decode cX6_parse 29 = .ok (.aload_n 0, 1) := by decide +kernel
theorem dX6_parse_30 : decode cX6_parse 30 = .ok (.getfield 28, 3) := by decide +kernel
theorem dX6_parse_33 : decode cX6_parse 33 = .ok (.aload_n 0, 1) := by decide +kernel
theorem dX6_parse_34 : decode cX6_parse 34 = .ok (.getfield 24, 3) := by decide +kernel
theorem dX6_parse_37 : decode cX6_parse 37 = .ok (.if_icmp .ne 5, 3) := by decide +kernel
theorem dX6_parse_40 : decode cX6_parse 40 = .ok (.iload_n 2, 1) := by decide +kernel
theorem dX6_parse_41 : decode cX6_parse 41 = .ok (.ireturn, 1) := by decide +kernel
theorem dX6_parse_42 : decode cX6_parse 42 = .ok (.iload_n 3, 1) := by decide +kernel
theorem dX6_parse_43 : decode cX6_parse 43 = .ok (.bipush 44, 2) := by decide +kernel
theorem dX6_parse_45 : decode cX6_parse 45 = .ok (.if_icmp .ne 28, 3) := by decide +kernel
theorem dX6_parse_48 : decode cX6_parse 48 = .ok (.iload_n 2, 1) := by decide +kernel
theorem dX6_parse_49 : decode cX6_parse 49 = .ok (.bipush 6, 2) := by decide +kernel
theorem dX6_parse_51 : decode cX6_parse 51 = .ok (.if_icmp .ne 6, 3) := by decide +kernel
theorem dX6_parse_54 : decode cX6_parse 54 = .ok (.goto 19, 3) := by decide +kernel
theorem dX6_parse_57 : decode cX6_parse 57 = .ok (.aload_n 0, 1) := by decide +kernel
theorem dX6_parse_58 : decode cX6_parse 58 = .ok (.dup, 1) := by decide +kernel
theorem dX6_parse_59 : decode cX6_parse 59 = .ok (.getfield 28, 3) := by decide +kernel
theorem dX6_parse_62 : decode cX6_parse 62 = .ok (.iconst 1, 1) := by decide +kernel
theorem dX6_parse_63 : decode cX6_parse 63 = .ok (.iadd, 1) := by decide +kernel
theorem dX6_parse_64 : decode cX6_parse 64 = .ok (.putfield 28, 3) := by decide +kernel
theorem dX6_parse_67 : decode cX6_parse 67 = .ok (.iinc 2 1, 3) := by decide +kernel
theorem dX6_parse_70 : decode cX6_parse 70 = .ok (.goto (-63), 3) := by decide +kernel
theorem dX6_parse_73 : decode cX6_parse 73 = .ok (.bipush (-20), 2) := by decide +kernel
theorem dX6_parse_75 : decode cX6_parse 75 = .ok (.aload_n 0, 1) := by decide +kernel
theorem dX6_parse_76 : decode cX6_parse 76 = .ok (.getfield 28, 3) := by decide +kernel
theorem dX6_parse_79 : decode cX6_parse 79 = .ok (.isub, 1) := by decide +kernel
theorem dX6_parse_80 : decode cX6_parse 80 = .ok (.ireturn, 1) := by decide +kernel
theorem dX6_parseTree_0 : decode cX6_parseTree 0 = .ok (.ldc 39, 2) := by decide +kernel
theorem dX6_parseTree_2 : decode cX6_parseTree 2 = .ok (.aload_n 0, 1) := by decide +kernel
theorem dX6_parseTree_3 : decode cX6_parseTree 3 = .ok (.invokevirtual 35, 3) := by decide +kernel
theorem dX6_parseTree_6 : decode cX6_parseTree 6 = .ok (.i2c, 1) := by decide +kernel
theorem dX6_parseTree_7 : decode cX6_parseTree 7 = .ok (.invokevirtual 41, 3) := by decide +kernel
theorem dX6_parseTree_10 : decode cX6_parseTree 10 = .ok (.istore_n 3, 1) := by decide +kernel
theorem dX6_parseTree_11 : decode cX6_parseTree 11 = .ok (.iload_n 3, 1) := by decide +kernel
theorem dX6_parseTree_12 : decode cX6_parseTree 12 = .ok (.ifCond .ge 5, 3) := by decide +kernel
theorem dX6_parseTree_15 : decode cX6_parseTree 15 = .ok (.iconst 0, 1) := by decide +kernel
theorem dX6_parseTree_16 : decode cX6_parseTree 16 = .ok (.ireturn, 1) := by decide +kernel
theorem dX6_parseTree_17 : decode cX6_parseTree 17 = .ok (.aload_n 0, 1) := by decide +kernel
theorem dX6_parseTree_18 : decode cX6_parseTree 18 = .ok (.dup, 1) := by decide +kernel
theorem dX6_parseTree_19 : decode cX6_parseTree 19 = .ok (.getfield 28, 3) := by decide +kernel
theorem dX6_parseTree_22 : decode cX6_parseTree 22 = .ok (.iconst 1, 1) := by decide +kernel
theorem dX6_parseTree_23 : decode cX6_parseTree 23 = .ok (.iadd, 1) := by decide +kernel
theorem dX6_parseTree_24 : decode cX6_parseTree 24 = .ok (.putfield 28, 3) := by decide +kernel
theorem dX6_parseTree_27 : decode cX6_parseTree 27 = .ok (.aload_n 0, 1) := by decide +kernel
theorem dX6_parseTree_28 : decode cX6_parseTree 28 = .ok (.getfield 15, 3) := by decide +kernel
theorem dX6_parseTree_31 : decode cX6_parseTree 31 = .ok (.iload_n 1, 1) := by decide +kernel
theorem dX6_parseTree_32 : decode cX6_parseTree 32 = .ok (.iload_n 3, 1) := by decide +kernel
theorem dX6_parseTree_33 : decode cX6_parseTree 33 = .ok (.iastore, 1) := by decide +kernel
theorem dX6_parseTree_34 : decode cX6_parseTree 34 = .ok (.aload_n 0, 1) := by decide +kernel
theorem dX6_parseTree_35 : decode cX6_parseTree 35 = .ok (.getfield 18, 3) := by decide +kernel
theorem dX6_parseTree_38 : decode cX6_parseTree 38 = .ok (.iload_n 1, 1) := by decide +kernel
theorem dX6_parseTree_39 : decode cX6_parseTree 39 = .ok (.aload_n 0, 1) := by decide +kernel
theorem dX6_parseTree_40 : decode cX6_parseTree 40 = .ok (.iload_n 2, 1) := by decide +kernel
theorem dX6_parseTree_41 : decode cX6_parseTree 41 = .ok (.invokevirtual 47, 3) := by decide +kernel
theorem dX6_parseTree_44 : decode cX6_parseTree 44 = .ok (.iastore, 1) := by decide +kernel
theorem dX6_parseTree_45 : decode cX6_parseTree 45 = .ok (.aload_n 0, 1) := by decide +kernel
theorem dX6_parseTree_46 : decode cX6_parseTree 46 = .ok (.getfield 21, 3) := by decide +kernel
theorem dX6_parseTree_49 : decode cX6_parseTree 49 = .ok (.iload_n 1, 1) := by decide +kernel
theorem dX6_parseTree_50 : decode cX6_parseTree 50 = .ok (.aload_n 0, 1) := by decide +kernel
theorem dX6_parseTree_51 : decode cX6_parseTree 51 = .ok (.iload_n 2, 1) := by decide +kernel
theorem dX6_parseTree_52 : decode cX6_parseTree 52 = .ok (.invokevirtual 47, 3) := by decide +kernel
theorem dX6_parseTree_55 : decode cX6_parseTree 55 = .ok (.iastore, 1) := by decide +kernel
theorem dX6_parseTree_56 : decode cX6_parseTree 56 = .ok (.iconst 1, 1) := by decide +kernel
theorem dX6_parseTree_57 : decode cX6_parseTree 57 = .ok (.ireturn, 1) := by decide +kernel
theorem dX6_parseClimber_0 : decode cX6_parseClimber 0 = .ok (.aload_n 0, 1) := by decide +kernel
theorem dX6_parseClimber_1 : decode cX6_parseClimber 1 = .ok (.invokevirtual 35, 3) := by decide +kernel
theorem dX6_parseClimber_4 : decode cX6_parseClimber 4 = .ok (.bipush 97, 2) := by decide +kernel
theorem dX6_parseClimber_6 : decode cX6_parseClimber 6 = .ok (.isub, 1) := by decide +kernel
theorem dX6_parseClimber_7 : decode cX6_parseClimber 7 = .ok (.istore_n 2, 1) := by decide +kernel
theorem dX6_parseClimber_8 : decode cX6_parseClimber 8 = .ok (.iload_n 2, 1) := by decide +kernel
theorem dX6_parseClimber_9 : decode cX6_parseClimber 9 = .ok (.iconst 5, 1) := by decide +kernel
theorem dX6_parseClimber_10 : decode cX6_parseClimber 10 = .ok (.if_icmp .eq 16, 3) := by decide +kernel
theorem dX6_parseClimber_13 : decode cX6_parseClimber 13 = .ok (.iload_n 2, 1) := by decide +kernel
theorem dX6_parseClimber_14 : decode cX6_parseClimber 14 = .ok (.iconst 0, 1) := by decide +kernel
theorem dX6_parseClimber_15 : decode cX6_parseClimber 15 = .ok (.iload_n 1, 1) := by decide +kernel
theorem dX6_parseClimber_16 : decode cX6_parseClimber 16 = .ok (.iconst 1, 1) := by decide +kernel
theorem dX6_parseClimber_17 : decode cX6_parseClimber 17 = .ok (.isub, 1) := by decide +kernel
theorem dX6_parseClimber_18 : decode cX6_parseClimber 18 = .ok (.invokestatic 50, 3) := by decide +kernel
theorem dX6_parseClimber_21 : decode cX6_parseClimber 21 = .ok (.ifCond .ne 5, 3) := by decide +kernel
theorem dX6_parseClimber_24 : decode cX6_parseClimber 24 = .ok (.iconst 5, 1) := by decide +kernel
theorem dX6_parseClimber_25 : decode cX6_parseClimber 25 = .ok (.ireturn, 1) := by decide +kernel
theorem dX6_parseClimber_26 : decode cX6_parseClimber 26 = .ok (.aload_n 0, 1) := by decide +kernel
theorem dX6_parseClimber_27 : decode cX6_parseClimber 27 = .ok (.dup, 1) := by decide +kernel
theorem dX6_parseClimber_28 : decode cX6_parseClimber 28 = .ok (.getfield 28, 3) := by decide +kernel
theorem dX6_parseClimber_31 : decode cX6_parseClimber 31 = .ok (.iconst 1, 1) := by decide +kernel
theorem dX6_parseClimber_32 : decode cX6_parseClimber 32 = .ok (.iadd, 1) := by decide +kernel
theorem dX6_parseClimber_33 : decode cX6_parseClimber 33 = .ok (.putfield 28, 3) := by decide +kernel
theorem dX6_parseClimber_36 : decode cX6_parseClimber 36 = .ok (.iload_n 2, 1) := by decide +kernel
theorem dX6_parseClimber_37 : decode cX6_parseClimber 37 = .ok (.ireturn, 1) := by decide +kernel
theorem dX6_peek_0 : decode cX6_peek 0 = .ok (.aload_n 0, 1) := by decide +kernel
theorem dX6_peek_1 : decode cX6_peek 1 = .ok (.getfield 28, 3) := by decide +kernel
theorem dX6_peek_4 : decode cX6_peek 4 = .ok (.aload_n 0, 1) := by decide +kernel
theorem dX6_peek_5 : decode cX6_peek 5 = .ok (.getfield 24, 3) := by decide +kernel
theorem dX6_peek_8 : decode cX6_peek 8 = .ok (.if_icmp .ge 30, 3) := by decide +kernel
theorem dX6_peek_11 : decode cX6_peek 11 = .ok (.aload_n 0, 1) := by decide +kernel
theorem dX6_peek_12 : decode cX6_peek 12 = .ok (.getfield 9, 3) := by decide +kernel
theorem dX6_peek_15 : decode cX6_peek 15 = .ok (.aload_n 0, 1) := by decide +kernel
theorem dX6_peek_16 : decode cX6_peek 16 = .ok (.getfield 28, 3) := by decide +kernel
theorem dX6_peek_19 : decode cX6_peek 19 = .ok (.iaload, 1) := by decide +kernel
theorem dX6_peek_20 : decode cX6_peek 20 = .ok (.bipush 32, 2) := by decide +kernel
theorem dX6_peek_22 : decode cX6_peek 22 = .ok (.if_icmp .ne 16, 3) := by decide +kernel
theorem dX6_peek_25 : decode cX6_peek 25 = .ok (.aload_n 0, 1) := by decide +kernel
theorem dX6_peek_26 : decode cX6_peek 26 = .ok (.dup, 1) := by decide +kernel
theorem dX6_peek_27 : decode cX6_peek 27 = .ok (.getfield 28, 3) := by decide +kernel
theorem dX6_peek_30 : decode cX6_peek 30 = .ok (.iconst 1, 1) := by decide +kernel
theorem dX6_peek_31 : decode cX6_peek 31 = .ok (.iadd, 1) := by decide +kernel
theorem dX6_peek_32 : decode cX6_peek 32 = .ok (.putfield 28, 3) := by decide +kernel
theorem dX6_peek_35 : decode cX6_peek 35 = .ok (.goto (-35), 3) := by decide +kernel
theorem dX6_peek_38 : decode cX6_peek 38 = .ok (.aload_n 0, 1) := by decide +kernel
theorem dX6_peek_39 : decode cX6_peek 39 = .ok (.getfield 28, 3) := by decide +kernel
theorem dX6_peek_42 : decode cX6_peek 42 = .ok (.aload_n 0, 1) := by decide +kernel
theorem dX6_peek_43 : decode cX6_peek 43 = .ok (.getfield 24, 3) := by decide +kernel
theorem dX6_peek_46 : decode cX6_peek 46 = .ok (.if_icmp .ge 15, 3) := by decide +kernel
theorem dX6_peek_49 : decode cX6_peek 49 = .ok (.aload_n 0, 1) := by decide +kernel
theorem dX6_peek_50 : decode cX6_peek 50 = .ok (.getfield 9, 3) := by decide +kernel
theorem dX6_peek_53 : decode cX6_peek 53 = .ok (.aload_n 0, 1) := by decide +kernel
theorem dX6_peek_54 : decode cX6_peek 54 = .ok (.getfield 28, 3) := by decide +kernel
theorem dX6_peek_57 : decode cX6_peek 57 = .ok (.iaload, 1) := by decide +kernel
theorem dX6_peek_58 : decode cX6_peek 58 = .ok (.goto 4, 3) := by decide +kernel
theorem dX6_peek_61 : decode cX6_peek 61 = .ok (.iconst 0, 1) := by decide +kernel
theorem dX6_peek_62 : decode cX6_peek 62 = .ok (.ireturn, 1) := by decide +kernel
theorem dX6_plantAll_0 : decode cX6_plantAll 0 = .ok (.iconst 0, 1) := by decide +kernel
theorem dX6_plantAll_1 : decode cX6_plantAll 1 = .ok (.istore_n 3, 1) := by decide +kernel
theorem dX6_plantAll_2 : decode cX6_plantAll 2 = .ok (.iload_n 3, 1) := by decide +kernel
theorem dX6_plantAll_3 : decode cX6_plantAll 3 = .ok (.iload_n 2, 1) := by decide +kernel
theorem dX6_plantAll_4 : decode cX6_plantAll 4 = .ok (.if_icmp .ge 36, 3) := by decide +kernel
theorem dX6_plantAll_7 : decode cX6_plantAll 7 = .ok (.aload_n 1, 1) := by decide +kernel
theorem dX6_plantAll_8 : decode cX6_plantAll 8 = .ok (.getfield 54, 3) := by decide +kernel
theorem dX6_plantAll_11 : decode cX6_plantAll 11 = .ok (.iload_n 3, 1) := by decide +kernel
theorem dX6_plantAll_12 : decode cX6_plantAll 12 = .ok (.aaload, 1) := by decide +kernel
theorem dX6_plantAll_13 : decode cX6_plantAll 13 = .ok (.aload_n 0, 1) := by decide +kernel
theorem dX6_plantAll_14 : decode cX6_plantAll 14 = .ok (.getfield 15, 3) := by decide +kernel
theorem dX6_plantAll_17 : decode cX6_plantAll 17 = .ok (.iload_n 3, 1) := by decide +kernel
theorem dX6_plantAll_18 : decode cX6_plantAll 18 = .ok (.iaload, 1) := by decide +kernel
theorem dX6_plantAll_19 : decode cX6_plantAll 19 = .ok (.aload_n 0, 1) := by decide +kernel
theorem dX6_plantAll_20 : decode cX6_plantAll 20 = .ok (.getfield 18, 3) := by decide +kernel
theorem dX6_plantAll_23 : decode cX6_plantAll 23 = .ok (.iload_n 3, 1) := by decide +kernel
theorem dX6_plantAll_24 : decode cX6_plantAll 24 = .ok (.iaload, 1) := by decide +kernel
theorem dX6_plantAll_25 : decode cX6_plantAll 25 = .ok (.aload_n 0, 1) := by decide +kernel
theorem dX6_plantAll_26 : decode cX6_plantAll 26 = .ok (.getfield 21, 3) := by decide +kernel
theorem dX6_plantAll_29 : decode cX6_plantAll 29 = .ok (.iload_n 3, 1) := by decide +kernel
theorem dX6_plantAll_30 : decode cX6_plantAll 30 = .ok (.iaload, 1) := by decide +kernel
theorem dX6_plantAll_31 : decode cX6_plantAll 31 = .ok (.invokevirtual 60, 3) := by decide +kernel
theorem dX6_plantAll_34 : decode cX6_plantAll 34 = .ok (.iinc 3 1, 3) := by decide +kernel
theorem dX6_plantAll_37 : decode cX6_plantAll 37 = .ok (.goto (-35), 3) := by decide +kernel
theorem dX6_plantAll_40 : decode cX6_plantAll 40 = .ok (.aload_n 1, 1) := by decide +kernel
theorem dX6_plantAll_41 : decode cX6_plantAll 41 = .ok (.iload_n 2, 1) := by decide +kernel
theorem dX6_plantAll_42 : decode cX6_plantAll 42 = .ok (.putfield 66, 3) := by decide +kernel
theorem dX6_plantAll_45 : decode cX6_plantAll 45 = .ok (.return_, 1) := by decide +kernel
theorem dX1_init_0 : decode cX1_init 0 = .ok (.aload_n 0, 1) := by decide +kernel
theorem dX1_init_1 : decode cX1_init 1 = .ok (.invokespecial 3, 3) := by decide +kernel
theorem dX1_init_4 : decode cX1_init 4 = .ok (.aload_n 0, 1) := by decide +kernel
theorem dX1_init_5 : decode cX1_init 5 = .ok (.bipush 6, 2) := by decide +kernel
theorem dX1_init_7 : decode cX1_init 7 = .ok (.anewarray 9, 3) := by decide +kernel
theorem dX1_init_10 : decode cX1_init 10 = .ok (.putfield 11, 3) := by decide +kernel
theorem dX1_init_13 : decode cX1_init 13 = .ok (.aload_n 0, 1) := by decide +kernel
theorem dX1_init_14 : decode cX1_init 14 = .ok (.iconst 5, 1) := by decide +kernel
theorem dX1_init_15 : decode cX1_init 15 = .ok (.anewarray 17, 3) := by decide +kernel
theorem dX1_init_18 : decode cX1_init 18 = .ok (.putfield 19, 3) := by decide +kernel
theorem dX1_init_21 : decode cX1_init 21 = .ok (.aload_n 0, 1) := by decide +kernel
theorem dX1_init_22 : decode cX1_init 22 = .ok (.bipush 10, 2) := by decide +kernel
theorem dX1_init_24 : decode cX1_init 24 = .ok (.newarray .int, 2) := by decide +kernel
theorem dX1_init_26 : decode cX1_init 26 = .ok (.putfield 23, 3) := by decide +kernel
theorem dX1_init_29 : decode cX1_init 29 = .ok (.aload_n 0, 1) := by decide +kernel
theorem dX1_init_30 : decode cX1_init 30 = .ok (.iconst 1, 1) := by decide +kernel
theorem dX1_init_31 : decode cX1_init 31 = .ok (.putfield 27, 3) := by decide +kernel
theorem dX1_init_34 : decode cX1_init 34 = .ok (.iconst 0, 1) := by decide +kernel
theorem dX1_init_35 : decode cX1_init 35 = .ok (.istore_n 1, 1) := by decide +kernel
theorem dX1_init_36 : decode cX1_init 36 = .ok (.iload_n 1, 1) := by decide +kernel
theorem dX1_init_37 : decode cX1_init 37 = .ok (.bipush 6, 2) := by decide +kernel
theorem dX1_init_39 : decode cX1_init 39 = .ok (.if_icmp .ge 22, 3) := by decide +kernel
theorem dX1_init_42 : decode cX1_init 42 = .ok (.aload_n 0, 1) := by decide +kernel
theorem dX1_init_43 : decode cX1_init 43 = .ok (.getfield 11, 3) := by decide +kernel
theorem dX1_init_46 : decode cX1_init 46 = .ok (.iload_n 1, 1) := by decide +kernel
theorem dX1_init_47 : decode cX1_init 47 = .ok (.new 9, 3) := by decide +kernel
theorem dX1_init_50 : decode cX1_init 50 = .ok (.dup, 1) := by decide +kernel
theorem dX1_init_51 : decode cX1_init 51 = .ok (.invokespecial 31, 3) := by decide +kernel
theorem dX1_init_54 : decode cX1_init 54 = .ok (.aastore, 1) := by decide +kernel
theorem dX1_init_55 : decode cX1_init 55 = .ok (.iinc 1 1, 3) := by decide +kernel
theorem dX1_init_58 : decode cX1_init 58 = .ok (.goto (-22), 3) := by decide +kernel
theorem dX1_init_61 : decode cX1_init 61 = .ok (.iconst 0, 1) := by decide +kernel
theorem dX1_init_62 : decode cX1_init 62 = .ok (.istore_n 1, 1) := by decide +kernel
theorem dX1_init_63 : decode cX1_init 63 = .ok (.iload_n 1, 1) := by decide +kernel
theorem dX1_init_64 : decode cX1_init 64 = .ok (.iconst 5, 1) := by decide +kernel
theorem dX1_init_65 : decode cX1_init 65 = .ok (.if_icmp .ge 22, 3) := by decide +kernel
theorem dX1_init_68 : decode cX1_init 68 = .ok (.aload_n 0, 1) := by decide +kernel
theorem dX1_init_69 : decode cX1_init 69 = .ok (.getfield 19, 3) := by decide +kernel
theorem dX1_init_72 : decode cX1_init 72 = .ok (.iload_n 1, 1) := by decide +kernel
theorem dX1_init_73 : decode cX1_init 73 = .ok (.new 17, 3) := by decide +kernel
theorem dX1_init_76 : decode cX1_init 76 = .ok (.dup, 1) := by decide +kernel
theorem dX1_init_77 : decode cX1_init 77 = .ok (.invokespecial 32, 3) := by decide +kernel
theorem dX1_init_80 : decode cX1_init 80 = .ok (.aastore, 1) := by decide +kernel
theorem dX1_init_81 : decode cX1_init 81 = .ok (.iinc 1 1, 3) := by decide +kernel
theorem dX1_init_84 : decode cX1_init 84 = .ok (.goto (-21), 3) := by decide +kernel
theorem dX1_init_87 : decode cX1_init 87 = .ok (.iconst 0, 1) := by decide +kernel
theorem dX1_init_88 : decode cX1_init 88 = .ok (.istore_n 1, 1) := by decide +kernel
theorem dX1_init_89 : decode cX1_init 89 = .ok (.iload_n 1, 1) := by decide +kernel
theorem dX1_init_90 : decode cX1_init 90 = .ok (.bipush 10, 2) := by decide +kernel
theorem dX1_init_92 : decode cX1_init 92 = .ok (.if_icmp .ge 16, 3) := by decide +kernel
theorem dX1_init_95 : decode cX1_init 95 = .ok (.aload_n 0, 1) := by decide +kernel
theorem dX1_init_96 : decode cX1_init 96 = .ok (.getfield 23, 3) := by decide +kernel
theorem dX1_init_99 : decode cX1_init 99 = .ok (.iload_n 1, 1) := by decide +kernel
theorem dX1_init_100 : decode cX1_init 100 = .ok (.iload_n 1, 1) := by decide +kernel
theorem dX1_init_101 : decode cX1_init 101 = .ok (.iastore, 1) := by decide +kernel
theorem dX1_init_102 : decode cX1_init 102 = .ok (.iinc 1 1, 3) := by decide +kernel
theorem dX1_init_105 : decode cX1_init 105 = .ok (.goto (-16), 3) := by decide +kernel
theorem dX1_init_108 : decode cX1_init 108 = .ok (.return_, 1) := by decide +kernel
theorem dX1_become_0 : decode cX1_become 0 = .ok (.iconst 0, 1) := by decide +kernel
theorem dX1_become_1 : decode cX1_become 1 = .ok (.istore_n 2, 1) := by decide +kernel
theorem dX1_become_2 : decode cX1_become 2 = .ok (.iload_n 2, 1) := by decide +kernel
theorem dX1_become_3 : decode cX1_become 3 = .ok (.bipush 6, 2) := by decide +kernel
theorem dX1_become_5 : decode cX1_become 5 = .ok (.if_icmp .ge 24, 3) := by decide +kernel
theorem dX1_become_8 : decode cX1_become 8 = .ok (.aload_n 0, 1) := by decide +kernel
theorem dX1_become_9 : decode cX1_become 9 = .ok (.getfield 11, 3) := by decide +kernel
theorem dX1_become_12 : decode cX1_become 12 = .ok (.iload_n 2, 1) := by decide +kernel
theorem dX1_become_13 : decode cX1_become 13 = .ok (.aaload, 1) := by decide +kernel
theorem dX1_become_14 : decode cX1_become 14 = .ok (.aload_n 1, 1) := by decide +kernel
theorem dX1_become_15 : decode cX1_become 15 = .ok (.getfield 11, 3) := by decide +kernel
theorem dX1_become_18 : decode cX1_become 18 = .ok (.iload_n 2, 1) := by decide +kernel
theorem dX1_become_19 : decode cX1_become 19 = .ok (.aaload, 1) := by decide +kernel
theorem dX1_become_20 : decode cX1_become 20 = .ok (.invokevirtual 33, 3) := by decide +kernel
theorem dX1_become_23 : decode cX1_become 23 = .ok (.iinc 2 1, 3) := by decide +kernel
theorem dX1_become_26 : decode cX1_become 26 = .ok (.goto (-24), 3) := by decide +kernel
theorem dX1_become_29 : decode cX1_become 29 = .ok (.iconst 0, 1) := by decide +kernel
theorem dX1_become_30 : decode cX1_become 30 = .ok (.istore_n 2, 1) := by decide +kernel
theorem dX1_become_31 : decode cX1_become 31 = .ok (.iload_n 2, 1) := by decide +kernel
theorem dX1_become_32 : decode cX1_become 32 = .ok (.iconst 5, 1) := by decide +kernel
theorem dX1_become_33 : decode cX1_become 33 = .ok (.if_icmp .ge 41, 3) := by decide +kernel
theorem dX1_become_36 : decode cX1_become 36 = .ok (.aload_n 1, 1) := by decide +kernel
theorem dX1_become_37 : decode cX1_become 37 = .ok (.getfield 19, 3) := by decide +kernel
theorem dX1_become_40 : decode cX1_become 40 = .ok (.iload_n 2, 1) := by decide +kernel
theorem dX1_become_41 : decode cX1_become 41 = .ok (.aaload, 1) := by decide +kernel
theorem dX1_become_42 : decode cX1_become 42 = .ok (.astore_n 3, 1) := by decide +kernel
theorem dX1_become_43 : decode cX1_become 43 = .ok (.aload_n 0, 1) := by decide +kernel
theorem dX1_become_44 : decode cX1_become 44 = .ok (.getfield 19, 3) := by decide +kernel
theorem dX1_become_47 : decode cX1_become 47 = .ok (.iload_n 2, 1) := by decide +kernel
theorem dX1_become_48 : decode cX1_become 48 = .ok (.aaload, 1) := by decide +kernel
theorem dX1_become_49 : decode cX1_become 49 = .ok (.aload_n 3, 1) := by decide +kernel
theorem dX1_become_50 : decode cX1_become 50 = .ok (.getfield 37, 3) := by decide +kernel
theorem dX1_become_53 : decode cX1_become 53 = .ok (.aload_n 3, 1) := by decide +kernel
theorem dX1_become_54 : decode cX1_become 54 = .ok (.getfield 40, 3) := by decide +kernel
theorem dX1_become_57 : decode cX1_become 57 = .ok (.aload_n 3, 1) := by decide +kernel
theorem dX1_become_58 : decode cX1_become 58 = .ok (.getfield 43, 3) := by decide +kernel
theorem dX1_become_61 : decode cX1_become 61 = .ok (.aload_n 3, 1) := by decide +kernel
theorem dX1_become_62 : decode cX1_become 62 = .ok (.getfield 46, 3) := by decide +kernel
theorem dX1_become_65 : decode cX1_become 65 = .ok (.invokevirtual 49, 3) := by decide +kernel
theorem dX1_become_68 : decode cX1_become 68 = .ok (.iinc 2 1, 3) := by decide +kernel
theorem dX1_become_71 : decode cX1_become 71 = .ok (.goto (-40), 3) := by decide +kernel
theorem dX1_become_74 : decode cX1_become 74 = .ok (.aload_n 1, 1) := by decide +kernel
theorem dX1_become_75 : decode cX1_become 75 = .ok (.getfield 23, 3) := by decide +kernel
theorem dX1_become_78 : decode cX1_become 78 = .ok (.iconst 0, 1) := by decide +kernel
theorem dX1_become_79 : decode cX1_become 79 = .ok (.aload_n 0, 1) := by decide +kernel
theorem dX1_become_80 : decode cX1_become 80 = .ok (.getfield 23, 3) := by decide +kernel
theorem dX1_become_83 : decode cX1_become 83 = .ok (.iconst 0, 1) := by decide +kernel
theorem dX1_become_84 : decode cX1_become 84 = .ok (.bipush 10, 2) := by decide +kernel
theorem dX1_become_86 : decode cX1_become 86 = .ok (.invokestatic 52, 3) := by decide +kernel
theorem dX1_become_89 : decode cX1_become 89 = .ok (.aload_n 0, 1) := by decide +kernel
theorem dX1_become_90 : decode cX1_become 90 = .ok (.aload_n 1, 1) := by decide +kernel
theorem dX1_become_91 : decode cX1_become 91 = .ok (.getfield 58, 3) := by decide +kernel
theorem dX1_become_94 : decode cX1_become 94 = .ok (.putfield 58, 3) := by decide +kernel
theorem dX1_become_97 : decode cX1_become 97 = .ok (.aload_n 0, 1) := by decide +kernel
theorem dX1_become_98 : decode cX1_become 98 = .ok (.aload_n 1, 1) := by decide +kernel
theorem dX1_become_99 : decode cX1_become 99 = .ok (.getfield 61, 3) := by decide +kernel
theorem dX1_become_102 : decode cX1_become 102 = .ok (.putfield 61, 3) := by decide +kernel
theorem dX1_become_105 : decode cX1_become 105 = .ok (.aload_n 0, 1) := by decide +kernel
theorem dX1_become_106 : decode cX1_become 106 = .ok (.aload_n 1, 1) := by decide +kernel
theorem dX1_become_107 : decode cX1_become 107 = .ok (.getfield 27, 3) := by decide +kernel
theorem dX1_become_110 : decode cX1_become 110 = .ok (.putfield 27, 3) := by decide +kernel
theorem dX1_become_113 : decode cX1_become 113 = .ok (.aload_n 0, 1) := by decide +kernel
theorem dX1_become_114 : decode cX1_become 114 = .ok (.aload_n 1, 1) := by decide +kernel
theorem dX1_become_115 : decode cX1_become 115 = .ok (.getfield 64, 3) := by decide +kernel
theorem dX1_become_118 : decode cX1_become 118 = .ok (.putfield 64, 3) := by decide +kernel
theorem dX1_become_121 : decode cX1_become 121 = .ok (.aload_n 0, 1) := by decide +kernel
theorem dX1_become_122 : decode cX1_become 122 = .ok (.aload_n 1, 1) := by decide +kernel
theorem dX1_become_123 : decode cX1_become 123 = .ok (.getfield 67, 3) := by decide +kernel
theorem dX1_become_126 : decode cX1_become 126 = .ok (.putfield 67, 3) := by decide +kernel
theorem dX1_become_129 : decode cX1_become 129 = .ok (.return_, 1) := by decide +kernel
theorem dX1_plant_0 : decode cX1_plant 0 = .ok (.aload_n 0, 1) := by decide +kernel
theorem dX1_plant_1 : decode cX1_plant 1 = .ok (.getfield 11, 3) := by decide +kernel
theorem dX1_plant_4 : decode cX1_plant 4 = .ok (.aload_n 0, 1) := by decide +kernel
theorem dX1_plant_5 : decode cX1_plant 5 = .ok (.getfield 58, 3) := by decide +kernel
theorem dX1_plant_8 : decode cX1_plant 8 = .ok (.aaload, 1) := by decide +kernel
theorem dX1_plant_9 : decode cX1_plant 9 = .ok (.iload_n 1, 1) := by decide +kernel
theorem dX1_plant_10 : decode cX1_plant 10 = .ok (.iconst 5, 1) := by decide +kernel
theorem dX1_plant_11 : decode cX1_plant 11 = .ok (.iconst 5, 1) := by decide +kernel
theorem dX1_plant_12 : decode cX1_plant 12 = .ok (.invokevirtual 70, 3) := by decide +kernel
theorem dX1_plant_15 : decode cX1_plant 15 = .ok (.aload_n 0, 1) := by decide +kernel
theorem dX1_plant_16 : decode cX1_plant 16 = .ok (.dup, 1) := by decide +kernel
theorem dX1_plant_17 : decode cX1_plant 17 = .ok (.getfield 58, 3) := by decide +kernel
theorem dX1_plant_20 : decode cX1_plant 20 = .ok (.dup_x1, 1) := by decide +kernel
theorem dX1_plant_21 : decode cX1_plant 21 = .ok (.iconst 1, 1) := by decide +kernel
theorem dX1_plant_22 : decode cX1_plant 22 = .ok (.iadd, 1) := by decide +kernel
theorem dX1_plant_23 : decode cX1_plant 23 = .ok (.putfield 58, 3) := by decide +kernel
theorem dX1_plant_26 : decode cX1_plant 26 = .ok (.ireturn, 1) := by decide +kernel
theorem dX1_plantCutting_0 : decode cX1_plantCutting 0 = .ok (.aload_n 0, 1) := by decide +kernel
theorem dX1_plantCutting_1 : decode cX1_plantCutting 1 = .ok (.getfield 11, 3) := by decide +kernel
theorem dX1_plantCutting_4 : decode cX1_plantCutting 4 = .ok (.aload_n 0, 1) := by decide +kernel
theorem dX1_plantCutting_5 : decode cX1_plantCutting 5 = .ok (.getfield 58, 3) := by decide +kernel
theorem dX1_plantCutting_8 : decode cX1_plantCutting 8 = .ok (.aaload, 1) := by decide +kernel
theorem dX1_plantCutting_9 : decode cX1_plantCutting 9 = .ok (.aload_n 0, 1) := by decide +kernel
theorem dX1_plantCutting_10 : decode cX1_plantCutting 10 = .ok (.getfield 11, 3) := by decide +kernel
theorem dX1_plantCutting_13 : decode cX1_plantCutting 13 = .ok (.iload_n 1, 1) := by decide +kernel
theorem dX1_plantCutting_14 : decode cX1_plantCutting 14 = .ok (.aaload, 1) := by decide +kernel
theorem dX1_plantCutting_15 : decode cX1_plantCutting 15 = .ok (.invokevirtual 74, 3) := by decide +kernel
theorem dX1_plantCutting_18 : decode cX1_plantCutting 18 = .ok (.aload_n 0, 1) := by decide +kernel
theorem dX1_plantCutting_19 : decode cX1_plantCutting 19 = .ok (.dup, 1) := by decide +kernel
theorem dX1_plantCutting_20 : decode cX1_plantCutting 20 = .ok (.getfield 58, 3) := by decide +kernel
theorem dX1_plantCutting_23 : decode cX1_plantCutting 23 = .ok (.dup_x1, 1) := by decide +kernel
theorem dX1_plantCutting_24 : decode cX1_plantCutting 24 = .ok (.iconst 1, 1) := by decide +kernel
theorem dX1_plantCutting_25 : decode cX1_plantCutting 25 = .ok (.iadd, 1) := by decide +kernel
theorem dX1_plantCutting_26 : decode cX1_plantCutting 26 = .ok (.putfield 58, 3) := by decide +kernel
theorem dX1_plantCutting_29 : decode cX1_plantCutting 29 = .ok (.ireturn, 1) := by decide +kernel
theorem dX1_welcome_0 : decode cX1_welcome 0 = .ok (.aload_n 0, 1) := by decide +kernel
theorem dX1_welcome_1 : decode cX1_welcome 1 = .ok (.getfield 19, 3) := by decide +kernel
theorem dX1_welcome_4 : decode cX1_welcome 4 = .ok (.aload_n 0, 1) := by decide +kernel
theorem dX1_welcome_5 : decode cX1_welcome 5 = .ok (.getfield 61, 3) := by decide +kernel
theorem dX1_welcome_8 : decode cX1_welcome 8 = .ok (.aaload, 1) := by decide +kernel
theorem dX1_welcome_9 : decode cX1_welcome 9 = .ok (.iload_n 1, 1) := by decide +kernel
theorem dX1_welcome_10 : decode cX1_welcome 10 = .ok (.iload_n 2, 1) := by decide +kernel
theorem dX1_welcome_11 : decode cX1_welcome 11 = .ok (.iload_n 3, 1) := by decide +kernel
theorem dX1_welcome_12 : decode cX1_welcome 12 = .ok (.iload 4, 2) := by decide +kernel
theorem dX1_welcome_14 : decode cX1_welcome 14 = .ok (.invokevirtual 49, 3) := by decide +kernel
theorem dX1_welcome_17 : decode cX1_welcome 17 = .ok (.aload_n 0, 1) := by decide +kernel
theorem dX1_welcome_18 : decode cX1_welcome 18 = .ok (.dup, 1) := by decide +kernel
theorem dX1_welcome_19 : decode cX1_welcome 19 = .ok (.getfield 61, 3) := by decide +kernel
theorem dX1_welcome_22 : decode cX1_welcome 22 = .ok (.dup_x1, 1) := by decide +kernel
theorem dX1_welcome_23 : decode cX1_welcome 23 = .ok (.iconst 1, 1) := by decide +kernel
theorem dX1_welcome_24 : decode cX1_welcome 24 = .ok (.iadd, 1) := by decide +kernel
theorem dX1_welcome_25 : decode cX1_welcome 25 = .ok (.putfield 61, 3) := by decide +kernel
theorem dX1_welcome_28 : decode cX1_welcome 28 = .ok (.ireturn, 1) := by decide +kernel
theorem dX1_hasTree_0 : decode cX1_hasTree 0 = .ok (.iload_n 1, 1) := by decide +kernel
theorem dX1_hasTree_1 : decode cX1_hasTree 1 = .ok (.iconst 0, 1) := by decide +kernel
theorem dX1_hasTree_2 : decode cX1_hasTree 2 = .ok (.aload_n 0, 1) := by decide +kernel
end
section
theorem dX1_hasTree_3 : decode cX1_hasTree 3 = .ok (.getfield 58, 3) := by decide +kernel
theorem dX1_hasTree_6 : decode cX1_hasTree 6 = .ok (.iconst 1, 1) := by decide +kernel
theorem dX1_hasTree_7 : decode cX1_hasTree 7 = .ok (.isub, 1) := by decide +kernel
theorem dX1_hasTree_8 : decode cX1_hasTree 8 = .ok (.invokestatic 77, 3) := by decide +kernel
theorem dX1_hasTree_11 : decode cX1_hasTree 11 = .ok (.ireturn, 1) := by decide +kernel
theorem dX1_hasClimber_0 : decode cX1_hasClimber 0 = .ok (.iload_n 1, 1) := by decide +kernel
theorem dX1_hasClimber_1 : decode cX1_hasClimber 1 = .ok (.iconst 0, 1) := by decide +kernel
theorem dX1_hasClimber_2 : decode cX1_hasClimber 2 = .ok (.aload_n 0, 1) := by decide +kernel
theorem dX1_hasClimber_3 : decode cX1_hasClimber 3 = .ok (.getfield 61, 3) := by decide +kernel
theorem dX1_hasClimber_6 : decode cX1_hasClimber 6 = .ok (.iconst 1, 1) := by decide +kernel
theorem dX1_hasClimber_7 : decode cX1_hasClimber 7 = .ok (.isub, 1) := by decide +kernel
theorem dX1_hasClimber_8 : decode cX1_hasClimber 8 = .ok (.invokestatic 77, 3) := by decide +kernel
theorem dX1_hasClimber_11 : decode cX1_hasClimber 11 = .ok (.ireturn, 1) := by decide +kernel
theorem dX1_isFolk_0 : decode cX1_isFolk 0 = .ok (.iload_n 1, 1) := by decide +kernel
theorem dX1_isFolk_1 : decode cX1_isFolk 1 = .ok (.iconst 5, 1) := by decide +kernel
theorem dX1_isFolk_2 : decode cX1_isFolk 2 = .ok (.if_icmp .eq 11, 3) := by decide +kernel
theorem dX1_isFolk_5 : decode cX1_isFolk 5 = .ok (.aload_n 0, 1) := by decide +kernel
theorem dX1_isFolk_6 : decode cX1_isFolk 6 = .ok (.iload_n 1, 1) := by decide +kernel
theorem dX1_isFolk_7 : decode cX1_isFolk 7 = .ok (.invokevirtual 81, 3) := by decide +kernel
theorem dX1_isFolk_10 : decode cX1_isFolk 10 = .ok (.ifCond .eq 7, 3) := by decide +kernel
theorem dX1_isFolk_13 : decode cX1_isFolk 13 = .ok (.iconst 1, 1) := by decide +kernel
theorem dX1_isFolk_14 : decode cX1_isFolk 14 = .ok (.goto 4, 3) := by decide +kernel
theorem dX1_isFolk_17 : decode cX1_isFolk 17 = .ok (.iconst 0, 1) := by decide +kernel
theorem dX1_isFolk_18 : decode cX1_isFolk 18 = .ok (.ireturn, 1) := by decide +kernel
theorem dX1_isSet_0 : decode cX1_isSet 0 = .ok (.iload_n 1, 1) := by decide +kernel
theorem dX1_isSet_1 : decode cX1_isSet 1 = .ok (.iconst 0, 1) := by decide +kernel
theorem dX1_isSet_2 : decode cX1_isSet 2 = .ok (.iconst 1, 1) := by decide +kernel
theorem dX1_isSet_3 : decode cX1_isSet 3 = .ok (.aload_n 0, 1) := by decide +kernel
theorem dX1_isSet_4 : decode cX1_isSet 4 = .ok (.getfield 61, 3) := by decide +kernel
theorem dX1_isSet_7 : decode cX1_isSet 7 = .ok (.ishl, 1) := by decide +kernel
theorem dX1_isSet_8 : decode cX1_isSet 8 = .ok (.iconst 1, 1) := by decide +kernel
theorem dX1_isSet_9 : decode cX1_isSet 9 = .ok (.isub, 1) := by decide +kernel
theorem dX1_isSet_10 : decode cX1_isSet 10 = .ok (.invokestatic 77, 3) := by decide +kernel
theorem dX1_isSet_13 : decode cX1_isSet 13 = .ok (.ireturn, 1) := by decide +kernel
theorem dX1_brought_0 : decode cX1_brought 0 = .ok (.aload_n 0, 1) := by decide +kernel
theorem dX1_brought_1 : decode cX1_brought 1 = .ok (.iload_n 1, 1) := by decide +kernel
theorem dX1_brought_2 : decode cX1_brought 2 = .ok (.invokevirtual 81, 3) := by decide +kernel
theorem dX1_brought_5 : decode cX1_brought 5 = .ok (.ifCond .eq 15, 3) := by decide +kernel
theorem dX1_brought_8 : decode cX1_brought 8 = .ok (.aload_n 0, 1) := by decide +kernel
theorem dX1_brought_9 : decode cX1_brought 9 = .ok (.getfield 19, 3) := by decide +kernel
theorem dX1_brought_12 : decode cX1_brought 12 = .ok (.iload_n 1, 1) := by decide +kernel
theorem dX1_brought_13 : decode cX1_brought 13 = .ok (.aaload, 1) := by decide +kernel
theorem dX1_brought_14 : decode cX1_brought 14 = .ok (.invokevirtual 85, 3) := by decide +kernel
theorem dX1_brought_17 : decode cX1_brought 17 = .ok (.goto 4, 3) := by decide +kernel
theorem dX1_brought_20 : decode cX1_brought 20 = .ok (.iconst 0, 1) := by decide +kernel
theorem dX1_brought_21 : decode cX1_brought 21 = .ok (.ireturn, 1) := by decide +kernel
theorem dX1_oddsOf_0 : decode cX1_oddsOf 0 = .ok (.aload_n 0, 1) := by decide +kernel
theorem dX1_oddsOf_1 : decode cX1_oddsOf 1 = .ok (.iload_n 1, 1) := by decide +kernel
theorem dX1_oddsOf_2 : decode cX1_oddsOf 2 = .ok (.invokevirtual 81, 3) := by decide +kernel
theorem dX1_oddsOf_5 : decode cX1_oddsOf 5 = .ok (.ifCond .eq 15, 3) := by decide +kernel
theorem dX1_oddsOf_8 : decode cX1_oddsOf 8 = .ok (.aload_n 0, 1) := by decide +kernel
theorem dX1_oddsOf_9 : decode cX1_oddsOf 9 = .ok (.getfield 19, 3) := by decide +kernel
theorem dX1_oddsOf_12 : decode cX1_oddsOf 12 = .ok (.iload_n 1, 1) := by decide +kernel
theorem dX1_oddsOf_13 : decode cX1_oddsOf 13 = .ok (.aaload, 1) := by decide +kernel
theorem dX1_oddsOf_14 : decode cX1_oddsOf 14 = .ok (.invokevirtual 89, 3) := by decide +kernel
theorem dX1_oddsOf_17 : decode cX1_oddsOf 17 = .ok (.goto 4, 3) := by decide +kernel
theorem dX1_oddsOf_20 : decode cX1_oddsOf 20 = .ok (.iconst 0, 1) := by decide +kernel
theorem dX1_oddsOf_21 : decode cX1_oddsOf 21 = .ok (.ireturn, 1) := by decide +kernel
theorem dX1_mayClimbNow_0 : decode cX1_mayClimbNow 0 = .ok (.aload_n 0, 1) := by decide +kernel
theorem dX1_mayClimbNow_1 : decode cX1_mayClimbNow 1 = .ok (.iload_n 2, 1) := by decide +kernel
theorem dX1_mayClimbNow_2 : decode cX1_mayClimbNow 2 = .ok (.invokevirtual 81, 3) := by decide +kernel
theorem dX1_mayClimbNow_5 : decode cX1_mayClimbNow 5 = .ok (.ifCond .ne 5, 3) := by decide +kernel
theorem dX1_mayClimbNow_8 : decode cX1_mayClimbNow 8 = .ok (.iconst 1, 1) := by decide +kernel
theorem dX1_mayClimbNow_9 : decode cX1_mayClimbNow 9 = .ok (.ireturn, 1) := by decide +kernel
theorem dX1_mayClimbNow_10 : decode cX1_mayClimbNow 10 = .ok (.aload_n 0, 1) := by decide +kernel
theorem dX1_mayClimbNow_11 : decode cX1_mayClimbNow 11 = .ok (.getfield 11, 3) := by decide +kernel
theorem dX1_mayClimbNow_14 : decode cX1_mayClimbNow 14 = .ok (.iload_n 1, 1) := by decide +kernel
theorem dX1_mayClimbNow_15 : decode cX1_mayClimbNow 15 = .ok (.aaload, 1) := by decide +kernel
theorem dX1_mayClimbNow_16 : decode cX1_mayClimbNow 16 = .ok (.getfield 92, 3) := by decide +kernel
theorem dX1_mayClimbNow_19 : decode cX1_mayClimbNow 19 = .ok (.iload_n 2, 1) := by decide +kernel
theorem dX1_mayClimbNow_20 : decode cX1_mayClimbNow 20 = .ok (.invokestatic 95, 3) := by decide +kernel
theorem dX1_mayClimbNow_23 : decode cX1_mayClimbNow 23 = .ok (.ifCond .ne 28, 3) := by decide +kernel
theorem dX1_mayClimbNow_26 : decode cX1_mayClimbNow 26 = .ok (.aload_n 0, 1) := by decide +kernel
theorem dX1_mayClimbNow_27 : decode cX1_mayClimbNow 27 = .ok (.getfield 19, 3) := by decide +kernel
theorem dX1_mayClimbNow_30 : decode cX1_mayClimbNow 30 = .ok (.iload_n 2, 1) := by decide +kernel
theorem dX1_mayClimbNow_31 : decode cX1_mayClimbNow 31 = .ok (.aaload, 1) := by decide +kernel
theorem dX1_mayClimbNow_32 : decode cX1_mayClimbNow 32 = .ok (.invokevirtual 99, 3) := by decide +kernel
theorem dX1_mayClimbNow_35 : decode cX1_mayClimbNow 35 = .ok (.ifCond .ne 12, 3) := by decide +kernel
theorem dX1_mayClimbNow_38 : decode cX1_mayClimbNow 38 = .ok (.aload_n 0, 1) := by decide +kernel
theorem dX1_mayClimbNow_39 : decode cX1_mayClimbNow 39 = .ok (.iload_n 1, 1) := by decide +kernel
theorem dX1_mayClimbNow_40 : decode cX1_mayClimbNow 40 = .ok (.iload_n 2, 1) := by decide +kernel
theorem dX1_mayClimbNow_41 : decode cX1_mayClimbNow 41 = .ok (.invokevirtual 103, 3) := by decide +kernel
theorem dX1_mayClimbNow_44 : decode cX1_mayClimbNow 44 = .ok (.ifCond .ne 7, 3) := by decide +kernel
theorem dX1_mayClimbNow_47 : decode cX1_mayClimbNow 47 = .ok (.iconst 1, 1) := by decide +kernel
theorem dX1_mayClimbNow_48 : decode cX1_mayClimbNow 48 = .ok (.goto 4, 3) := by decide +kernel
theorem dX1_mayClimbNow_51 : decode cX1_mayClimbNow 51 = .ok (.iconst 0, 1) := by decide +kernel
theorem dX1_mayClimbNow_52 : decode cX1_mayClimbNow 52 = .ok (.ireturn, 1) := by decide +kernel
theorem dX1_climbsElsewhere_0 : decode cX1_climbsElsewhere 0 = .ok (.iconst 0, 1) := by decide +kernel
theorem dX1_climbsElsewhere_1 : decode cX1_climbsElsewhere 1 = .ok (.istore_n 3, 1) := by decide +kernel
theorem dX1_climbsElsewhere_2 : decode cX1_climbsElsewhere 2 = .ok (.iload_n 3, 1) := by decide +kernel
theorem dX1_climbsElsewhere_3 : decode cX1_climbsElsewhere 3 = .ok (.aload_n 0, 1) := by decide +kernel
theorem dX1_climbsElsewhere_4 : decode cX1_climbsElsewhere 4 = .ok (.getfield 58, 3) := by decide +kernel
theorem dX1_climbsElsewhere_7 : decode cX1_climbsElsewhere 7 = .ok (.if_icmp .ge 29, 3) := by decide +kernel
theorem dX1_climbsElsewhere_10 : decode cX1_climbsElsewhere 10 = .ok (.iload_n 3, 1) := by decide +kernel
theorem dX1_climbsElsewhere_11 : decode cX1_climbsElsewhere 11 = .ok (.iload_n 1, 1) := by decide +kernel
theorem dX1_climbsElsewhere_12 : decode cX1_climbsElsewhere 12 = .ok (.if_icmp .eq 18, 3) := by decide +kernel
theorem dX1_climbsElsewhere_15 : decode cX1_climbsElsewhere 15 = .ok (.aload_n 0, 1) := by decide +kernel
theorem dX1_climbsElsewhere_16 : decode cX1_climbsElsewhere 16 = .ok (.getfield 11, 3) := by decide +kernel
theorem dX1_climbsElsewhere_19 : decode cX1_climbsElsewhere 19 = .ok (.iload_n 3, 1) := by decide +kernel
theorem dX1_climbsElsewhere_20 : decode cX1_climbsElsewhere 20 = .ok (.aaload, 1) := by decide +kernel
theorem dX1_climbsElsewhere_21 : decode cX1_climbsElsewhere 21 = .ok (.getfield 106, 3) := by decide +kernel
theorem dX1_climbsElsewhere_24 : decode cX1_climbsElsewhere 24 = .ok (.iload_n 2, 1) := by decide +kernel
theorem dX1_climbsElsewhere_25 : decode cX1_climbsElsewhere 25 = .ok (.if_icmp .ne 5, 3) := by decide +kernel
theorem dX1_climbsElsewhere_28 : decode cX1_climbsElsewhere 28 = .ok (.iconst 1, 1) := by decide +kernel
theorem dX1_climbsElsewhere_29 : decode cX1_climbsElsewhere 29 = .ok (.ireturn, 1) := by decide +kernel
theorem dX1_climbsElsewhere_30 : decode cX1_climbsElsewhere 30 = .ok (.iinc 3 1, 3) := by decide +kernel
theorem dX1_climbsElsewhere_33 : decode cX1_climbsElsewhere 33 = .ok (.goto (-31), 3) := by decide +kernel
theorem dX1_climbsElsewhere_36 : decode cX1_climbsElsewhere 36 = .ok (.iconst 0, 1) := by decide +kernel
theorem dX1_climbsElsewhere_37 : decode cX1_climbsElsewhere 37 = .ok (.ireturn, 1) := by decide +kernel
theorem dX1_climbersNow_0 : decode cX1_climbersNow 0 = .ok (.iconst 0, 1) := by decide +kernel
theorem dX1_climbersNow_1 : decode cX1_climbersNow 1 = .ok (.istore_n 1, 1) := by decide +kernel
theorem dX1_climbersNow_2 : decode cX1_climbersNow 2 = .ok (.iconst 0, 1) := by decide +kernel
theorem dX1_climbersNow_3 : decode cX1_climbersNow 3 = .ok (.istore_n 2, 1) := by decide +kernel
theorem dX1_climbersNow_4 : decode cX1_climbersNow 4 = .ok (.iload_n 2, 1) := by decide +kernel
theorem dX1_climbersNow_5 : decode cX1_climbersNow 5 = .ok (.aload_n 0, 1) := by decide +kernel
theorem dX1_climbersNow_6 : decode cX1_climbersNow 6 = .ok (.getfield 58, 3) := by decide +kernel
theorem dX1_climbersNow_9 : decode cX1_climbersNow 9 = .ok (.if_icmp .ge 23, 3) := by decide +kernel
theorem dX1_climbersNow_12 : decode cX1_climbersNow 12 = .ok (.iload_n 1, 1) := by decide +kernel
theorem dX1_climbersNow_13 : decode cX1_climbersNow 13 = .ok (.iconst 1, 1) := by decide +kernel
theorem dX1_climbersNow_14 : decode cX1_climbersNow 14 = .ok (.aload_n 0, 1) := by decide +kernel
theorem dX1_climbersNow_15 : decode cX1_climbersNow 15 = .ok (.getfield 11, 3) := by decide +kernel
theorem dX1_climbersNow_18 : decode cX1_climbersNow 18 = .ok (.iload_n 2, 1) := by decide +kernel
theorem dX1_climbersNow_19 : decode cX1_climbersNow 19 = .ok (.aaload, 1) := by decide +kernel
theorem dX1_climbersNow_20 : decode cX1_climbersNow 20 = .ok (.getfield 106, 3) := by decide +kernel
theorem dX1_climbersNow_23 : decode cX1_climbersNow 23 = .ok (.ishl, 1) := by decide +kernel
theorem dX1_climbersNow_24 : decode cX1_climbersNow 24 = .ok (.ior, 1) := by decide +kernel
theorem dX1_climbersNow_25 : decode cX1_climbersNow 25 = .ok (.istore_n 1, 1) := by decide +kernel
theorem dX1_climbersNow_26 : decode cX1_climbersNow 26 = .ok (.iinc 2 1, 3) := by decide +kernel
theorem dX1_climbersNow_29 : decode cX1_climbersNow 29 = .ok (.goto (-25), 3) := by decide +kernel
theorem dX1_climbersNow_32 : decode cX1_climbersNow 32 = .ok (.iload_n 1, 1) := by decide +kernel
theorem dX1_climbersNow_33 : decode cX1_climbersNow 33 = .ok (.bipush (-33), 2) := by decide +kernel
theorem dX1_climbersNow_35 : decode cX1_climbersNow 35 = .ok (.iand, 1) := by decide +kernel
theorem dX1_climbersNow_36 : decode cX1_climbersNow 36 = .ok (.ireturn, 1) := by decide +kernel
theorem dX1_borne_0 : decode cX1_borne 0 = .ok (.aload_n 0, 1) := by decide +kernel
theorem dX1_borne_1 : decode cX1_borne 1 = .ok (.getfield 11, 3) := by decide +kernel
theorem dX1_borne_4 : decode cX1_borne 4 = .ok (.iload_n 1, 1) := by decide +kernel
theorem dX1_borne_5 : decode cX1_borne 5 = .ok (.aaload, 1) := by decide +kernel
theorem dX1_borne_6 : decode cX1_borne 6 = .ok (.astore_n 3, 1) := by decide +kernel
theorem dX1_borne_7 : decode cX1_borne 7 = .ok (.aload_n 0, 1) := by decide +kernel
theorem dX1_borne_8 : decode cX1_borne 8 = .ok (.aload_n 3, 1) := by decide +kernel
theorem dX1_borne_9 : decode cX1_borne 9 = .ok (.getfield 109, 3) := by decide +kernel
theorem dX1_borne_12 : decode cX1_borne 12 = .ok (.invokevirtual 112, 3) := by decide +kernel
theorem dX1_borne_15 : decode cX1_borne 15 = .ok (.iload_n 2, 1) := by decide +kernel
theorem dX1_borne_16 : decode cX1_borne 16 = .ok (.if_icmp .ne 17, 3) := by decide +kernel
theorem dX1_borne_19 : decode cX1_borne 19 = .ok (.aload_n 3, 1) := by decide +kernel
theorem dX1_borne_20 : decode cX1_borne 20 = .ok (.getfield 116, 3) := by decide +kernel
theorem dX1_borne_23 : decode cX1_borne 23 = .ok (.aload_n 3, 1) := by decide +kernel
theorem dX1_borne_24 : decode cX1_borne 24 = .ok (.getfield 117, 3) := by decide +kernel
theorem dX1_borne_27 : decode cX1_borne 27 = .ok (.invokestatic 121, 3) := by decide +kernel
theorem dX1_borne_30 : decode cX1_borne 30 = .ok (.goto 4, 3) := by decide +kernel
theorem dX1_borne_33 : decode cX1_borne 33 = .ok (.iconst 0, 1) := by decide +kernel
theorem dX1_borne_34 : decode cX1_borne 34 = .ok (.istore 4, 2) := by decide +kernel
theorem dX1_borne_36 : decode cX1_borne 36 = .ok (.aload_n 0, 1) := by decide +kernel
theorem dX1_borne_37 : decode cX1_borne 37 = .ok (.aload_n 3, 1) := by decide +kernel
theorem dX1_borne_38 : decode cX1_borne 38 = .ok (.getfield 125, 3) := by decide +kernel
theorem dX1_borne_41 : decode cX1_borne 41 = .ok (.invokevirtual 112, 3) := by decide +kernel
theorem dX1_borne_44 : decode cX1_borne 44 = .ok (.iload_n 2, 1) := by decide +kernel
theorem dX1_borne_45 : decode cX1_borne 45 = .ok (.if_icmp .ne 17, 3) := by decide +kernel
theorem dX1_borne_48 : decode cX1_borne 48 = .ok (.aload_n 3, 1) := by decide +kernel
theorem dX1_borne_49 : decode cX1_borne 49 = .ok (.getfield 116, 3) := by decide +kernel
theorem dX1_borne_52 : decode cX1_borne 52 = .ok (.aload_n 3, 1) := by decide +kernel
theorem dX1_borne_53 : decode cX1_borne 53 = .ok (.getfield 128, 3) := by decide +kernel
theorem dX1_borne_56 : decode cX1_borne 56 = .ok (.invokestatic 131, 3) := by decide +kernel
theorem dX1_borne_59 : decode cX1_borne 59 = .ok (.goto 4, 3) := by decide +kernel
theorem dX1_borne_62 : decode cX1_borne 62 = .ok (.iconst 0, 1) := by decide +kernel
theorem dX1_borne_63 : decode cX1_borne 63 = .ok (.istore 5, 2) := by decide +kernel
theorem dX1_borne_65 : decode cX1_borne 65 = .ok (.iload 4, 2) := by decide +kernel
theorem dX1_borne_67 : decode cX1_borne 67 = .ok (.iload 5, 2) := by decide +kernel
theorem dX1_borne_69 : decode cX1_borne 69 = .ok (.iadd, 1) := by decide +kernel
theorem dX1_borne_70 : decode cX1_borne 70 = .ok (.ireturn, 1) := by decide +kernel
theorem dX1_borneNext_0 : decode cX1_borneNext 0 = .ok (.aload_n 0, 1) := by decide +kernel
theorem dX1_borneNext_1 : decode cX1_borneNext 1 = .ok (.getfield 11, 3) := by decide +kernel
theorem dX1_borneNext_4 : decode cX1_borneNext 4 = .ok (.iload_n 1, 1) := by decide +kernel
theorem dX1_borneNext_5 : decode cX1_borneNext 5 = .ok (.aaload, 1) := by decide +kernel
theorem dX1_borneNext_6 : decode cX1_borneNext 6 = .ok (.astore_n 3, 1) := by decide +kernel
theorem dX1_borneNext_7 : decode cX1_borneNext 7 = .ok (.aload_n 0, 1) := by decide +kernel
theorem dX1_borneNext_8 : decode cX1_borneNext 8 = .ok (.aload_n 3, 1) := by decide +kernel
theorem dX1_borneNext_9 : decode cX1_borneNext 9 = .ok (.getfield 106, 3) := by decide +kernel
theorem dX1_borneNext_12 : decode cX1_borneNext 12 = .ok (.invokevirtual 112, 3) := by decide +kernel
theorem dX1_borneNext_15 : decode cX1_borneNext 15 = .ok (.iload_n 2, 1) := by decide +kernel
theorem dX1_borneNext_16 : decode cX1_borneNext 16 = .ok (.if_icmp .ne 14, 3) := by decide +kernel
theorem dX1_borneNext_19 : decode cX1_borneNext 19 = .ok (.aload_n 3, 1) := by decide +kernel
theorem dX1_borneNext_20 : decode cX1_borneNext 20 = .ok (.getfield 116, 3) := by decide +kernel
theorem dX1_borneNext_23 : decode cX1_borneNext 23 = .ok (.iconst 0, 1) := by decide +kernel
theorem dX1_borneNext_24 : decode cX1_borneNext 24 = .ok (.invokestatic 121, 3) := by decide +kernel
theorem dX1_borneNext_27 : decode cX1_borneNext 27 = .ok (.goto 4, 3) := by decide +kernel
theorem dX1_borneNext_30 : decode cX1_borneNext 30 = .ok (.iconst 0, 1) := by decide +kernel
theorem dX1_borneNext_31 : decode cX1_borneNext 31 = .ok (.istore 4, 2) := by decide +kernel
theorem dX1_borneNext_33 : decode cX1_borneNext 33 = .ok (.aload_n 0, 1) := by decide +kernel
theorem dX1_borneNext_34 : decode cX1_borneNext 34 = .ok (.aload_n 3, 1) := by decide +kernel
theorem dX1_borneNext_35 : decode cX1_borneNext 35 = .ok (.getfield 109, 3) := by decide +kernel
theorem dX1_borneNext_38 : decode cX1_borneNext 38 = .ok (.invokevirtual 112, 3) := by decide +kernel
theorem dX1_borneNext_41 : decode cX1_borneNext 41 = .ok (.iload_n 2, 1) := by decide +kernel
theorem dX1_borneNext_42 : decode cX1_borneNext 42 = .ok (.if_icmp .ne 17, 3) := by decide +kernel
theorem dX1_borneNext_45 : decode cX1_borneNext 45 = .ok (.aload_n 3, 1) := by decide +kernel
theorem dX1_borneNext_46 : decode cX1_borneNext 46 = .ok (.getfield 116, 3) := by decide +kernel
theorem dX1_borneNext_49 : decode cX1_borneNext 49 = .ok (.aload_n 3, 1) := by decide +kernel
theorem dX1_borneNext_50 : decode cX1_borneNext 50 = .ok (.getfield 117, 3) := by decide +kernel
theorem dX1_borneNext_53 : decode cX1_borneNext 53 = .ok (.invokestatic 131, 3) := by decide +kernel
theorem dX1_borneNext_56 : decode cX1_borneNext 56 = .ok (.goto 4, 3) := by decide +kernel
theorem dX1_borneNext_59 : decode cX1_borneNext 59 = .ok (.iconst 0, 1) := by decide +kernel
theorem dX1_borneNext_60 : decode cX1_borneNext 60 = .ok (.istore 5, 2) := by decide +kernel
theorem dX1_borneNext_62 : decode cX1_borneNext 62 = .ok (.iload 4, 2) := by decide +kernel
theorem dX1_borneNext_64 : decode cX1_borneNext 64 = .ok (.iload 5, 2) := by decide +kernel
theorem dX1_borneNext_66 : decode cX1_borneNext 66 = .ok (.iadd, 1) := by decide +kernel
theorem dX1_borneNext_67 : decode cX1_borneNext 67 = .ok (.ireturn, 1) := by decide +kernel
theorem dX1_inBasket_0 : decode cX1_inBasket 0 = .ok (.iconst 0, 1) := by decide +kernel
theorem dX1_inBasket_1 : decode cX1_inBasket 1 = .ok (.istore_n 2, 1) := by decide +kernel
theorem dX1_inBasket_2 : decode cX1_inBasket 2 = .ok (.iconst 0, 1) := by decide +kernel
theorem dX1_inBasket_3 : decode cX1_inBasket 3 = .ok (.istore_n 3, 1) := by decide +kernel
theorem dX1_inBasket_4 : decode cX1_inBasket 4 = .ok (.iload_n 3, 1) := by decide +kernel
theorem dX1_inBasket_5 : decode cX1_inBasket 5 = .ok (.aload_n 0, 1) := by decide +kernel
theorem dX1_inBasket_6 : decode cX1_inBasket 6 = .ok (.getfield 58, 3) := by decide +kernel
theorem dX1_inBasket_9 : decode cX1_inBasket 9 = .ok (.if_icmp .ge 18, 3) := by decide +kernel
theorem dX1_inBasket_12 : decode cX1_inBasket 12 = .ok (.iload_n 2, 1) := by decide +kernel
theorem dX1_inBasket_13 : decode cX1_inBasket 13 = .ok (.aload_n 0, 1) := by decide +kernel
theorem dX1_inBasket_14 : decode cX1_inBasket 14 = .ok (.iload_n 3, 1) := by decide +kernel
theorem dX1_inBasket_15 : decode cX1_inBasket 15 = .ok (.iload_n 1, 1) := by decide +kernel
theorem dX1_inBasket_16 : decode cX1_inBasket 16 = .ok (.invokevirtual 134, 3) := by decide +kernel
theorem dX1_inBasket_19 : decode cX1_inBasket 19 = .ok (.iadd, 1) := by decide +kernel
theorem dX1_inBasket_20 : decode cX1_inBasket 20 = .ok (.istore_n 2, 1) := by decide +kernel
theorem dX1_inBasket_21 : decode cX1_inBasket 21 = .ok (.iinc 3 1, 3) := by decide +kernel
theorem dX1_inBasket_24 : decode cX1_inBasket 24 = .ok (.goto (-20), 3) := by decide +kernel
theorem dX1_inBasket_27 : decode cX1_inBasket 27 = .ok (.iload_n 2, 1) := by decide +kernel
theorem dX1_inBasket_28 : decode cX1_inBasket 28 = .ok (.ireturn, 1) := by decide +kernel
theorem dX1_inNext_0 : decode cX1_inNext 0 = .ok (.iconst 0, 1) := by decide +kernel
theorem dX1_inNext_1 : decode cX1_inNext 1 = .ok (.istore_n 2, 1) := by decide +kernel
theorem dX1_inNext_2 : decode cX1_inNext 2 = .ok (.iconst 0, 1) := by decide +kernel
theorem dX1_inNext_3 : decode cX1_inNext 3 = .ok (.istore_n 3, 1) := by decide +kernel
theorem dX1_inNext_4 : decode cX1_inNext 4 = .ok (.iload_n 3, 1) := by decide +kernel
theorem dX1_inNext_5 : decode cX1_inNext 5 = .ok (.aload_n 0, 1) := by decide +kernel
theorem dX1_inNext_6 : decode cX1_inNext 6 = .ok (.getfield 58, 3) := by decide +kernel
theorem dX1_inNext_9 : decode cX1_inNext 9 = .ok (.if_icmp .ge 18, 3) := by decide +kernel
theorem dX1_inNext_12 : decode cX1_inNext 12 = .ok (.iload_n 2, 1) := by decide +kernel
theorem dX1_inNext_13 : decode cX1_inNext 13 = .ok (.aload_n 0, 1) := by decide +kernel
theorem dX1_inNext_14 : decode cX1_inNext 14 = .ok (.iload_n 3, 1) := by decide +kernel
theorem dX1_inNext_15 : decode cX1_inNext 15 = .ok (.iload_n 1, 1) := by decide +kernel
theorem dX1_inNext_16 : decode cX1_inNext 16 = .ok (.invokevirtual 138, 3) := by decide +kernel
theorem dX1_inNext_19 : decode cX1_inNext 19 = .ok (.iadd, 1) := by decide +kernel
theorem dX1_inNext_20 : decode cX1_inNext 20 = .ok (.istore_n 2, 1) := by decide +kernel
theorem dX1_inNext_21 : decode cX1_inNext 21 = .ok (.iinc 3 1, 3) := by decide +kernel
theorem dX1_inNext_24 : decode cX1_inNext 24 = .ok (.goto (-20), 3) := by decide +kernel
theorem dX1_inNext_27 : decode cX1_inNext 27 = .ok (.iload_n 2, 1) := by decide +kernel
theorem dX1_inNext_28 : decode cX1_inNext 28 = .ok (.ireturn, 1) := by decide +kernel
theorem dX1_basketValue_0 : decode cX1_basketValue 0 = .ok (.iconst 0, 1) := by decide +kernel
theorem dX1_basketValue_1 : decode cX1_basketValue 1 = .ok (.istore_n 1, 1) := by decide +kernel
theorem dX1_basketValue_2 : decode cX1_basketValue 2 = .ok (.iconst 0, 1) := by decide +kernel
theorem dX1_basketValue_3 : decode cX1_basketValue 3 = .ok (.istore_n 2, 1) := by decide +kernel
theorem dX1_basketValue_4 : decode cX1_basketValue 4 = .ok (.iload_n 2, 1) := by decide +kernel
theorem dX1_basketValue_5 : decode cX1_basketValue 5 = .ok (.bipush 10, 2) := by decide +kernel
theorem dX1_basketValue_7 : decode cX1_basketValue 7 = .ok (.if_icmp .ge 24, 3) := by decide +kernel
theorem dX1_basketValue_10 : decode cX1_basketValue 10 = .ok (.iload_n 1, 1) := by decide +kernel
theorem dX1_basketValue_11 : decode cX1_basketValue 11 = .ok (.aload_n 0, 1) := by decide +kernel
theorem dX1_basketValue_12 : decode cX1_basketValue 12 = .ok (.iload_n 2, 1) := by decide +kernel
theorem dX1_basketValue_13 : decode cX1_basketValue 13 = .ok (.invokevirtual 141, 3) := by decide +kernel
theorem dX1_basketValue_16 : decode cX1_basketValue 16 = .ok (.aload_n 0, 1) := by decide +kernel
theorem dX1_basketValue_17 : decode cX1_basketValue 17 = .ok (.getfield 23, 3) := by decide +kernel
theorem dX1_basketValue_20 : decode cX1_basketValue 20 = .ok (.iload_n 2, 1) := by decide +kernel
theorem dX1_basketValue_21 : decode cX1_basketValue 21 = .ok (.iaload, 1) := by decide +kernel
theorem dX1_basketValue_22 : decode cX1_basketValue 22 = .ok (.imul, 1) := by decide +kernel
theorem dX1_basketValue_23 : decode cX1_basketValue 23 = .ok (.iadd, 1) := by decide +kernel
theorem dX1_basketValue_24 : decode cX1_basketValue 24 = .ok (.istore_n 1, 1) := by decide +kernel
theorem dX1_basketValue_25 : decode cX1_basketValue 25 = .ok (.iinc 2 1, 3) := by decide +kernel
theorem dX1_basketValue_28 : decode cX1_basketValue 28 = .ok (.goto (-24), 3) := by decide +kernel
theorem dX1_basketValue_31 : decode cX1_basketValue 31 = .ok (.iload_n 1, 1) := by decide +kernel
theorem dX1_basketValue_32 : decode cX1_basketValue 32 = .ok (.ireturn, 1) := by decide +kernel
theorem dX1_nextValue_0 : decode cX1_nextValue 0 = .ok (.iconst 0, 1) := by decide +kernel
theorem dX1_nextValue_1 : decode cX1_nextValue 1 = .ok (.istore_n 1, 1) := by decide +kernel
theorem dX1_nextValue_2 : decode cX1_nextValue 2 = .ok (.iconst 0, 1) := by decide +kernel
theorem dX1_nextValue_3 : decode cX1_nextValue 3 = .ok (.istore_n 2, 1) := by decide +kernel
theorem dX1_nextValue_4 : decode cX1_nextValue 4 = .ok (.iload_n 2, 1) := by decide +kernel
theorem dX1_nextValue_5 : decode cX1_nextValue 5 = .ok (.bipush 10, 2) := by decide +kernel
theorem dX1_nextValue_7 : decode cX1_nextValue 7 = .ok (.if_icmp .ge 24, 3) := by decide +kernel
theorem dX1_nextValue_10 : decode cX1_nextValue 10 = .ok (.iload_n 1, 1) := by decide +kernel
theorem dX1_nextValue_11 : decode cX1_nextValue 11 = .ok (.aload_n 0, 1) := by decide +kernel
theorem dX1_nextValue_12 : decode cX1_nextValue 12 = .ok (.iload_n 2, 1) := by decide +kernel
theorem dX1_nextValue_13 : decode cX1_nextValue 13 = .ok (.invokevirtual 144, 3) := by decide +kernel
theorem dX1_nextValue_16 : decode cX1_nextValue 16 = .ok (.aload_n 0, 1) := by decide +kernel
theorem dX1_nextValue_17 : decode cX1_nextValue 17 = .ok (.getfield 23, 3) := by decide +kernel
theorem dX1_nextValue_20 : decode cX1_nextValue 20 = .ok (.iload_n 2, 1) := by decide +kernel
theorem dX1_nextValue_21 : decode cX1_nextValue 21 = .ok (.iaload, 1) := by decide +kernel
theorem dX1_nextValue_22 : decode cX1_nextValue 22 = .ok (.imul, 1) := by decide +kernel
theorem dX1_nextValue_23 : decode cX1_nextValue 23 = .ok (.iadd, 1) := by decide +kernel
theorem dX1_nextValue_24 : decode cX1_nextValue 24 = .ok (.istore_n 1, 1) := by decide +kernel
theorem dX1_nextValue_25 : decode cX1_nextValue 25 = .ok (.iinc 2 1, 3) := by decide +kernel
theorem dX1_nextValue_28 : decode cX1_nextValue 28 = .ok (.goto (-24), 3) := by decide +kernel
theorem dX1_nextValue_31 : decode cX1_nextValue 31 = .ok (.iload_n 1, 1) := by decide +kernel
theorem dX1_nextValue_32 : decode cX1_nextValue 32 = .ok (.ireturn, 1) := by decide +kernel
theorem dX1_priceOfBrought_0 : decode cX1_priceOfBrought 0 = .ok (.aload_n 0, 1) := by decide +kernel
theorem dX1_priceOfBrought_1 : decode cX1_priceOfBrought 1 = .ok (.getfield 23, 3) := by decide +kernel
theorem dX1_priceOfBrought_4 : decode cX1_priceOfBrought 4 = .ok (.aload_n 0, 1) := by decide +kernel
theorem dX1_priceOfBrought_5 : decode cX1_priceOfBrought 5 = .ok (.iload_n 1, 1) := by decide +kernel
theorem dX1_priceOfBrought_6 : decode cX1_priceOfBrought 6 = .ok (.invokevirtual 112, 3) := by decide +kernel
theorem dX1_priceOfBrought_9 : decode cX1_priceOfBrought 9 = .ok (.iaload, 1) := by decide +kernel
theorem dX1_priceOfBrought_10 : decode cX1_priceOfBrought 10 = .ok (.ireturn, 1) := by decide +kernel
theorem dX1_expectedTenths_0 : decode cX1_expectedTenths 0 = .ok (.iconst 0, 1) := by decide +kernel
theorem dX1_expectedTenths_1 : decode cX1_expectedTenths 1 = .ok (.istore_n 1, 1) := by decide +kernel
theorem dX1_expectedTenths_2 : decode cX1_expectedTenths 2 = .ok (.iconst 0, 1) := by decide +kernel
theorem dX1_expectedTenths_3 : decode cX1_expectedTenths 3 = .ok (.istore_n 2, 1) := by decide +kernel
theorem dX1_expectedTenths_4 : decode cX1_expectedTenths 4 = .ok (.iload_n 2, 1) := by decide +kernel
theorem dX1_expectedTenths_5 : decode cX1_expectedTenths 5 = .ok (.aload_n 0, 1) := by decide +kernel
theorem dX1_expectedTenths_6 : decode cX1_expectedTenths 6 = .ok (.getfield 58, 3) := by decide +kernel
theorem dX1_expectedTenths_9 : decode cX1_expectedTenths 9 = .ok (.if_icmp .ge 96, 3) := by decide +kernel
theorem dX1_expectedTenths_12 : decode cX1_expectedTenths 12 = .ok (.aload_n 0, 1) := by decide +kernel
theorem dX1_expectedTenths_13 : decode cX1_expectedTenths 13 = .ok (.getfield 11, 3) := by decide +kernel
theorem dX1_expectedTenths_16 : decode cX1_expectedTenths 16 = .ok (.iload_n 2, 1) := by decide +kernel
theorem dX1_expectedTenths_17 : decode cX1_expectedTenths 17 = .ok (.aaload, 1) := by decide +kernel
theorem dX1_expectedTenths_18 : decode cX1_expectedTenths 18 = .ok (.astore_n 3, 1) := by decide +kernel
theorem dX1_expectedTenths_19 : decode cX1_expectedTenths 19 = .ok (.aload_n 0, 1) := by decide +kernel
theorem dX1_expectedTenths_20 : decode cX1_expectedTenths 20 = .ok (.aload_n 3, 1) := by decide +kernel
theorem dX1_expectedTenths_21 : decode cX1_expectedTenths 21 = .ok (.getfield 106, 3) := by decide +kernel
theorem dX1_expectedTenths_24 : decode cX1_expectedTenths 24 = .ok (.invokevirtual 147, 3) := by decide +kernel
theorem dX1_expectedTenths_27 : decode cX1_expectedTenths 27 = .ok (.istore 4, 2) := by decide +kernel
theorem dX1_expectedTenths_29 : decode cX1_expectedTenths 29 = .ok (.aload_n 3, 1) := by decide +kernel
theorem dX1_expectedTenths_30 : decode cX1_expectedTenths 30 = .ok (.getfield 116, 3) := by decide +kernel
theorem dX1_expectedTenths_33 : decode cX1_expectedTenths 33 = .ok (.iconst 0, 1) := by decide +kernel
theorem dX1_expectedTenths_34 : decode cX1_expectedTenths 34 = .ok (.invokestatic 121, 3) := by decide +kernel
theorem dX1_expectedTenths_37 : decode cX1_expectedTenths 37 = .ok (.bipush 10, 2) := by decide +kernel
theorem dX1_expectedTenths_39 : decode cX1_expectedTenths 39 = .ok (.iload 4, 2) := by decide +kernel
theorem dX1_expectedTenths_41 : decode cX1_expectedTenths 41 = .ok (.isub, 1) := by decide +kernel
theorem dX1_expectedTenths_42 : decode cX1_expectedTenths 42 = .ok (.imul, 1) := by decide +kernel
theorem dX1_expectedTenths_43 : decode cX1_expectedTenths 43 = .ok (.aload_n 3, 1) := by decide +kernel
theorem dX1_expectedTenths_44 : decode cX1_expectedTenths 44 = .ok (.getfield 116, 3) := by decide +kernel
theorem dX1_expectedTenths_47 : decode cX1_expectedTenths 47 = .ok (.iconst 1, 1) := by decide +kernel
theorem dX1_expectedTenths_48 : decode cX1_expectedTenths 48 = .ok (.invokestatic 121, 3) := by decide +kernel
theorem dX1_expectedTenths_51 : decode cX1_expectedTenths 51 = .ok (.iload 4, 2) := by decide +kernel
theorem dX1_expectedTenths_53 : decode cX1_expectedTenths 53 = .ok (.imul, 1) := by decide +kernel
theorem dX1_expectedTenths_54 : decode cX1_expectedTenths 54 = .ok (.iadd, 1) := by decide +kernel
theorem dX1_expectedTenths_55 : decode cX1_expectedTenths 55 = .ok (.istore 5, 2) := by decide +kernel
theorem dX1_expectedTenths_57 : decode cX1_expectedTenths 57 = .ok (.aload_n 3, 1) := by decide +kernel
theorem dX1_expectedTenths_58 : decode cX1_expectedTenths 58 = .ok (.getfield 116, 3) := by decide +kernel
theorem dX1_expectedTenths_61 : decode cX1_expectedTenths 61 = .ok (.aload_n 3, 1) := by decide +kernel
theorem dX1_expectedTenths_62 : decode cX1_expectedTenths 62 = .ok (.getfield 117, 3) := by decide +kernel
theorem dX1_expectedTenths_65 : decode cX1_expectedTenths 65 = .ok (.invokestatic 131, 3) := by decide +kernel
theorem dX1_expectedTenths_68 : decode cX1_expectedTenths 68 = .ok (.bipush 10, 2) := by decide +kernel
theorem dX1_expectedTenths_70 : decode cX1_expectedTenths 70 = .ok (.imul, 1) := by decide +kernel
theorem dX1_expectedTenths_71 : decode cX1_expectedTenths 71 = .ok (.istore 6, 2) := by decide +kernel
theorem dX1_expectedTenths_73 : decode cX1_expectedTenths 73 = .ok (.iload_n 1, 1) := by decide +kernel
theorem dX1_expectedTenths_74 : decode cX1_expectedTenths 74 = .ok (.iload 5, 2) := by decide +kernel
theorem dX1_expectedTenths_76 : decode cX1_expectedTenths 76 = .ok (.aload_n 0, 1) := by decide +kernel
theorem dX1_expectedTenths_77 : decode cX1_expectedTenths 77 = .ok (.aload_n 3, 1) := by decide +kernel
theorem dX1_expectedTenths_78 : decode cX1_expectedTenths 78 = .ok (.getfield 106, 3) := by decide +kernel
theorem dX1_expectedTenths_81 : decode cX1_expectedTenths 81 = .ok (.invokevirtual 150, 3) := by decide +kernel
theorem dX1_expectedTenths_84 : decode cX1_expectedTenths 84 = .ok (.imul, 1) := by decide +kernel
theorem dX1_expectedTenths_85 : decode cX1_expectedTenths 85 = .ok (.iload 6, 2) := by decide +kernel
theorem dX1_expectedTenths_87 : decode cX1_expectedTenths 87 = .ok (.aload_n 0, 1) := by decide +kernel
theorem dX1_expectedTenths_88 : decode cX1_expectedTenths 88 = .ok (.aload_n 3, 1) := by decide +kernel
theorem dX1_expectedTenths_89 : decode cX1_expectedTenths 89 = .ok (.getfield 109, 3) := by decide +kernel
theorem dX1_expectedTenths_92 : decode cX1_expectedTenths 92 = .ok (.invokevirtual 150, 3) := by decide +kernel
theorem dX1_expectedTenths_95 : decode cX1_expectedTenths 95 = .ok (.imul, 1) := by decide +kernel
theorem dX1_expectedTenths_96 : decode cX1_expectedTenths 96 = .ok (.iadd, 1) := by decide +kernel
theorem dX1_expectedTenths_97 : decode cX1_expectedTenths 97 = .ok (.iadd, 1) := by decide +kernel
theorem dX1_expectedTenths_98 : decode cX1_expectedTenths 98 = .ok (.istore_n 1, 1) := by decide +kernel
theorem dX1_expectedTenths_99 : decode cX1_expectedTenths 99 = .ok (.iinc 2 1, 3) := by decide +kernel
theorem dX1_expectedTenths_102 : decode cX1_expectedTenths 102 = .ok (.goto (-98), 3) := by decide +kernel
theorem dX1_expectedTenths_105 : decode cX1_expectedTenths 105 = .ok (.iload_n 1, 1) := by decide +kernel
theorem dX1_expectedTenths_106 : decode cX1_expectedTenths 106 = .ok (.ireturn, 1) := by decide +kernel
theorem dX1_passYear_0 : decode cX1_passYear 0 = .ok (.aload_n 0, 1) := by decide +kernel
theorem dX1_passYear_1 : decode cX1_passYear 1 = .ok (.iconst 0, 1) := by decide +kernel
theorem dX1_passYear_2 : decode cX1_passYear 2 = .ok (.putfield 67, 3) := by decide +kernel
theorem dX1_passYear_5 : decode cX1_passYear 5 = .ok (.iconst 0, 1) := by decide +kernel
theorem dX1_passYear_6 : decode cX1_passYear 6 = .ok (.istore_n 1, 1) := by decide +kernel
theorem dX1_passYear_7 : decode cX1_passYear 7 = .ok (.iload_n 1, 1) := by decide +kernel
theorem dX1_passYear_8 : decode cX1_passYear 8 = .ok (.aload_n 0, 1) := by decide +kernel
theorem dX1_passYear_9 : decode cX1_passYear 9 = .ok (.getfield 58, 3) := by decide +kernel
theorem dX1_passYear_12 : decode cX1_passYear 12 = .ok (.if_icmp .ge 64, 3) := by decide +kernel
theorem dX1_passYear_15 : decode cX1_passYear 15 = .ok (.aload_n 0, 1) := by decide +kernel
theorem dX1_passYear_16 : decode cX1_passYear 16 = .ok (.getfield 11, 3) := by decide +kernel
theorem dX1_passYear_19 : decode cX1_passYear 19 = .ok (.iload_n 1, 1) := by decide +kernel
theorem dX1_passYear_20 : decode cX1_passYear 20 = .ok (.aaload, 1) := by decide +kernel
theorem dX1_passYear_21 : decode cX1_passYear 21 = .ok (.astore_n 2, 1) := by decide +kernel
theorem dX1_passYear_22 : decode cX1_passYear 22 = .ok (.aload_n 2, 1) := by decide +kernel
theorem dX1_passYear_23 : decode cX1_passYear 23 = .ok (.getfield 106, 3) := by decide +kernel
theorem dX1_passYear_26 : decode cX1_passYear 26 = .ok (.iconst 5, 1) := by decide +kernel
theorem dX1_passYear_27 : decode cX1_passYear 27 = .ok (.if_icmp .eq 22, 3) := by decide +kernel
theorem dX1_passYear_30 : decode cX1_passYear 30 = .ok (.aload_n 0, 1) := by decide +kernel
theorem dX1_passYear_31 : decode cX1_passYear 31 = .ok (.invokevirtual 153, 3) := by decide +kernel
theorem dX1_passYear_34 : decode cX1_passYear 34 = .ok (.aload_n 0, 1) := by decide +kernel
theorem dX1_passYear_35 : decode cX1_passYear 35 = .ok (.aload_n 2, 1) := by decide +kernel
theorem dX1_passYear_36 : decode cX1_passYear 36 = .ok (.getfield 106, 3) := by decide +kernel
theorem dX1_passYear_39 : decode cX1_passYear 39 = .ok (.invokevirtual 147, 3) := by decide +kernel
theorem dX1_passYear_42 : decode cX1_passYear 42 = .ok (.if_icmp .ge 7, 3) := by decide +kernel
theorem dX1_passYear_45 : decode cX1_passYear 45 = .ok (.iconst 1, 1) := by decide +kernel
theorem dX1_passYear_46 : decode cX1_passYear 46 = .ok (.goto 4, 3) := by decide +kernel
theorem dX1_passYear_49 : decode cX1_passYear 49 = .ok (.iconst 0, 1) := by decide +kernel
theorem dX1_passYear_50 : decode cX1_passYear 50 = .ok (.istore_n 3, 1) := by decide +kernel
theorem dX1_passYear_51 : decode cX1_passYear 51 = .ok (.iload_n 3, 1) := by decide +kernel
theorem dX1_passYear_52 : decode cX1_passYear 52 = .ok (.ifCond .eq 13, 3) := by decide +kernel
theorem dX1_passYear_55 : decode cX1_passYear 55 = .ok (.aload_n 0, 1) := by decide +kernel
theorem dX1_passYear_56 : decode cX1_passYear 56 = .ok (.dup, 1) := by decide +kernel
theorem dX1_passYear_57 : decode cX1_passYear 57 = .ok (.getfield 67, 3) := by decide +kernel
theorem dX1_passYear_60 : decode cX1_passYear 60 = .ok (.iconst 1, 1) := by decide +kernel
theorem dX1_passYear_61 : decode cX1_passYear 61 = .ok (.iadd, 1) := by decide +kernel
theorem dX1_passYear_62 : decode cX1_passYear 62 = .ok (.putfield 67, 3) := by decide +kernel
theorem dX1_passYear_65 : decode cX1_passYear 65 = .ok (.aload_n 2, 1) := by decide +kernel
theorem dX1_passYear_66 : decode cX1_passYear 66 = .ok (.iload_n 3, 1) := by decide +kernel
theorem dX1_passYear_67 : decode cX1_passYear 67 = .ok (.invokevirtual 156, 3) := by decide +kernel
theorem dX1_passYear_70 : decode cX1_passYear 70 = .ok (.iinc 1 1, 3) := by decide +kernel
theorem dX1_passYear_73 : decode cX1_passYear 73 = .ok (.goto (-66), 3) := by decide +kernel
theorem dX1_passYear_76 : decode cX1_passYear 76 = .ok (.aload_n 0, 1) := by decide +kernel
theorem dX1_passYear_77 : decode cX1_passYear 77 = .ok (.dup, 1) := by decide +kernel
theorem dX1_passYear_78 : decode cX1_passYear 78 = .ok (.getfield 64, 3) := by decide +kernel
theorem dX1_passYear_81 : decode cX1_passYear 81 = .ok (.iconst 1, 1) := by decide +kernel
theorem dX1_passYear_82 : decode cX1_passYear 82 = .ok (.iadd, 1) := by decide +kernel
theorem dX1_passYear_83 : decode cX1_passYear 83 = .ok (.putfield 64, 3) := by decide +kernel
theorem dX1_passYear_86 : decode cX1_passYear 86 = .ok (.aload_n 0, 1) := by decide +kernel
theorem dX1_passYear_87 : decode cX1_passYear 87 = .ok (.getfield 67, 3) := by decide +kernel
theorem dX1_passYear_90 : decode cX1_passYear 90 = .ok (.ireturn, 1) := by decide +kernel
theorem dX1_drawByTen_0 : decode cX1_drawByTen 0 = .ok (.aload_n 0, 1) := by decide +kernel
theorem dX1_drawByTen_1 : decode cX1_drawByTen 1 = .ok (.aload_n 0, 1) := by decide +kernel
theorem dX1_drawByTen_2 : decode cX1_drawByTen 2 = .ok (.getfield 27, 3) := by decide +kernel
theorem dX1_drawByTen_5 : decode cX1_drawByTen 5 = .ok (.ldc 160, 2) := by decide +kernel
theorem dX1_drawByTen_7 : decode cX1_drawByTen 7 = .ok (.imul, 1) := by decide +kernel
theorem dX1_drawByTen_8 : decode cX1_drawByTen 8 = .ok (.sipush 12345, 3) := by decide +kernel
theorem dX1_drawByTen_11 : decode cX1_drawByTen 11 = .ok (.iadd, 1) := by decide +kernel
theorem dX1_drawByTen_12 : decode cX1_drawByTen 12 = .ok (.ldc 161, 2) := by decide +kernel
theorem dX1_drawByTen_14 : decode cX1_drawByTen 14 = .ok (.iand, 1) := by decide +kernel
theorem dX1_drawByTen_15 : decode cX1_drawByTen 15 = .ok (.putfield 27, 3) := by decide +kernel
theorem dX1_drawByTen_18 : decode cX1_drawByTen 18 = .ok (.aload_n 0, 1) := by decide +kernel
theorem dX1_drawByTen_19 : decode cX1_drawByTen 19 = .ok (.getfield 27, 3) := by decide +kernel
theorem dX1_drawByTen_22 : decode cX1_drawByTen 22 = .ok (.ldc 162, 2) := by decide +kernel
theorem dX1_drawByTen_24 : decode cX1_drawByTen 24 = .ok (.idiv, 1) := by decide +kernel
theorem dX1_drawByTen_25 : decode cX1_drawByTen 25 = .ok (.bipush 10, 2) := by decide +kernel
theorem dX1_drawByTen_27 : decode cX1_drawByTen 27 = .ok (.irem, 1) := by decide +kernel
theorem dX1_drawByTen_28 : decode cX1_drawByTen 28 = .ok (.ireturn, 1) := by decide +kernel
theorem dX3_init_0 : decode cX3_init 0 = .ok (.aload_n 0, 1) := by decide +kernel
theorem dX3_init_1 : decode cX3_init 1 = .ok (.invokespecial 3, 3) := by decide +kernel
theorem dX3_init_4 : decode cX3_init 4 = .ok (.aload_n 0, 1) := by decide +kernel
theorem dX3_init_5 : decode cX3_init 5 = .ok (.bipush 6, 2) := by decide +kernel
theorem dX3_init_7 : decode cX3_init 7 = .ok (.newarray .int, 2) := by decide +kernel
theorem dX3_init_9 : decode cX3_init 9 = .ok (.putfield 9, 3) := by decide +kernel
theorem dX3_init_12 : decode cX3_init 12 = .ok (.aload_n 0, 1) := by decide +kernel
theorem dX3_init_13 : decode cX3_init 13 = .ok (.bipush 6, 2) := by decide +kernel
theorem dX3_init_15 : decode cX3_init 15 = .ok (.newarray .int, 2) := by decide +kernel
theorem dX3_init_17 : decode cX3_init 17 = .ok (.putfield 15, 3) := by decide +kernel
theorem dX3_init_20 : decode cX3_init 20 = .ok (.aload_n 0, 1) := by decide +kernel
theorem dX3_init_21 : decode cX3_init 21 = .ok (.bipush 6, 2) := by decide +kernel
theorem dX3_init_23 : decode cX3_init 23 = .ok (.newarray .int, 2) := by decide +kernel
theorem dX3_init_25 : decode cX3_init 25 = .ok (.putfield 18, 3) := by decide +kernel
theorem dX3_init_28 : decode cX3_init 28 = .ok (.aload_n 0, 1) := by decide +kernel
theorem dX3_init_29 : decode cX3_init 29 = .ok (.bipush 6, 2) := by decide +kernel
theorem dX3_init_31 : decode cX3_init 31 = .ok (.newarray .int, 2) := by decide +kernel
theorem dX3_init_33 : decode cX3_init 33 = .ok (.putfield 21, 3) := by decide +kernel
theorem dX3_init_36 : decode cX3_init 36 = .ok (.aload_n 0, 1) := by decide +kernel
theorem dX3_init_37 : decode cX3_init 37 = .ok (.bipush 7, 2) := by decide +kernel
theorem dX3_init_39 : decode cX3_init 39 = .ok (.newarray .int, 2) := by decide +kernel
theorem dX3_init_41 : decode cX3_init 41 = .ok (.putfield 24, 3) := by decide +kernel
theorem dX3_init_44 : decode cX3_init 44 = .ok (.aload_n 0, 1) := by decide +kernel
theorem dX3_init_45 : decode cX3_init 45 = .ok (.bipush 36, 2) := by decide +kernel
theorem dX3_init_47 : decode cX3_init 47 = .ok (.newarray .int, 2) := by decide +kernel
theorem dX3_init_49 : decode cX3_init 49 = .ok (.putfield 27, 3) := by decide +kernel
theorem dX3_init_52 : decode cX3_init 52 = .ok (.aload_n 0, 1) := by decide +kernel
theorem dX3_init_53 : decode cX3_init 53 = .ok (.bipush 6, 2) := by decide +kernel
theorem dX3_init_55 : decode cX3_init 55 = .ok (.newarray .int, 2) := by decide +kernel
theorem dX3_init_57 : decode cX3_init 57 = .ok (.putfield 30, 3) := by decide +kernel
theorem dX3_init_60 : decode cX3_init 60 = .ok (.aload_n 0, 1) := by decide +kernel
theorem dX3_init_61 : decode cX3_init 61 = .ok (.bipush 6, 2) := by decide +kernel
theorem dX3_init_63 : decode cX3_init 63 = .ok (.newarray .int, 2) := by decide +kernel
theorem dX3_init_65 : decode cX3_init 65 = .ok (.putfield 33, 3) := by decide +kernel
theorem dX3_init_68 : decode cX3_init 68 = .ok (.return_, 1) := by decide +kernel
theorem dX3_lay_0 : decode cX3_lay 0 = .ok (.aload_n 0, 1) := by decide +kernel
theorem dX3_lay_1 : decode cX3_lay 1 = .ok (.aload_n 1, 1) := by decide +kernel
theorem dX3_lay_2 : decode cX3_lay 2 = .ok (.getfield 36, 3) := by decide +kernel
theorem dX3_lay_5 : decode cX3_lay 5 = .ok (.putfield 42, 3) := by decide +kernel
theorem dX3_lay_8 : decode cX3_lay 8 = .ok (.aload_n 0, 1) := by decide +kernel
theorem dX3_lay_9 : decode cX3_lay 9 = .ok (.iconst 1, 1) := by decide +kernel
theorem dX3_lay_10 : decode cX3_lay 10 = .ok (.aload_n 1, 1) := by decide +kernel
theorem dX3_lay_11 : decode cX3_lay 11 = .ok (.getfield 43, 3) := by decide +kernel
theorem dX3_lay_14 : decode cX3_lay 14 = .ok (.ishl, 1) := by decide +kernel
theorem dX3_lay_15 : decode cX3_lay 15 = .ok (.iconst 1, 1) := by decide +kernel
theorem dX3_lay_16 : decode cX3_lay 16 = .ok (.isub, 1) := by decide +kernel
theorem dX3_lay_17 : decode cX3_lay 17 = .ok (.putfield 46, 3) := by decide +kernel
theorem dX3_lay_20 : decode cX3_lay 20 = .ok (.aload_n 0, 1) := by decide +kernel
theorem dX3_lay_21 : decode cX3_lay 21 = .ok (.aload_n 1, 1) := by decide +kernel
theorem dX3_lay_22 : decode cX3_lay 22 = .ok (.invokevirtual 49, 3) := by decide +kernel
theorem dX3_lay_25 : decode cX3_lay 25 = .ok (.aload_n 0, 1) := by decide +kernel
theorem dX3_lay_26 : decode cX3_lay 26 = .ok (.getfield 24, 3) := by decide +kernel
theorem dX3_lay_29 : decode cX3_lay 29 = .ok (.aload_n 0, 1) := by decide +kernel
theorem dX3_lay_30 : decode cX3_lay 30 = .ok (.getfield 42, 3) := by decide +kernel
theorem dX3_lay_33 : decode cX3_lay 33 = .ok (.iconst 0, 1) := by decide +kernel
theorem dX3_lay_34 : decode cX3_lay 34 = .ok (.iastore, 1) := by decide +kernel
theorem dX3_lay_35 : decode cX3_lay 35 = .ok (.aload_n 0, 1) := by decide +kernel
theorem dX3_lay_36 : decode cX3_lay 36 = .ok (.getfield 42, 3) := by decide +kernel
theorem dX3_lay_39 : decode cX3_lay 39 = .ok (.iconst 1, 1) := by decide +kernel
theorem dX3_lay_40 : decode cX3_lay 40 = .ok (.isub, 1) := by decide +kernel
theorem dX3_lay_41 : decode cX3_lay 41 = .ok (.istore_n 2, 1) := by decide +kernel
theorem dX3_lay_42 : decode cX3_lay 42 = .ok (.iload_n 2, 1) := by decide +kernel
theorem dX3_lay_43 : decode cX3_lay 43 = .ok (.ifCond .lt 36, 3) := by decide +kernel
theorem dX3_lay_46 : decode cX3_lay 46 = .ok (.aload_n 0, 1) := by decide +kernel
theorem dX3_lay_47 : decode cX3_lay 47 = .ok (.iload_n 2, 1) := by decide +kernel
theorem dX3_lay_48 : decode cX3_lay 48 = .ok (.aload_n 1, 1) := by decide +kernel
theorem dX3_lay_49 : decode cX3_lay 49 = .ok (.invokevirtual 53, 3) := by decide +kernel
theorem dX3_lay_52 : decode cX3_lay 52 = .ok (.aload_n 0, 1) := by decide +kernel
theorem dX3_lay_53 : decode cX3_lay 53 = .ok (.getfield 24, 3) := by decide +kernel
theorem dX3_lay_56 : decode cX3_lay 56 = .ok (.iload_n 2, 1) := by decide +kernel
theorem dX3_lay_57 : decode cX3_lay 57 = .ok (.aload_n 0, 1) := by decide +kernel
theorem dX3_lay_58 : decode cX3_lay 58 = .ok (.getfield 24, 3) := by decide +kernel
theorem dX3_lay_61 : decode cX3_lay 61 = .ok (.iload_n 2, 1) := by decide +kernel
theorem dX3_lay_62 : decode cX3_lay 62 = .ok (.iconst 1, 1) := by decide +kernel
theorem dX3_lay_63 : decode cX3_lay 63 = .ok (.iadd, 1) := by decide +kernel
theorem dX3_lay_64 : decode cX3_lay 64 = .ok (.iaload, 1) := by decide +kernel
theorem dX3_lay_65 : decode cX3_lay 65 = .ok (.aload_n 0, 1) := by decide +kernel
theorem dX3_lay_66 : decode cX3_lay 66 = .ok (.getfield 15, 3) := by decide +kernel
theorem dX3_lay_69 : decode cX3_lay 69 = .ok (.iload_n 2, 1) := by decide +kernel
theorem dX3_lay_70 : decode cX3_lay 70 = .ok (.iaload, 1) := by decide +kernel
theorem dX3_lay_71 : decode cX3_lay 71 = .ok (.iadd, 1) := by decide +kernel
theorem dX3_lay_72 : decode cX3_lay 72 = .ok (.iastore, 1) := by decide +kernel
theorem dX3_lay_73 : decode cX3_lay 73 = .ok (.iinc 2 (-1), 3) := by decide +kernel
theorem dX3_lay_76 : decode cX3_lay 76 = .ok (.goto (-34), 3) := by decide +kernel
theorem dX3_lay_79 : decode cX3_lay 79 = .ok (.return_, 1) := by decide +kernel
theorem dX3_layFolk_0 : decode cX3_layFolk 0 = .ok (.aload_n 0, 1) := by decide +kernel
theorem dX3_layFolk_1 : decode cX3_layFolk 1 = .ok (.iconst 0, 1) := by decide +kernel
theorem dX3_layFolk_2 : decode cX3_layFolk 2 = .ok (.putfield 57, 3) := by decide +kernel
theorem dX3_layFolk_5 : decode cX3_layFolk 5 = .ok (.iconst 0, 1) := by decide +kernel
theorem dX3_layFolk_6 : decode cX3_layFolk 6 = .ok (.istore_n 2, 1) := by decide +kernel
theorem dX3_layFolk_7 : decode cX3_layFolk 7 = .ok (.iload_n 2, 1) := by decide +kernel
theorem dX3_layFolk_8 : decode cX3_layFolk 8 = .ok (.bipush 6, 2) := by decide +kernel
theorem dX3_layFolk_10 : decode cX3_layFolk 10 = .ok (.if_icmp .ge 78, 3) := by decide +kernel
theorem dX3_layFolk_13 : decode cX3_layFolk 13 = .ok (.aload_n 0, 1) := by decide +kernel
theorem dX3_layFolk_14 : decode cX3_layFolk 14 = .ok (.getfield 30, 3) := by decide +kernel
theorem dX3_layFolk_17 : decode cX3_layFolk 17 = .ok (.iload_n 2, 1) := by decide +kernel
theorem dX3_layFolk_18 : decode cX3_layFolk 18 = .ok (.aload_n 1, 1) := by decide +kernel
theorem dX3_layFolk_19 : decode cX3_layFolk 19 = .ok (.iload_n 2, 1) := by decide +kernel
theorem dX3_layFolk_20 : decode cX3_layFolk 20 = .ok (.invokevirtual 60, 3) := by decide +kernel
theorem dX3_layFolk_23 : decode cX3_layFolk 23 = .ok (.iastore, 1) := by decide +kernel
theorem dX3_layFolk_24 : decode cX3_layFolk 24 = .ok (.aload_n 0, 1) := by decide +kernel
theorem dX3_layFolk_25 : decode cX3_layFolk 25 = .ok (.getfield 33, 3) := by decide +kernel
theorem dX3_layFolk_28 : decode cX3_layFolk 28 = .ok (.iload_n 2, 1) := by decide +kernel
theorem dX3_layFolk_29 : decode cX3_layFolk 29 = .ok (.iconst 0, 1) := by decide +kernel
theorem dX3_layFolk_30 : decode cX3_layFolk 30 = .ok (.iastore, 1) := by decide +kernel
theorem dX3_layFolk_31 : decode cX3_layFolk 31 = .ok (.aload_n 1, 1) := by decide +kernel
theorem dX3_layFolk_32 : decode cX3_layFolk 32 = .ok (.iload_n 2, 1) := by decide +kernel
theorem dX3_layFolk_33 : decode cX3_layFolk 33 = .ok (.invokevirtual 64, 3) := by decide +kernel
theorem dX3_layFolk_36 : decode cX3_layFolk 36 = .ok (.ifCond .eq 46, 3) := by decide +kernel
theorem dX3_layFolk_39 : decode cX3_layFolk 39 = .ok (.aload_n 0, 1) := by decide +kernel
theorem dX3_layFolk_40 : decode cX3_layFolk 40 = .ok (.getfield 33, 3) := by decide +kernel
theorem dX3_layFolk_43 : decode cX3_layFolk 43 = .ok (.iload_n 2, 1) := by decide +kernel
theorem dX3_layFolk_44 : decode cX3_layFolk 44 = .ok (.aload_n 1, 1) := by decide +kernel
theorem dX3_layFolk_45 : decode cX3_layFolk 45 = .ok (.getfield 68, 3) := by decide +kernel
theorem dX3_layFolk_48 : decode cX3_layFolk 48 = .ok (.iload_n 2, 1) := by decide +kernel
theorem dX3_layFolk_49 : decode cX3_layFolk 49 = .ok (.aaload, 1) := by decide +kernel
theorem dX3_layFolk_50 : decode cX3_layFolk 50 = .ok (.getfield 72, 3) := by decide +kernel
theorem dX3_layFolk_53 : decode cX3_layFolk 53 = .ok (.iastore, 1) := by decide +kernel
theorem dX3_layFolk_54 : decode cX3_layFolk 54 = .ok (.aload_n 0, 1) := by decide +kernel
theorem dX3_layFolk_55 : decode cX3_layFolk 55 = .ok (.dup, 1) := by decide +kernel
theorem dX3_layFolk_56 : decode cX3_layFolk 56 = .ok (.getfield 57, 3) := by decide +kernel
theorem dX3_layFolk_59 : decode cX3_layFolk 59 = .ok (.aload_n 1, 1) := by decide +kernel
theorem dX3_layFolk_60 : decode cX3_layFolk 60 = .ok (.getfield 68, 3) := by decide +kernel
theorem dX3_layFolk_63 : decode cX3_layFolk 63 = .ok (.iload_n 2, 1) := by decide +kernel
theorem dX3_layFolk_64 : decode cX3_layFolk 64 = .ok (.aaload, 1) := by decide +kernel
theorem dX3_layFolk_65 : decode cX3_layFolk 65 = .ok (.invokevirtual 77, 3) := by decide +kernel
theorem dX3_layFolk_68 : decode cX3_layFolk 68 = .ok (.ifCond .eq 9, 3) := by decide +kernel
theorem dX3_layFolk_71 : decode cX3_layFolk 71 = .ok (.iconst 1, 1) := by decide +kernel
theorem dX3_layFolk_72 : decode cX3_layFolk 72 = .ok (.iload_n 2, 1) := by decide +kernel
theorem dX3_layFolk_73 : decode cX3_layFolk 73 = .ok (.ishl, 1) := by decide +kernel
theorem dX3_layFolk_74 : decode cX3_layFolk 74 = .ok (.goto 4, 3) := by decide +kernel
theorem dX3_layFolk_77 : decode cX3_layFolk 77 = .ok (.iconst 0, 1) := by decide +kernel
theorem dX3_layFolk_78 : decode cX3_layFolk 78 = .ok (.ior, 1) := by decide +kernel
theorem dX3_layFolk_79 : decode cX3_layFolk 79 = .ok (.putfield 57, 3) := by decide +kernel
theorem dX3_layFolk_82 : decode cX3_layFolk 82 = .ok (.iinc 2 1, 3) := by decide +kernel
theorem dX3_layFolk_85 : decode cX3_layFolk 85 = .ok (.goto (-78), 3) := by decide +kernel
theorem dX3_layFolk_88 : decode cX3_layFolk 88 = .ok (.return_, 1) := by decide +kernel
theorem dX3_layTree_0 : decode cX3_layTree 0 = .ok (.aload_n 2, 1) := by decide +kernel
theorem dX3_layTree_1 : decode cX3_layTree 1 = .ok (.getfield 81, 3) := by decide +kernel
theorem dX3_layTree_4 : decode cX3_layTree 4 = .ok (.iload_n 1, 1) := by decide +kernel
theorem dX3_layTree_5 : decode cX3_layTree 5 = .ok (.aaload, 1) := by decide +kernel
theorem dX3_layTree_6 : decode cX3_layTree 6 = .ok (.astore_n 3, 1) := by decide +kernel
theorem dX3_layTree_7 : decode cX3_layTree 7 = .ok (.aload_n 0, 1) := by decide +kernel
theorem dX3_layTree_8 : decode cX3_layTree 8 = .ok (.getfield 9, 3) := by decide +kernel
theorem dX3_layTree_11 : decode cX3_layTree 11 = .ok (.iload_n 1, 1) := by decide +kernel
theorem dX3_layTree_12 : decode cX3_layTree 12 = .ok (.aload_n 0, 1) := by decide +kernel
theorem dX3_layTree_13 : decode cX3_layTree 13 = .ok (.getfield 46, 3) := by decide +kernel
theorem dX3_layTree_16 : decode cX3_layTree 16 = .ok (.aload_n 3, 1) := by decide +kernel
theorem dX3_layTree_17 : decode cX3_layTree 17 = .ok (.getfield 85, 3) := by decide +kernel
theorem dX3_layTree_20 : decode cX3_layTree 20 = .ok (.iconst (-1), 1) := by decide +kernel
theorem dX3_layTree_21 : decode cX3_layTree 21 = .ok (.ixor, 1) := by decide +kernel
theorem dX3_layTree_22 : decode cX3_layTree 22 = .ok (.iand, 1) := by decide +kernel
theorem dX3_layTree_23 : decode cX3_layTree 23 = .ok (.iastore, 1) := by decide +kernel
theorem dX3_layTree_24 : decode cX3_layTree 24 = .ok (.aload_n 0, 1) := by decide +kernel
theorem dX3_layTree_25 : decode cX3_layTree 25 = .ok (.getfield 15, 3) := by decide +kernel
theorem dX3_layTree_28 : decode cX3_layTree 28 = .ok (.iload_n 1, 1) := by decide +kernel
theorem dX3_layTree_29 : decode cX3_layTree 29 = .ok (.aload_n 3, 1) := by decide +kernel
theorem dX3_layTree_30 : decode cX3_layTree 30 = .ok (.getfield 90, 3) := by decide +kernel
theorem dX3_layTree_33 : decode cX3_layTree 33 = .ok (.iconst 0, 1) := by decide +kernel
theorem dX3_layTree_34 : decode cX3_layTree 34 = .ok (.invokestatic 93, 3) := by decide +kernel
theorem dX3_layTree_37 : decode cX3_layTree 37 = .ok (.iastore, 1) := by decide +kernel
theorem dX3_layTree_38 : decode cX3_layTree 38 = .ok (.aload_n 0, 1) := by decide +kernel
theorem dX3_layTree_39 : decode cX3_layTree 39 = .ok (.getfield 18, 3) := by decide +kernel
theorem dX3_layTree_42 : decode cX3_layTree 42 = .ok (.iload_n 1, 1) := by decide +kernel
theorem dX3_layTree_43 : decode cX3_layTree 43 = .ok (.aload_n 3, 1) := by decide +kernel
theorem dX3_layTree_44 : decode cX3_layTree 44 = .ok (.getfield 90, 3) := by decide +kernel
theorem dX3_layTree_47 : decode cX3_layTree 47 = .ok (.aload_n 3, 1) := by decide +kernel
theorem dX3_layTree_48 : decode cX3_layTree 48 = .ok (.getfield 97, 3) := by decide +kernel
theorem dX3_layTree_51 : decode cX3_layTree 51 = .ok (.invokestatic 101, 3) := by decide +kernel
theorem dX3_layTree_54 : decode cX3_layTree 54 = .ok (.iastore, 1) := by decide +kernel
theorem dX3_layTree_55 : decode cX3_layTree 55 = .ok (.aload_n 0, 1) := by decide +kernel
theorem dX3_layTree_56 : decode cX3_layTree 56 = .ok (.getfield 21, 3) := by decide +kernel
theorem dX3_layTree_59 : decode cX3_layTree 59 = .ok (.iload_n 1, 1) := by decide +kernel
theorem dX3_layTree_60 : decode cX3_layTree 60 = .ok (.aload_n 2, 1) := by decide +kernel
theorem dX3_layTree_61 : decode cX3_layTree 61 = .ok (.aload_n 3, 1) := by decide +kernel
theorem dX3_layTree_62 : decode cX3_layTree 62 = .ok (.getfield 104, 3) := by decide +kernel
theorem dX3_layTree_65 : decode cX3_layTree 65 = .ok (.invokevirtual 60, 3) := by decide +kernel
theorem dX3_layTree_68 : decode cX3_layTree 68 = .ok (.iastore, 1) := by decide +kernel
theorem dX3_layTree_69 : decode cX3_layTree 69 = .ok (.aload_n 0, 1) := by decide +kernel
theorem dX3_layTree_70 : decode cX3_layTree 70 = .ok (.getfield 18, 3) := by decide +kernel
theorem dX3_layTree_73 : decode cX3_layTree 73 = .ok (.iload_n 1, 1) := by decide +kernel
theorem dX3_layTree_74 : decode cX3_layTree 74 = .ok (.iaload, 1) := by decide +kernel
theorem dX3_layTree_75 : decode cX3_layTree 75 = .ok (.aload_n 2, 1) := by decide +kernel
theorem dX3_layTree_76 : decode cX3_layTree 76 = .ok (.aload_n 3, 1) := by decide +kernel
theorem dX3_layTree_77 : decode cX3_layTree 77 = .ok (.getfield 104, 3) := by decide +kernel
theorem dX3_layTree_80 : decode cX3_layTree 80 = .ok (.invokevirtual 107, 3) := by decide +kernel
theorem dX3_layTree_83 : decode cX3_layTree 83 = .ok (.imul, 1) := by decide +kernel
theorem dX3_layTree_84 : decode cX3_layTree 84 = .ok (.istore 4, 2) := by decide +kernel
theorem dX3_layTree_86 : decode cX3_layTree 86 = .ok (.iconst 0, 1) := by decide +kernel
theorem dX3_layTree_87 : decode cX3_layTree 87 = .ok (.istore 5, 2) := by decide +kernel
theorem dX3_layTree_89 : decode cX3_layTree 89 = .ok (.iload 5, 2) := by decide +kernel
theorem dX3_layTree_91 : decode cX3_layTree 91 = .ok (.bipush 6, 2) := by decide +kernel
theorem dX3_layTree_93 : decode cX3_layTree 93 = .ok (.if_icmp .ge 37, 3) := by decide +kernel
theorem dX3_layTree_96 : decode cX3_layTree 96 = .ok (.aload_n 0, 1) := by decide +kernel
theorem dX3_layTree_97 : decode cX3_layTree 97 = .ok (.getfield 27, 3) := by decide +kernel
theorem dX3_layTree_100 : decode cX3_layTree 100 = .ok (.iload_n 1, 1) := by decide +kernel
theorem dX3_layTree_101 : decode cX3_layTree 101 = .ok (.bipush 6, 2) := by decide +kernel
theorem dX3_layTree_103 : decode cX3_layTree 103 = .ok (.imul, 1) := by decide +kernel
theorem dX3_layTree_104 : decode cX3_layTree 104 = .ok (.iload 5, 2) := by decide +kernel
theorem dX3_layTree_106 : decode cX3_layTree 106 = .ok (.iadd, 1) := by decide +kernel
theorem dX3_layTree_107 : decode cX3_layTree 107 = .ok (.aload_n 0, 1) := by decide +kernel
theorem dX3_layTree_108 : decode cX3_layTree 108 = .ok (.getfield 15, 3) := by decide +kernel
theorem dX3_layTree_111 : decode cX3_layTree 111 = .ok (.iload_n 1, 1) := by decide +kernel
theorem dX3_layTree_112 : decode cX3_layTree 112 = .ok (.iaload, 1) := by decide +kernel
theorem dX3_layTree_113 : decode cX3_layTree 113 = .ok (.aload_n 2, 1) := by decide +kernel
theorem dX3_layTree_114 : decode cX3_layTree 114 = .ok (.iload 5, 2) := by decide +kernel
theorem dX3_layTree_116 : decode cX3_layTree 116 = .ok (.invokevirtual 107, 3) := by decide +kernel
theorem dX3_layTree_119 : decode cX3_layTree 119 = .ok (.imul, 1) := by decide +kernel
theorem dX3_layTree_120 : decode cX3_layTree 120 = .ok (.iload 4, 2) := by decide +kernel
theorem dX3_layTree_122 : decode cX3_layTree 122 = .ok (.iadd, 1) := by decide +kernel
theorem dX3_layTree_123 : decode cX3_layTree 123 = .ok (.iastore, 1) := by decide +kernel
theorem dX3_layTree_124 : decode cX3_layTree 124 = .ok (.iinc 5 1, 3) := by decide +kernel
theorem dX3_layTree_127 : decode cX3_layTree 127 = .ok (.goto (-38), 3) := by decide +kernel
theorem dX3_layTree_130 : decode cX3_layTree 130 = .ok (.return_, 1) := by decide +kernel
theorem dX3_freeClimbers_0 : decode cX3_freeClimbers 0 = .ok (.aload_n 0, 1) := by decide +kernel
theorem dX3_freeClimbers_1 : decode cX3_freeClimbers 1 = .ok (.getfield 9, 3) := by decide +kernel
theorem dX3_freeClimbers_4 : decode cX3_freeClimbers 4 = .ok (.iload_n 1, 1) := by decide +kernel
theorem dX3_freeClimbers_5 : decode cX3_freeClimbers 5 = .ok (.iaload, 1) := by decide +kernel
theorem dX3_freeClimbers_6 : decode cX3_freeClimbers 6 = .ok (.iload_n 2, 1) := by decide +kernel
theorem dX3_freeClimbers_7 : decode cX3_freeClimbers 7 = .ok (.aload_n 0, 1) := by decide +kernel
theorem dX3_freeClimbers_8 : decode cX3_freeClimbers 8 = .ok (.getfield 57, 3) := by decide +kernel
theorem dX3_freeClimbers_11 : decode cX3_freeClimbers 11 = .ok (.iconst (-1), 1) := by decide +kernel
theorem dX3_freeClimbers_12 : decode cX3_freeClimbers 12 = .ok (.ixor, 1) := by decide +kernel
theorem dX3_freeClimbers_13 : decode cX3_freeClimbers 13 = .ok (.iand, 1) := by decide +kernel
theorem dX3_freeClimbers_14 : decode cX3_freeClimbers 14 = .ok (.iconst (-1), 1) := by decide +kernel
theorem dX3_freeClimbers_15 : decode cX3_freeClimbers 15 = .ok (.ixor, 1) := by decide +kernel
theorem dX3_freeClimbers_16 : decode cX3_freeClimbers 16 = .ok (.iand, 1) := by decide +kernel
theorem dX3_freeClimbers_17 : decode cX3_freeClimbers 17 = .ok (.ireturn, 1) := by decide +kernel
theorem dX3_freeFolk_0 : decode cX3_freeFolk 0 = .ok (.aload_n 0, 1) := by decide +kernel
theorem dX3_freeFolk_1 : decode cX3_freeFolk 1 = .ok (.iload_n 1, 1) := by decide +kernel
theorem dX3_freeFolk_2 : decode cX3_freeFolk 2 = .ok (.iload_n 2, 1) := by decide +kernel
theorem dX3_freeFolk_3 : decode cX3_freeFolk 3 = .ok (.invokevirtual 110, 3) := by decide +kernel
theorem dX3_freeFolk_6 : decode cX3_freeFolk 6 = .ok (.bipush 32, 2) := by decide +kernel
theorem dX3_freeFolk_8 : decode cX3_freeFolk 8 = .ok (.ior, 1) := by decide +kernel
theorem dX3_freeFolk_9 : decode cX3_freeFolk 9 = .ok (.ireturn, 1) := by decide +kernel
theorem dX3_join_0 : decode cX3_join 0 = .ok (.iload_n 2, 1) := by decide +kernel
theorem dX3_join_1 : decode cX3_join 1 = .ok (.iconst 5, 1) := by decide +kernel
theorem dX3_join_2 : decode cX3_join 2 = .ok (.if_icmp .ne 7, 3) := by decide +kernel
theorem dX3_join_5 : decode cX3_join 5 = .ok (.iload_n 1, 1) := by decide +kernel
theorem dX3_join_6 : decode cX3_join 6 = .ok (.goto 8, 3) := by decide +kernel
theorem dX3_join_9 : decode cX3_join 9 = .ok (.iload_n 1, 1) := by decide +kernel
theorem dX3_join_10 : decode cX3_join 10 = .ok (.iconst 1, 1) := by decide +kernel
theorem dX3_join_11 : decode cX3_join 11 = .ok (.iload_n 2, 1) := by decide +kernel
theorem dX3_join_12 : decode cX3_join 12 = .ok (.ishl, 1) := by decide +kernel
theorem dX3_join_13 : decode cX3_join 13 = .ok (.ior, 1) := by decide +kernel
theorem dX3_join_14 : decode cX3_join 14 = .ok (.ireturn, 1) := by decide +kernel
theorem dX3_newWage_0 : decode cX3_newWage 0 = .ok (.iload_n 1, 1) := by decide +kernel
theorem dX3_newWage_1 : decode cX3_newWage 1 = .ok (.iload_n 2, 1) := by decide +kernel
theorem dX3_newWage_2 : decode cX3_newWage 2 = .ok (.invokestatic 114, 3) := by decide +kernel
theorem dX3_newWage_5 : decode cX3_newWage 5 = .ok (.ifCond .eq 7, 3) := by decide +kernel
theorem dX3_newWage_8 : decode cX3_newWage 8 = .ok (.iconst 0, 1) := by decide +kernel
theorem dX3_newWage_9 : decode cX3_newWage 9 = .ok (.goto 9, 3) := by decide +kernel
theorem dX3_newWage_12 : decode cX3_newWage 12 = .ok (.aload_n 0, 1) := by decide +kernel
theorem dX3_newWage_13 : decode cX3_newWage 13 = .ok (.getfield 33, 3) := by decide +kernel
theorem dX3_newWage_16 : decode cX3_newWage 16 = .ok (.iload_n 2, 1) := by decide +kernel
theorem dX3_newWage_17 : decode cX3_newWage 17 = .ok (.iaload, 1) := by decide +kernel
theorem dX3_newWage_18 : decode cX3_newWage 18 = .ok (.ireturn, 1) := by decide +kernel
theorem dX3_valueBy_0 : decode cX3_valueBy 0 = .ok (.aload_n 0, 1) := by decide +kernel
theorem dX3_valueBy_1 : decode cX3_valueBy 1 = .ok (.getfield 27, 3) := by decide +kernel
theorem dX3_valueBy_4 : decode cX3_valueBy 4 = .ok (.iload_n 1, 1) := by decide +kernel
theorem dX3_valueBy_5 : decode cX3_valueBy 5 = .ok (.bipush 6, 2) := by decide +kernel
theorem dX3_valueBy_7 : decode cX3_valueBy 7 = .ok (.imul, 1) := by decide +kernel
theorem dX3_valueBy_8 : decode cX3_valueBy 8 = .ok (.iload_n 2, 1) := by decide +kernel
theorem dX3_valueBy_9 : decode cX3_valueBy 9 = .ok (.iadd, 1) := by decide +kernel
theorem dX3_valueBy_10 : decode cX3_valueBy 10 = .ok (.iaload, 1) := by decide +kernel
theorem dX3_valueBy_11 : decode cX3_valueBy 11 = .ok (.ireturn, 1) := by decide +kernel
theorem dX3_wouldBear_0 : decode cX3_wouldBear 0 = .ok (.aload_n 0, 1) := by decide +kernel
theorem dX3_wouldBear_1 : decode cX3_wouldBear 1 = .ok (.getfield 15, 3) := by decide +kernel
theorem dX3_wouldBear_4 : decode cX3_wouldBear 4 = .ok (.iload_n 1, 1) := by decide +kernel
theorem dX3_wouldBear_5 : decode cX3_wouldBear 5 = .ok (.iaload, 1) := by decide +kernel
theorem dX3_wouldBear_6 : decode cX3_wouldBear 6 = .ok (.ifCond .le 13, 3) := by decide +kernel
theorem dX3_wouldBear_9 : decode cX3_wouldBear 9 = .ok (.aload_n 0, 1) := by decide +kernel
theorem dX3_wouldBear_10 : decode cX3_wouldBear 10 = .ok (.getfield 30, 3) := by decide +kernel
theorem dX3_wouldBear_13 : decode cX3_wouldBear 13 = .ok (.iload_n 2, 1) := by decide +kernel
theorem dX3_wouldBear_14 : decode cX3_wouldBear 14 = .ok (.iaload, 1) := by decide +kernel
end
section
theorem dX3_wouldBear_15 : decode cX3_wouldBear 15 = .ok (.iload_n 3, 1) := by decide +kernel
theorem dX3_wouldBear_16 : decode cX3_wouldBear 16 = .ok (.if_icmp .eq 22, 3) := by decide +kernel
theorem dX3_wouldBear_19 : decode cX3_wouldBear 19 = .ok (.aload_n 0, 1) := by decide +kernel
theorem dX3_wouldBear_20 : decode cX3_wouldBear 20 = .ok (.getfield 18, 3) := by decide +kernel
theorem dX3_wouldBear_23 : decode cX3_wouldBear 23 = .ok (.iload_n 1, 1) := by decide +kernel
theorem dX3_wouldBear_24 : decode cX3_wouldBear 24 = .ok (.iaload, 1) := by decide +kernel
theorem dX3_wouldBear_25 : decode cX3_wouldBear 25 = .ok (.ifCond .le 17, 3) := by decide +kernel
theorem dX3_wouldBear_28 : decode cX3_wouldBear 28 = .ok (.aload_n 0, 1) := by decide +kernel
theorem dX3_wouldBear_29 : decode cX3_wouldBear 29 = .ok (.getfield 21, 3) := by decide +kernel
theorem dX3_wouldBear_32 : decode cX3_wouldBear 32 = .ok (.iload_n 1, 1) := by decide +kernel
theorem dX3_wouldBear_33 : decode cX3_wouldBear 33 = .ok (.iaload, 1) := by decide +kernel
theorem dX3_wouldBear_34 : decode cX3_wouldBear 34 = .ok (.iload_n 3, 1) := by decide +kernel
theorem dX3_wouldBear_35 : decode cX3_wouldBear 35 = .ok (.if_icmp .ne 7, 3) := by decide +kernel
theorem dX3_wouldBear_38 : decode cX3_wouldBear 38 = .ok (.iconst 1, 1) := by decide +kernel
theorem dX3_wouldBear_39 : decode cX3_wouldBear 39 = .ok (.goto 4, 3) := by decide +kernel
theorem dX3_wouldBear_42 : decode cX3_wouldBear 42 = .ok (.iconst 0, 1) := by decide +kernel
theorem dX3_wouldBear_43 : decode cX3_wouldBear 43 = .ok (.ireturn, 1) := by decide +kernel
theorem dX2_init_0 : decode cX2_init 0 = .ok (.aload_n 0, 1) := by decide +kernel
theorem dX2_init_1 : decode cX2_init 1 = .ok (.invokespecial 3, 3) := by decide +kernel
theorem dX2_init_4 : decode cX2_init 4 = .ok (.aload_n 0, 1) := by decide +kernel
theorem dX2_init_5 : decode cX2_init 5 = .ok (.sipush 224, 3) := by decide +kernel
theorem dX2_init_8 : decode cX2_init 8 = .ok (.newarray .int, 2) := by decide +kernel
theorem dX2_init_10 : decode cX2_init 10 = .ok (.putfield 9, 3) := by decide +kernel
theorem dX2_init_13 : decode cX2_init 13 = .ok (.aload_n 0, 1) := by decide +kernel
theorem dX2_init_14 : decode cX2_init 14 = .ok (.bipush 6, 2) := by decide +kernel
theorem dX2_init_16 : decode cX2_init 16 = .ok (.newarray .int, 2) := by decide +kernel
theorem dX2_init_18 : decode cX2_init 18 = .ok (.putfield 15, 3) := by decide +kernel
theorem dX2_init_21 : decode cX2_init 21 = .ok (.aload_n 0, 1) := by decide +kernel
theorem dX2_init_22 : decode cX2_init 22 = .ok (.aload_n 1, 1) := by decide +kernel
theorem dX2_init_23 : decode cX2_init 23 = .ok (.putfield 18, 3) := by decide +kernel
theorem dX2_init_26 : decode cX2_init 26 = .ok (.return_, 1) := by decide +kernel
theorem dX2_mostGain_0 : decode cX2_mostGain 0 = .ok (.aload_n 0, 1) := by decide +kernel
theorem dX2_mostGain_1 : decode cX2_mostGain 1 = .ok (.iload_n 1, 1) := by decide +kernel
theorem dX2_mostGain_2 : decode cX2_mostGain 2 = .ok (.putfield 22, 3) := by decide +kernel
theorem dX2_mostGain_5 : decode cX2_mostGain 5 = .ok (.aload_n 0, 1) := by decide +kernel
theorem dX2_mostGain_6 : decode cX2_mostGain 6 = .ok (.iload_n 2, 1) := by decide +kernel
theorem dX2_mostGain_7 : decode cX2_mostGain 7 = .ok (.putfield 26, 3) := by decide +kernel
theorem dX2_mostGain_10 : decode cX2_mostGain 10 = .ok (.aload_n 0, 1) := by decide +kernel
theorem dX2_mostGain_11 : decode cX2_mostGain 11 = .ok (.getfield 9, 3) := by decide +kernel
theorem dX2_mostGain_14 : decode cX2_mostGain 14 = .ok (.iconst 0, 1) := by decide +kernel
theorem dX2_mostGain_15 : decode cX2_mostGain 15 = .ok (.invokestatic 29, 3) := by decide +kernel
theorem dX2_mostGain_18 : decode cX2_mostGain 18 = .ok (.aload_n 0, 1) := by decide +kernel
theorem dX2_mostGain_19 : decode cX2_mostGain 19 = .ok (.getfield 18, 3) := by decide +kernel
theorem dX2_mostGain_22 : decode cX2_mostGain 22 = .ok (.getfield 35, 3) := by decide +kernel
theorem dX2_mostGain_25 : decode cX2_mostGain 25 = .ok (.iconst 1, 1) := by decide +kernel
theorem dX2_mostGain_26 : decode cX2_mostGain 26 = .ok (.isub, 1) := by decide +kernel
theorem dX2_mostGain_27 : decode cX2_mostGain 27 = .ok (.istore_n 3, 1) := by decide +kernel
theorem dX2_mostGain_28 : decode cX2_mostGain 28 = .ok (.iload_n 3, 1) := by decide +kernel
theorem dX2_mostGain_29 : decode cX2_mostGain 29 = .ok (.ifCond .lt 49, 3) := by decide +kernel
theorem dX2_mostGain_32 : decode cX2_mostGain 32 = .ok (.iconst 0, 1) := by decide +kernel
theorem dX2_mostGain_33 : decode cX2_mostGain 33 = .ok (.istore 4, 2) := by decide +kernel
theorem dX2_mostGain_35 : decode cX2_mostGain 35 = .ok (.iload 4, 2) := by decide +kernel
theorem dX2_mostGain_37 : decode cX2_mostGain 37 = .ok (.aload_n 0, 1) := by decide +kernel
theorem dX2_mostGain_38 : decode cX2_mostGain 38 = .ok (.getfield 18, 3) := by decide +kernel
theorem dX2_mostGain_41 : decode cX2_mostGain 41 = .ok (.getfield 40, 3) := by decide +kernel
theorem dX2_mostGain_44 : decode cX2_mostGain 44 = .ok (.if_icmp .gt 28, 3) := by decide +kernel
theorem dX2_mostGain_47 : decode cX2_mostGain 47 = .ok (.aload_n 0, 1) := by decide +kernel
theorem dX2_mostGain_48 : decode cX2_mostGain 48 = .ok (.getfield 9, 3) := by decide +kernel
theorem dX2_mostGain_51 : decode cX2_mostGain 51 = .ok (.iload_n 3, 1) := by decide +kernel
theorem dX2_mostGain_52 : decode cX2_mostGain 52 = .ok (.bipush 32, 2) := by decide +kernel
theorem dX2_mostGain_54 : decode cX2_mostGain 54 = .ok (.imul, 1) := by decide +kernel
theorem dX2_mostGain_55 : decode cX2_mostGain 55 = .ok (.iload 4, 2) := by decide +kernel
theorem dX2_mostGain_57 : decode cX2_mostGain 57 = .ok (.iadd, 1) := by decide +kernel
theorem dX2_mostGain_58 : decode cX2_mostGain 58 = .ok (.aload_n 0, 1) := by decide +kernel
theorem dX2_mostGain_59 : decode cX2_mostGain 59 = .ok (.iload_n 3, 1) := by decide +kernel
theorem dX2_mostGain_60 : decode cX2_mostGain 60 = .ok (.iload 4, 2) := by decide +kernel
theorem dX2_mostGain_62 : decode cX2_mostGain 62 = .ok (.invokevirtual 43, 3) := by decide +kernel
theorem dX2_mostGain_65 : decode cX2_mostGain 65 = .ok (.iastore, 1) := by decide +kernel
theorem dX2_mostGain_66 : decode cX2_mostGain 66 = .ok (.iinc 4 1, 3) := by decide +kernel
theorem dX2_mostGain_69 : decode cX2_mostGain 69 = .ok (.goto (-34), 3) := by decide +kernel
theorem dX2_mostGain_72 : decode cX2_mostGain 72 = .ok (.iinc 3 (-1), 3) := by decide +kernel
theorem dX2_mostGain_75 : decode cX2_mostGain 75 = .ok (.goto (-47), 3) := by decide +kernel
theorem dX2_mostGain_78 : decode cX2_mostGain 78 = .ok (.aload_n 0, 1) := by decide +kernel
theorem dX2_mostGain_79 : decode cX2_mostGain 79 = .ok (.getfield 9, 3) := by decide +kernel
theorem dX2_mostGain_82 : decode cX2_mostGain 82 = .ok (.iconst 0, 1) := by decide +kernel
theorem dX2_mostGain_83 : decode cX2_mostGain 83 = .ok (.iaload, 1) := by decide +kernel
theorem dX2_mostGain_84 : decode cX2_mostGain 84 = .ok (.ireturn, 1) := by decide +kernel
theorem dX2_mostFrom_0 : decode cX2_mostFrom 0 = .ok (.aload_n 0, 1) := by decide +kernel
theorem dX2_mostFrom_1 : decode cX2_mostFrom 1 = .ok (.iload_n 1, 1) := by decide +kernel
theorem dX2_mostFrom_2 : decode cX2_mostFrom 2 = .ok (.iload_n 2, 1) := by decide +kernel
theorem dX2_mostFrom_3 : decode cX2_mostFrom 3 = .ok (.invokevirtual 47, 3) := by decide +kernel
theorem dX2_mostFrom_6 : decode cX2_mostFrom 6 = .ok (.istore_n 3, 1) := by decide +kernel
theorem dX2_mostFrom_7 : decode cX2_mostFrom 7 = .ok (.aload_n 0, 1) := by decide +kernel
theorem dX2_mostFrom_8 : decode cX2_mostFrom 8 = .ok (.iload_n 1, 1) := by decide +kernel
theorem dX2_mostFrom_9 : decode cX2_mostFrom 9 = .ok (.iload_n 2, 1) := by decide +kernel
theorem dX2_mostFrom_10 : decode cX2_mostFrom 10 = .ok (.iconst 5, 1) := by decide +kernel
theorem dX2_mostFrom_11 : decode cX2_mostFrom 11 = .ok (.invokevirtual 50, 3) := by decide +kernel
theorem dX2_mostFrom_14 : decode cX2_mostFrom 14 = .ok (.istore 4, 2) := by decide +kernel
theorem dX2_mostFrom_16 : decode cX2_mostFrom 16 = .ok (.iconst 0, 1) := by decide +kernel
theorem dX2_mostFrom_17 : decode cX2_mostFrom 17 = .ok (.istore 5, 2) := by decide +kernel
theorem dX2_mostFrom_19 : decode cX2_mostFrom 19 = .ok (.iload 5, 2) := by decide +kernel
theorem dX2_mostFrom_21 : decode cX2_mostFrom 21 = .ok (.iconst 5, 1) := by decide +kernel
theorem dX2_mostFrom_22 : decode cX2_mostFrom 22 = .ok (.if_icmp .ge 33, 3) := by decide +kernel
theorem dX2_mostFrom_25 : decode cX2_mostFrom 25 = .ok (.iload_n 3, 1) := by decide +kernel
theorem dX2_mostFrom_26 : decode cX2_mostFrom 26 = .ok (.iload 5, 2) := by decide +kernel
theorem dX2_mostFrom_28 : decode cX2_mostFrom 28 = .ok (.invokestatic 54, 3) := by decide +kernel
theorem dX2_mostFrom_31 : decode cX2_mostFrom 31 = .ok (.ifCond .eq 18, 3) := by decide +kernel
theorem dX2_mostFrom_34 : decode cX2_mostFrom 34 = .ok (.iload 4, 2) := by decide +kernel
theorem dX2_mostFrom_36 : decode cX2_mostFrom 36 = .ok (.aload_n 0, 1) := by decide +kernel
theorem dX2_mostFrom_37 : decode cX2_mostFrom 37 = .ok (.iload_n 1, 1) := by decide +kernel
theorem dX2_mostFrom_38 : decode cX2_mostFrom 38 = .ok (.iload_n 2, 1) := by decide +kernel
theorem dX2_mostFrom_39 : decode cX2_mostFrom 39 = .ok (.iload 5, 2) := by decide +kernel
theorem dX2_mostFrom_41 : decode cX2_mostFrom 41 = .ok (.invokevirtual 50, 3) := by decide +kernel
theorem dX2_mostFrom_44 : decode cX2_mostFrom 44 = .ok (.invokestatic 58, 3) := by decide +kernel
theorem dX2_mostFrom_47 : decode cX2_mostFrom 47 = .ok (.istore 4, 2) := by decide +kernel
theorem dX2_mostFrom_49 : decode cX2_mostFrom 49 = .ok (.iinc 5 1, 3) := by decide +kernel
theorem dX2_mostFrom_52 : decode cX2_mostFrom 52 = .ok (.goto (-33), 3) := by decide +kernel
theorem dX2_mostFrom_55 : decode cX2_mostFrom 55 = .ok (.iload 4, 2) := by decide +kernel
theorem dX2_mostFrom_57 : decode cX2_mostFrom 57 = .ok (.ireturn, 1) := by decide +kernel
theorem dX2_freeAllowed_0 : decode cX2_freeAllowed 0 = .ok (.aload_n 0, 1) := by decide +kernel
theorem dX2_freeAllowed_1 : decode cX2_freeAllowed 1 = .ok (.getfield 26, 3) := by decide +kernel
theorem dX2_freeAllowed_4 : decode cX2_freeAllowed 4 = .ok (.iload_n 1, 1) := by decide +kernel
theorem dX2_freeAllowed_5 : decode cX2_freeAllowed 5 = .ok (.invokestatic 54, 3) := by decide +kernel
theorem dX2_freeAllowed_8 : decode cX2_freeAllowed 8 = .ok (.ifCond .eq 7, 3) := by decide +kernel
theorem dX2_freeAllowed_11 : decode cX2_freeAllowed 11 = .ok (.iconst 0, 1) := by decide +kernel
theorem dX2_freeAllowed_12 : decode cX2_freeAllowed 12 = .ok (.goto 17, 3) := by decide +kernel
theorem dX2_freeAllowed_15 : decode cX2_freeAllowed 15 = .ok (.aload_n 0, 1) := by decide +kernel
theorem dX2_freeAllowed_16 : decode cX2_freeAllowed 16 = .ok (.getfield 18, 3) := by decide +kernel
theorem dX2_freeAllowed_19 : decode cX2_freeAllowed 19 = .ok (.iload_n 1, 1) := by decide +kernel
theorem dX2_freeAllowed_20 : decode cX2_freeAllowed 20 = .ok (.iload_n 2, 1) := by decide +kernel
theorem dX2_freeAllowed_21 : decode cX2_freeAllowed 21 = .ok (.invokevirtual 63, 3) := by decide +kernel
theorem dX2_freeAllowed_24 : decode cX2_freeAllowed 24 = .ok (.aload_n 0, 1) := by decide +kernel
theorem dX2_freeAllowed_25 : decode cX2_freeAllowed 25 = .ok (.getfield 22, 3) := by decide +kernel
theorem dX2_freeAllowed_28 : decode cX2_freeAllowed 28 = .ok (.iand, 1) := by decide +kernel
theorem dX2_freeAllowed_29 : decode cX2_freeAllowed 29 = .ok (.ireturn, 1) := by decide +kernel
theorem dX2_gainFrom_0 : decode cX2_gainFrom 0 = .ok (.aload_n 0, 1) := by decide +kernel
theorem dX2_gainFrom_1 : decode cX2_gainFrom 1 = .ok (.getfield 9, 3) := by decide +kernel
theorem dX2_gainFrom_4 : decode cX2_gainFrom 4 = .ok (.iload_n 1, 1) := by decide +kernel
theorem dX2_gainFrom_5 : decode cX2_gainFrom 5 = .ok (.iconst 1, 1) := by decide +kernel
theorem dX2_gainFrom_6 : decode cX2_gainFrom 6 = .ok (.iadd, 1) := by decide +kernel
theorem dX2_gainFrom_7 : decode cX2_gainFrom 7 = .ok (.bipush 32, 2) := by decide +kernel
theorem dX2_gainFrom_9 : decode cX2_gainFrom 9 = .ok (.imul, 1) := by decide +kernel
theorem dX2_gainFrom_10 : decode cX2_gainFrom 10 = .ok (.aload_n 0, 1) := by decide +kernel
theorem dX2_gainFrom_11 : decode cX2_gainFrom 11 = .ok (.getfield 18, 3) := by decide +kernel
theorem dX2_gainFrom_14 : decode cX2_gainFrom 14 = .ok (.iload_n 2, 1) := by decide +kernel
theorem dX2_gainFrom_15 : decode cX2_gainFrom 15 = .ok (.iload_n 3, 1) := by decide +kernel
theorem dX2_gainFrom_16 : decode cX2_gainFrom 16 = .ok (.invokevirtual 66, 3) := by decide +kernel
theorem dX2_gainFrom_19 : decode cX2_gainFrom 19 = .ok (.iadd, 1) := by decide +kernel
theorem dX2_gainFrom_20 : decode cX2_gainFrom 20 = .ok (.iaload, 1) := by decide +kernel
theorem dX2_gainFrom_21 : decode cX2_gainFrom 21 = .ok (.istore 4, 2) := by decide +kernel
theorem dX2_gainFrom_23 : decode cX2_gainFrom 23 = .ok (.aload_n 0, 1) := by decide +kernel
theorem dX2_gainFrom_24 : decode cX2_gainFrom 24 = .ok (.getfield 18, 3) := by decide +kernel
theorem dX2_gainFrom_27 : decode cX2_gainFrom 27 = .ok (.iload_n 1, 1) := by decide +kernel
theorem dX2_gainFrom_28 : decode cX2_gainFrom 28 = .ok (.iload_n 3, 1) := by decide +kernel
theorem dX2_gainFrom_29 : decode cX2_gainFrom 29 = .ok (.invokevirtual 69, 3) := by decide +kernel
theorem dX2_gainFrom_32 : decode cX2_gainFrom 32 = .ok (.aload_n 0, 1) := by decide +kernel
theorem dX2_gainFrom_33 : decode cX2_gainFrom 33 = .ok (.getfield 18, 3) := by decide +kernel
theorem dX2_gainFrom_36 : decode cX2_gainFrom 36 = .ok (.iload_n 2, 1) := by decide +kernel
theorem dX2_gainFrom_37 : decode cX2_gainFrom 37 = .ok (.iload_n 3, 1) := by decide +kernel
theorem dX2_gainFrom_38 : decode cX2_gainFrom 38 = .ok (.invokevirtual 72, 3) := by decide +kernel
theorem dX2_gainFrom_41 : decode cX2_gainFrom 41 = .ok (.isub, 1) := by decide +kernel
theorem dX2_gainFrom_42 : decode cX2_gainFrom 42 = .ok (.iload 4, 2) := by decide +kernel
theorem dX2_gainFrom_44 : decode cX2_gainFrom 44 = .ok (.iadd, 1) := by decide +kernel
theorem dX2_gainFrom_45 : decode cX2_gainFrom 45 = .ok (.ireturn, 1) := by decide +kernel
theorem dX2_layRow_0 : decode cX2_layRow 0 = .ok (.iconst 0, 1) := by decide +kernel
theorem dX2_layRow_1 : decode cX2_layRow 1 = .ok (.istore_n 1, 1) := by decide +kernel
theorem dX2_layRow_2 : decode cX2_layRow 2 = .ok (.iconst 0, 1) := by decide +kernel
theorem dX2_layRow_3 : decode cX2_layRow 3 = .ok (.istore_n 2, 1) := by decide +kernel
theorem dX2_layRow_4 : decode cX2_layRow 4 = .ok (.iload_n 2, 1) := by decide +kernel
theorem dX2_layRow_5 : decode cX2_layRow 5 = .ok (.aload_n 0, 1) := by decide +kernel
theorem dX2_layRow_6 : decode cX2_layRow 6 = .ok (.getfield 18, 3) := by decide +kernel
theorem dX2_layRow_9 : decode cX2_layRow 9 = .ok (.getfield 35, 3) := by decide +kernel
theorem dX2_layRow_12 : decode cX2_layRow 12 = .ok (.if_icmp .ge 36, 3) := by decide +kernel
theorem dX2_layRow_15 : decode cX2_layRow 15 = .ok (.aload_n 0, 1) := by decide +kernel
theorem dX2_layRow_16 : decode cX2_layRow 16 = .ok (.getfield 15, 3) := by decide +kernel
theorem dX2_layRow_19 : decode cX2_layRow 19 = .ok (.iload_n 2, 1) := by decide +kernel
theorem dX2_layRow_20 : decode cX2_layRow 20 = .ok (.aload_n 0, 1) := by decide +kernel
theorem dX2_layRow_21 : decode cX2_layRow 21 = .ok (.iload_n 2, 1) := by decide +kernel
theorem dX2_layRow_22 : decode cX2_layRow 22 = .ok (.iload_n 1, 1) := by decide +kernel
theorem dX2_layRow_23 : decode cX2_layRow 23 = .ok (.invokevirtual 75, 3) := by decide +kernel
theorem dX2_layRow_26 : decode cX2_layRow 26 = .ok (.iastore, 1) := by decide +kernel
theorem dX2_layRow_27 : decode cX2_layRow 27 = .ok (.aload_n 0, 1) := by decide +kernel
theorem dX2_layRow_28 : decode cX2_layRow 28 = .ok (.getfield 18, 3) := by decide +kernel
theorem dX2_layRow_31 : decode cX2_layRow 31 = .ok (.iload_n 1, 1) := by decide +kernel
theorem dX2_layRow_32 : decode cX2_layRow 32 = .ok (.aload_n 0, 1) := by decide +kernel
theorem dX2_layRow_33 : decode cX2_layRow 33 = .ok (.getfield 15, 3) := by decide +kernel
theorem dX2_layRow_36 : decode cX2_layRow 36 = .ok (.iload_n 2, 1) := by decide +kernel
theorem dX2_layRow_37 : decode cX2_layRow 37 = .ok (.iaload, 1) := by decide +kernel
theorem dX2_layRow_38 : decode cX2_layRow 38 = .ok (.invokevirtual 66, 3) := by decide +kernel
theorem dX2_layRow_41 : decode cX2_layRow 41 = .ok (.istore_n 1, 1) := by decide +kernel
theorem dX2_layRow_42 : decode cX2_layRow 42 = .ok (.iinc 2 1, 3) := by decide +kernel
theorem dX2_layRow_45 : decode cX2_layRow 45 = .ok (.goto (-41), 3) := by decide +kernel
theorem dX2_layRow_48 : decode cX2_layRow 48 = .ok (.return_, 1) := by decide +kernel
theorem dX2_firstOfMost_0 : decode cX2_firstOfMost 0 = .ok (.aload_n 0, 1) := by decide +kernel
theorem dX2_firstOfMost_1 : decode cX2_firstOfMost 1 = .ok (.iload_n 1, 1) := by decide +kernel
theorem dX2_firstOfMost_2 : decode cX2_firstOfMost 2 = .ok (.iload_n 2, 1) := by decide +kernel
theorem dX2_firstOfMost_3 : decode cX2_firstOfMost 3 = .ok (.invokevirtual 47, 3) := by decide +kernel
theorem dX2_firstOfMost_6 : decode cX2_firstOfMost 6 = .ok (.istore_n 3, 1) := by decide +kernel
theorem dX2_firstOfMost_7 : decode cX2_firstOfMost 7 = .ok (.iconst 0, 1) := by decide +kernel
theorem dX2_firstOfMost_8 : decode cX2_firstOfMost 8 = .ok (.istore 4, 2) := by decide +kernel
theorem dX2_firstOfMost_10 : decode cX2_firstOfMost 10 = .ok (.iload 4, 2) := by decide +kernel
theorem dX2_firstOfMost_12 : decode cX2_firstOfMost 12 = .ok (.iconst 5, 1) := by decide +kernel
theorem dX2_firstOfMost_13 : decode cX2_firstOfMost 13 = .ok (.if_icmp .ge 43, 3) := by decide +kernel
theorem dX2_firstOfMost_16 : decode cX2_firstOfMost 16 = .ok (.iload_n 3, 1) := by decide +kernel
theorem dX2_firstOfMost_17 : decode cX2_firstOfMost 17 = .ok (.iload 4, 2) := by decide +kernel
theorem dX2_firstOfMost_19 : decode cX2_firstOfMost 19 = .ok (.invokestatic 54, 3) := by decide +kernel
theorem dX2_firstOfMost_22 : decode cX2_firstOfMost 22 = .ok (.ifCond .eq 28, 3) := by decide +kernel
theorem dX2_firstOfMost_25 : decode cX2_firstOfMost 25 = .ok (.aload_n 0, 1) := by decide +kernel
theorem dX2_firstOfMost_26 : decode cX2_firstOfMost 26 = .ok (.iload_n 1, 1) := by decide +kernel
theorem dX2_firstOfMost_27 : decode cX2_firstOfMost 27 = .ok (.iload_n 2, 1) := by decide +kernel
theorem dX2_firstOfMost_28 : decode cX2_firstOfMost 28 = .ok (.iload 4, 2) := by decide +kernel
theorem dX2_firstOfMost_30 : decode cX2_firstOfMost 30 = .ok (.invokevirtual 50, 3) := by decide +kernel
theorem dX2_firstOfMost_33 : decode cX2_firstOfMost 33 = .ok (.aload_n 0, 1) := by decide +kernel
theorem dX2_firstOfMost_34 : decode cX2_firstOfMost 34 = .ok (.getfield 9, 3) := by decide +kernel
theorem dX2_firstOfMost_37 : decode cX2_firstOfMost 37 = .ok (.iload_n 1, 1) := by decide +kernel
theorem dX2_firstOfMost_38 : decode cX2_firstOfMost 38 = .ok (.bipush 32, 2) := by decide +kernel
theorem dX2_firstOfMost_40 : decode cX2_firstOfMost 40 = .ok (.imul, 1) := by decide +kernel
theorem dX2_firstOfMost_41 : decode cX2_firstOfMost 41 = .ok (.iload_n 2, 1) := by decide +kernel
theorem dX2_firstOfMost_42 : decode cX2_firstOfMost 42 = .ok (.iadd, 1) := by decide +kernel
theorem dX2_firstOfMost_43 : decode cX2_firstOfMost 43 = .ok (.iaload, 1) := by decide +kernel
theorem dX2_firstOfMost_44 : decode cX2_firstOfMost 44 = .ok (.if_icmp .ne 6, 3) := by decide +kernel
theorem dX2_firstOfMost_47 : decode cX2_firstOfMost 47 = .ok (.iload 4, 2) := by decide +kernel
theorem dX2_firstOfMost_49 : decode cX2_firstOfMost 49 = .ok (.ireturn, 1) := by decide +kernel
theorem dX2_firstOfMost_50 : decode cX2_firstOfMost 50 = .ok (.iinc 4 1, 3) := by decide +kernel
theorem dX2_firstOfMost_53 : decode cX2_firstOfMost 53 = .ok (.goto (-43), 3) := by decide +kernel
theorem dX2_firstOfMost_56 : decode cX2_firstOfMost 56 = .ok (.iconst 5, 1) := by decide +kernel
theorem dX2_firstOfMost_57 : decode cX2_firstOfMost 57 = .ok (.ireturn, 1) := by decide +kernel
theorem dX2_fewestShut_0 : decode cX2_fewestShut 0 = .ok (.iconst 1, 1) := by decide +kernel
theorem dX2_fewestShut_1 : decode cX2_fewestShut 1 = .ok (.aload_n 0, 1) := by decide +kernel
theorem dX2_fewestShut_2 : decode cX2_fewestShut 2 = .ok (.getfield 18, 3) := by decide +kernel
theorem dX2_fewestShut_5 : decode cX2_fewestShut 5 = .ok (.getfield 35, 3) := by decide +kernel
theorem dX2_fewestShut_8 : decode cX2_fewestShut 8 = .ok (.ishl, 1) := by decide +kernel
theorem dX2_fewestShut_9 : decode cX2_fewestShut 9 = .ok (.iconst 1, 1) := by decide +kernel
theorem dX2_fewestShut_10 : decode cX2_fewestShut 10 = .ok (.isub, 1) := by decide +kernel
theorem dX2_fewestShut_11 : decode cX2_fewestShut 11 = .ok (.istore_n 3, 1) := by decide +kernel
theorem dX2_fewestShut_12 : decode cX2_fewestShut 12 = .ok (.aload_n 0, 1) := by decide +kernel
theorem dX2_fewestShut_13 : decode cX2_fewestShut 13 = .ok (.iload_n 1, 1) := by decide +kernel
theorem dX2_fewestShut_14 : decode cX2_fewestShut 14 = .ok (.iload_n 3, 1) := by decide +kernel
theorem dX2_fewestShut_15 : decode cX2_fewestShut 15 = .ok (.invokevirtual 78, 3) := by decide +kernel
theorem dX2_fewestShut_18 : decode cX2_fewestShut 18 = .ok (.iload_n 2, 1) := by decide +kernel
theorem dX2_fewestShut_19 : decode cX2_fewestShut 19 = .ok (.if_icmp .le 6, 3) := by decide +kernel
theorem dX2_fewestShut_22 : decode cX2_fewestShut 22 = .ok (.bipush (-4), 2) := by decide +kernel
theorem dX2_fewestShut_24 : decode cX2_fewestShut 24 = .ok (.ireturn, 1) := by decide +kernel
theorem dX2_fewestShut_25 : decode cX2_fewestShut 25 = .ok (.iconst 0, 1) := by decide +kernel
theorem dX2_fewestShut_26 : decode cX2_fewestShut 26 = .ok (.istore 4, 2) := by decide +kernel
theorem dX2_fewestShut_28 : decode cX2_fewestShut 28 = .ok (.iload 4, 2) := by decide +kernel
theorem dX2_fewestShut_30 : decode cX2_fewestShut 30 = .ok (.aload_n 0, 1) := by decide +kernel
theorem dX2_fewestShut_31 : decode cX2_fewestShut 31 = .ok (.getfield 18, 3) := by decide +kernel
theorem dX2_fewestShut_34 : decode cX2_fewestShut 34 = .ok (.getfield 35, 3) := by decide +kernel
theorem dX2_fewestShut_37 : decode cX2_fewestShut 37 = .ok (.if_icmp .ge 48, 3) := by decide +kernel
theorem dX2_fewestShut_40 : decode cX2_fewestShut 40 = .ok (.iconst 0, 1) := by decide +kernel
theorem dX2_fewestShut_41 : decode cX2_fewestShut 41 = .ok (.istore 5, 2) := by decide +kernel
theorem dX2_fewestShut_43 : decode cX2_fewestShut 43 = .ok (.iload 5, 2) := by decide +kernel
theorem dX2_fewestShut_45 : decode cX2_fewestShut 45 = .ok (.iload_n 3, 1) := by decide +kernel
theorem dX2_fewestShut_46 : decode cX2_fewestShut 46 = .ok (.if_icmp .gt 33, 3) := by decide +kernel
theorem dX2_fewestShut_49 : decode cX2_fewestShut 49 = .ok (.iload 5, 2) := by decide +kernel
theorem dX2_fewestShut_51 : decode cX2_fewestShut 51 = .ok (.invokestatic 81, 3) := by decide +kernel
theorem dX2_fewestShut_54 : decode cX2_fewestShut 54 = .ok (.iload 4, 2) := by decide +kernel
theorem dX2_fewestShut_56 : decode cX2_fewestShut 56 = .ok (.if_icmp .ne 17, 3) := by decide +kernel
theorem dX2_fewestShut_59 : decode cX2_fewestShut 59 = .ok (.aload_n 0, 1) := by decide +kernel
theorem dX2_fewestShut_60 : decode cX2_fewestShut 60 = .ok (.iload_n 1, 1) := by decide +kernel
theorem dX2_fewestShut_61 : decode cX2_fewestShut 61 = .ok (.iload 5, 2) := by decide +kernel
theorem dX2_fewestShut_63 : decode cX2_fewestShut 63 = .ok (.invokevirtual 78, 3) := by decide +kernel
theorem dX2_fewestShut_66 : decode cX2_fewestShut 66 = .ok (.iload_n 2, 1) := by decide +kernel
theorem dX2_fewestShut_67 : decode cX2_fewestShut 67 = .ok (.if_icmp .gt 6, 3) := by decide +kernel
theorem dX2_fewestShut_70 : decode cX2_fewestShut 70 = .ok (.iload 5, 2) := by decide +kernel
theorem dX2_fewestShut_72 : decode cX2_fewestShut 72 = .ok (.ireturn, 1) := by decide +kernel
theorem dX2_fewestShut_73 : decode cX2_fewestShut 73 = .ok (.iinc 5 1, 3) := by decide +kernel
theorem dX2_fewestShut_76 : decode cX2_fewestShut 76 = .ok (.goto (-33), 3) := by decide +kernel
theorem dX2_fewestShut_79 : decode cX2_fewestShut 79 = .ok (.iinc 4 1, 3) := by decide +kernel
theorem dX2_fewestShut_82 : decode cX2_fewestShut 82 = .ok (.goto (-54), 3) := by decide +kernel
theorem dX2_fewestShut_85 : decode cX2_fewestShut 85 = .ok (.iload_n 3, 1) := by decide +kernel
theorem dX2_fewestShut_86 : decode cX2_fewestShut 86 = .ok (.ireturn, 1) := by decide +kernel
theorem dX2_layNights_0 : decode cX2_layNights 0 = .ok (.aload_n 0, 1) := by decide +kernel
theorem dX2_layNights_1 : decode cX2_layNights 1 = .ok (.getfield 9, 3) := by decide +kernel
theorem dX2_layNights_4 : decode cX2_layNights 4 = .ok (.iconst 0, 1) := by decide +kernel
theorem dX2_layNights_5 : decode cX2_layNights 5 = .ok (.invokestatic 29, 3) := by decide +kernel
theorem dX2_layNights_8 : decode cX2_layNights 8 = .ok (.aload_n 0, 1) := by decide +kernel
theorem dX2_layNights_9 : decode cX2_layNights 9 = .ok (.getfield 9, 3) := by decide +kernel
theorem dX2_layNights_12 : decode cX2_layNights 12 = .ok (.iconst 0, 1) := by decide +kernel
theorem dX2_layNights_13 : decode cX2_layNights 13 = .ok (.iconst 1, 1) := by decide +kernel
theorem dX2_layNights_14 : decode cX2_layNights 14 = .ok (.iastore, 1) := by decide +kernel
theorem dX2_layNights_15 : decode cX2_layNights 15 = .ok (.iconst 0, 1) := by decide +kernel
theorem dX2_layNights_16 : decode cX2_layNights 16 = .ok (.istore_n 2, 1) := by decide +kernel
theorem dX2_layNights_17 : decode cX2_layNights 17 = .ok (.iload_n 2, 1) := by decide +kernel
theorem dX2_layNights_18 : decode cX2_layNights 18 = .ok (.aload_n 0, 1) := by decide +kernel
theorem dX2_layNights_19 : decode cX2_layNights 19 = .ok (.getfield 18, 3) := by decide +kernel
theorem dX2_layNights_22 : decode cX2_layNights 22 = .ok (.getfield 35, 3) := by decide +kernel
theorem dX2_layNights_25 : decode cX2_layNights 25 = .ok (.if_icmp .ge 51, 3) := by decide +kernel
theorem dX2_layNights_28 : decode cX2_layNights 28 = .ok (.iconst 0, 1) := by decide +kernel
theorem dX2_layNights_29 : decode cX2_layNights 29 = .ok (.istore_n 3, 1) := by decide +kernel
theorem dX2_layNights_30 : decode cX2_layNights 30 = .ok (.iload_n 3, 1) := by decide +kernel
theorem dX2_layNights_31 : decode cX2_layNights 31 = .ok (.aload_n 0, 1) := by decide +kernel
theorem dX2_layNights_32 : decode cX2_layNights 32 = .ok (.getfield 18, 3) := by decide +kernel
theorem dX2_layNights_35 : decode cX2_layNights 35 = .ok (.getfield 40, 3) := by decide +kernel
theorem dX2_layNights_38 : decode cX2_layNights 38 = .ok (.if_icmp .gt 32, 3) := by decide +kernel
theorem dX2_layNights_41 : decode cX2_layNights 41 = .ok (.aload_n 0, 1) := by decide +kernel
theorem dX2_layNights_42 : decode cX2_layNights 42 = .ok (.getfield 9, 3) := by decide +kernel
theorem dX2_layNights_45 : decode cX2_layNights 45 = .ok (.iload_n 2, 1) := by decide +kernel
theorem dX2_layNights_46 : decode cX2_layNights 46 = .ok (.bipush 32, 2) := by decide +kernel
theorem dX2_layNights_48 : decode cX2_layNights 48 = .ok (.imul, 1) := by decide +kernel
theorem dX2_layNights_49 : decode cX2_layNights 49 = .ok (.iload_n 3, 1) := by decide +kernel
theorem dX2_layNights_50 : decode cX2_layNights 50 = .ok (.iadd, 1) := by decide +kernel
theorem dX2_layNights_51 : decode cX2_layNights 51 = .ok (.iaload, 1) := by decide +kernel
theorem dX2_layNights_52 : decode cX2_layNights 52 = .ok (.ifCond .le 12, 3) := by decide +kernel
theorem dX2_layNights_55 : decode cX2_layNights 55 = .ok (.aload_n 0, 1) := by decide +kernel
theorem dX2_layNights_56 : decode cX2_layNights 56 = .ok (.iload_n 2, 1) := by decide +kernel
theorem dX2_layNights_57 : decode cX2_layNights 57 = .ok (.iload_n 3, 1) := by decide +kernel
theorem dX2_layNights_58 : decode cX2_layNights 58 = .ok (.aload_n 1, 1) := by decide +kernel
theorem dX2_layNights_59 : decode cX2_layNights 59 = .ok (.iload_n 2, 1) := by decide +kernel
theorem dX2_layNights_60 : decode cX2_layNights 60 = .ok (.iaload, 1) := by decide +kernel
theorem dX2_layNights_61 : decode cX2_layNights 61 = .ok (.invokevirtual 87, 3) := by decide +kernel
theorem dX2_layNights_64 : decode cX2_layNights 64 = .ok (.iinc 3 1, 3) := by decide +kernel
theorem dX2_layNights_67 : decode cX2_layNights 67 = .ok (.goto (-37), 3) := by decide +kernel
theorem dX2_layNights_70 : decode cX2_layNights 70 = .ok (.iinc 2 1, 3) := by decide +kernel
theorem dX2_layNights_73 : decode cX2_layNights 73 = .ok (.goto (-56), 3) := by decide +kernel
theorem dX2_layNights_76 : decode cX2_layNights 76 = .ok (.aload_n 0, 1) := by decide +kernel
theorem dX2_layNights_77 : decode cX2_layNights 77 = .ok (.iconst 0, 1) := by decide +kernel
theorem dX2_layNights_78 : decode cX2_layNights 78 = .ok (.putfield 91, 3) := by decide +kernel
theorem dX2_layNights_81 : decode cX2_layNights 81 = .ok (.aload_n 0, 1) := by decide +kernel
theorem dX2_layNights_82 : decode cX2_layNights 82 = .ok (.aload_n 0, 1) := by decide +kernel
theorem dX2_layNights_83 : decode cX2_layNights 83 = .ok (.getfield 18, 3) := by decide +kernel
theorem dX2_layNights_86 : decode cX2_layNights 86 = .ok (.getfield 40, 3) := by decide +kernel
theorem dX2_layNights_89 : decode cX2_layNights 89 = .ok (.putfield 94, 3) := by decide +kernel
theorem dX2_layNights_92 : decode cX2_layNights 92 = .ok (.iconst 0, 1) := by decide +kernel
theorem dX2_layNights_93 : decode cX2_layNights 93 = .ok (.istore_n 2, 1) := by decide +kernel
theorem dX2_layNights_94 : decode cX2_layNights 94 = .ok (.iload_n 2, 1) := by decide +kernel
theorem dX2_layNights_95 : decode cX2_layNights 95 = .ok (.aload_n 0, 1) := by decide +kernel
theorem dX2_layNights_96 : decode cX2_layNights 96 = .ok (.getfield 18, 3) := by decide +kernel
theorem dX2_layNights_99 : decode cX2_layNights 99 = .ok (.getfield 40, 3) := by decide +kernel
theorem dX2_layNights_102 : decode cX2_layNights 102 = .ok (.if_icmp .gt 61, 3) := by decide +kernel
theorem dX2_layNights_105 : decode cX2_layNights 105 = .ok (.aload_n 0, 1) := by decide +kernel
theorem dX2_layNights_106 : decode cX2_layNights 106 = .ok (.getfield 9, 3) := by decide +kernel
theorem dX2_layNights_109 : decode cX2_layNights 109 = .ok (.aload_n 0, 1) := by decide +kernel
theorem dX2_layNights_110 : decode cX2_layNights 110 = .ok (.getfield 18, 3) := by decide +kernel
theorem dX2_layNights_113 : decode cX2_layNights 113 = .ok (.getfield 35, 3) := by decide +kernel
theorem dX2_layNights_116 : decode cX2_layNights 116 = .ok (.bipush 32, 2) := by decide +kernel
theorem dX2_layNights_118 : decode cX2_layNights 118 = .ok (.imul, 1) := by decide +kernel
theorem dX2_layNights_119 : decode cX2_layNights 119 = .ok (.iload_n 2, 1) := by decide +kernel
theorem dX2_layNights_120 : decode cX2_layNights 120 = .ok (.iadd, 1) := by decide +kernel
theorem dX2_layNights_121 : decode cX2_layNights 121 = .ok (.iaload, 1) := by decide +kernel
theorem dX2_layNights_122 : decode cX2_layNights 122 = .ok (.istore_n 3, 1) := by decide +kernel
theorem dX2_layNights_123 : decode cX2_layNights 123 = .ok (.aload_n 0, 1) := by decide +kernel
theorem dX2_layNights_124 : decode cX2_layNights 124 = .ok (.dup, 1) := by decide +kernel
theorem dX2_layNights_125 : decode cX2_layNights 125 = .ok (.getfield 91, 3) := by decide +kernel
theorem dX2_layNights_128 : decode cX2_layNights 128 = .ok (.iload_n 3, 1) := by decide +kernel
theorem dX2_layNights_129 : decode cX2_layNights 129 = .ok (.iadd, 1) := by decide +kernel
theorem dX2_layNights_130 : decode cX2_layNights 130 = .ok (.putfield 91, 3) := by decide +kernel
theorem dX2_layNights_133 : decode cX2_layNights 133 = .ok (.aload_n 0, 1) := by decide +kernel
theorem dX2_layNights_134 : decode cX2_layNights 134 = .ok (.dup, 1) := by decide +kernel
theorem dX2_layNights_135 : decode cX2_layNights 135 = .ok (.getfield 94, 3) := by decide +kernel
theorem dX2_layNights_138 : decode cX2_layNights 138 = .ok (.iload_n 3, 1) := by decide +kernel
theorem dX2_layNights_139 : decode cX2_layNights 139 = .ok (.ifCond .le 7, 3) := by decide +kernel
theorem dX2_layNights_142 : decode cX2_layNights 142 = .ok (.iload_n 2, 1) := by decide +kernel
theorem dX2_layNights_143 : decode cX2_layNights 143 = .ok (.goto 10, 3) := by decide +kernel
theorem dX2_layNights_146 : decode cX2_layNights 146 = .ok (.aload_n 0, 1) := by decide +kernel
theorem dX2_layNights_147 : decode cX2_layNights 147 = .ok (.getfield 18, 3) := by decide +kernel
theorem dX2_layNights_150 : decode cX2_layNights 150 = .ok (.getfield 40, 3) := by decide +kernel
theorem dX2_layNights_153 : decode cX2_layNights 153 = .ok (.iand, 1) := by decide +kernel
theorem dX2_layNights_154 : decode cX2_layNights 154 = .ok (.putfield 94, 3) := by decide +kernel
theorem dX2_layNights_157 : decode cX2_layNights 157 = .ok (.iinc 2 1, 3) := by decide +kernel
theorem dX2_layNights_160 : decode cX2_layNights 160 = .ok (.goto (-66), 3) := by decide +kernel
theorem dX2_layNights_163 : decode cX2_layNights 163 = .ok (.return_, 1) := by decide +kernel
theorem dX2_spreadWays_0 : decode cX2_spreadWays 0 = .ok (.aload_n 0, 1) := by decide +kernel
theorem dX2_spreadWays_1 : decode cX2_spreadWays 1 = .ok (.getfield 18, 3) := by decide +kernel
theorem dX2_spreadWays_4 : decode cX2_spreadWays 4 = .ok (.iload_n 1, 1) := by decide +kernel
theorem dX2_spreadWays_5 : decode cX2_spreadWays 5 = .ok (.iload_n 2, 1) := by decide +kernel
theorem dX2_spreadWays_6 : decode cX2_spreadWays 6 = .ok (.invokevirtual 97, 3) := by decide +kernel
theorem dX2_spreadWays_9 : decode cX2_spreadWays 9 = .ok (.istore 4, 2) := by decide +kernel
theorem dX2_spreadWays_11 : decode cX2_spreadWays 11 = .ok (.iconst 0, 1) := by decide +kernel
theorem dX2_spreadWays_12 : decode cX2_spreadWays 12 = .ok (.istore 5, 2) := by decide +kernel
theorem dX2_spreadWays_14 : decode cX2_spreadWays 14 = .ok (.iload 5, 2) := by decide +kernel
theorem dX2_spreadWays_16 : decode cX2_spreadWays 16 = .ok (.bipush 6, 2) := by decide +kernel
theorem dX2_spreadWays_18 : decode cX2_spreadWays 18 = .ok (.if_icmp .ge 73, 3) := by decide +kernel
theorem dX2_spreadWays_21 : decode cX2_spreadWays 21 = .ok (.iload 4, 2) := by decide +kernel
theorem dX2_spreadWays_23 : decode cX2_spreadWays 23 = .ok (.iload 5, 2) := by decide +kernel
theorem dX2_spreadWays_25 : decode cX2_spreadWays 25 = .ok (.invokestatic 54, 3) := by decide +kernel
theorem dX2_spreadWays_28 : decode cX2_spreadWays 28 = .ok (.ifCond .eq 57, 3) := by decide +kernel
theorem dX2_spreadWays_31 : decode cX2_spreadWays 31 = .ok (.iload_n 3, 1) := by decide +kernel
theorem dX2_spreadWays_32 : decode cX2_spreadWays 32 = .ok (.ifCond .lt 17, 3) := by decide +kernel
theorem dX2_spreadWays_35 : decode cX2_spreadWays 35 = .ok (.aload_n 0, 1) := by decide +kernel
theorem dX2_spreadWays_36 : decode cX2_spreadWays 36 = .ok (.getfield 18, 3) := by decide +kernel
theorem dX2_spreadWays_39 : decode cX2_spreadWays 39 = .ok (.iload_n 1, 1) := by decide +kernel
theorem dX2_spreadWays_40 : decode cX2_spreadWays 40 = .ok (.iload 5, 2) := by decide +kernel
theorem dX2_spreadWays_42 : decode cX2_spreadWays 42 = .ok (.iload_n 3, 1) := by decide +kernel
theorem dX2_spreadWays_43 : decode cX2_spreadWays 43 = .ok (.invokevirtual 100, 3) := by decide +kernel
theorem dX2_spreadWays_46 : decode cX2_spreadWays 46 = .ok (.ifCond .eq 39, 3) := by decide +kernel
theorem dX2_spreadWays_49 : decode cX2_spreadWays 49 = .ok (.aload_n 0, 1) := by decide +kernel
theorem dX2_spreadWays_50 : decode cX2_spreadWays 50 = .ok (.getfield 9, 3) := by decide +kernel
theorem dX2_spreadWays_53 : decode cX2_spreadWays 53 = .ok (.iload_n 1, 1) := by decide +kernel
theorem dX2_spreadWays_54 : decode cX2_spreadWays 54 = .ok (.iconst 1, 1) := by decide +kernel
theorem dX2_spreadWays_55 : decode cX2_spreadWays 55 = .ok (.iadd, 1) := by decide +kernel
theorem dX2_spreadWays_56 : decode cX2_spreadWays 56 = .ok (.bipush 32, 2) := by decide +kernel
theorem dX2_spreadWays_58 : decode cX2_spreadWays 58 = .ok (.imul, 1) := by decide +kernel
theorem dX2_spreadWays_59 : decode cX2_spreadWays 59 = .ok (.aload_n 0, 1) := by decide +kernel
theorem dX2_spreadWays_60 : decode cX2_spreadWays 60 = .ok (.getfield 18, 3) := by decide +kernel
theorem dX2_spreadWays_63 : decode cX2_spreadWays 63 = .ok (.iload_n 2, 1) := by decide +kernel
theorem dX2_spreadWays_64 : decode cX2_spreadWays 64 = .ok (.iload 5, 2) := by decide +kernel
theorem dX2_spreadWays_66 : decode cX2_spreadWays 66 = .ok (.invokevirtual 66, 3) := by decide +kernel
theorem dX2_spreadWays_69 : decode cX2_spreadWays 69 = .ok (.iadd, 1) := by decide +kernel
theorem dX2_spreadWays_70 : decode cX2_spreadWays 70 = .ok (.dup2, 1) := by decide +kernel
theorem dX2_spreadWays_71 : decode cX2_spreadWays 71 = .ok (.iaload, 1) := by decide +kernel
theorem dX2_spreadWays_72 : decode cX2_spreadWays 72 = .ok (.aload_n 0, 1) := by decide +kernel
theorem dX2_spreadWays_73 : decode cX2_spreadWays 73 = .ok (.getfield 9, 3) := by decide +kernel
theorem dX2_spreadWays_76 : decode cX2_spreadWays 76 = .ok (.iload_n 1, 1) := by decide +kernel
theorem dX2_spreadWays_77 : decode cX2_spreadWays 77 = .ok (.bipush 32, 2) := by decide +kernel
theorem dX2_spreadWays_79 : decode cX2_spreadWays 79 = .ok (.imul, 1) := by decide +kernel
theorem dX2_spreadWays_80 : decode cX2_spreadWays 80 = .ok (.iload_n 2, 1) := by decide +kernel
theorem dX2_spreadWays_81 : decode cX2_spreadWays 81 = .ok (.iadd, 1) := by decide +kernel
theorem dX2_spreadWays_82 : decode cX2_spreadWays 82 = .ok (.iaload, 1) := by decide +kernel
theorem dX2_spreadWays_83 : decode cX2_spreadWays 83 = .ok (.iadd, 1) := by decide +kernel
theorem dX2_spreadWays_84 : decode cX2_spreadWays 84 = .ok (.iastore, 1) := by decide +kernel
theorem dX2_spreadWays_85 : decode cX2_spreadWays 85 = .ok (.iinc 5 1, 3) := by decide +kernel
theorem dX2_spreadWays_88 : decode cX2_spreadWays 88 = .ok (.goto (-74), 3) := by decide +kernel
theorem dX2_spreadWays_91 : decode cX2_spreadWays 91 = .ok (.return_, 1) := by decide +kernel
theorem dX9_init_0 : decode cX9_init 0 = .ok (.aload_n 0, 1) := by decide +kernel
theorem dX9_init_1 : decode cX9_init 1 = .ok (.invokespecial 3, 3) := by decide +kernel
theorem dX9_init_4 : decode cX9_init 4 = .ok (.aload_n 0, 1) := by decide +kernel
theorem dX9_init_5 : decode cX9_init 5 = .ok (.bipush 10, 2) := by decide +kernel
theorem dX9_init_7 : decode cX9_init 7 = .ok (.newarray .int, 2) := by decide +kernel
theorem dX9_init_9 : decode cX9_init 9 = .ok (.putfield 9, 3) := by decide +kernel
theorem dX9_init_12 : decode cX9_init 12 = .ok (.aload_n 0, 1) := by decide +kernel
theorem dX9_init_13 : decode cX9_init 13 = .ok (.bipush 6, 2) := by decide +kernel
theorem dX9_init_15 : decode cX9_init 15 = .ok (.newarray .int, 2) := by decide +kernel
theorem dX9_init_17 : decode cX9_init 17 = .ok (.putfield 15, 3) := by decide +kernel
theorem dX9_init_20 : decode cX9_init 20 = .ok (.aload_n 0, 1) := by decide +kernel
theorem dX9_init_21 : decode cX9_init 21 = .ok (.bipush 6, 2) := by decide +kernel
theorem dX9_init_23 : decode cX9_init 23 = .ok (.newarray .int, 2) := by decide +kernel
theorem dX9_init_25 : decode cX9_init 25 = .ok (.putfield 18, 3) := by decide +kernel
theorem dX9_init_28 : decode cX9_init 28 = .ok (.aload_n 0, 1) := by decide +kernel
theorem dX9_init_29 : decode cX9_init 29 = .ok (.aload_n 1, 1) := by decide +kernel
theorem dX9_init_30 : decode cX9_init 30 = .ok (.putfield 21, 3) := by decide +kernel
theorem dX9_init_33 : decode cX9_init 33 = .ok (.return_, 1) := by decide +kernel
theorem dX9_take_0 : decode cX9_take 0 = .ok (.iconst 0, 1) := by decide +kernel
theorem dX9_take_1 : decode cX9_take 1 = .ok (.istore_n 3, 1) := by decide +kernel
theorem dX9_take_2 : decode cX9_take 2 = .ok (.iload_n 3, 1) := by decide +kernel
theorem dX9_take_3 : decode cX9_take 3 = .ok (.bipush 10, 2) := by decide +kernel
theorem dX9_take_5 : decode cX9_take 5 = .ok (.if_icmp .ge 29, 3) := by decide +kernel
theorem dX9_take_8 : decode cX9_take 8 = .ok (.aload_n 0, 1) := by decide +kernel
theorem dX9_take_9 : decode cX9_take 9 = .ok (.getfield 9, 3) := by decide +kernel
theorem dX9_take_12 : decode cX9_take 12 = .ok (.iload_n 3, 1) := by decide +kernel
theorem dX9_take_13 : decode cX9_take 13 = .ok (.iconst 0, 1) := by decide +kernel
theorem dX9_take_14 : decode cX9_take 14 = .ok (.aload_n 1, 1) := by decide +kernel
theorem dX9_take_15 : decode cX9_take 15 = .ok (.iload_n 2, 1) := by decide +kernel
theorem dX9_take_16 : decode cX9_take 16 = .ok (.iload_n 3, 1) := by decide +kernel
theorem dX9_take_17 : decode cX9_take 17 = .ok (.iadd, 1) := by decide +kernel
theorem dX9_take_18 : decode cX9_take 18 = .ok (.sipush 1000, 3) := by decide +kernel
theorem dX9_take_21 : decode cX9_take 21 = .ok (.invokevirtual 25, 3) := by decide +kernel
theorem dX9_take_24 : decode cX9_take 24 = .ok (.invokestatic 31, 3) := by decide +kernel
theorem dX9_take_27 : decode cX9_take 27 = .ok (.iastore, 1) := by decide +kernel
theorem dX9_take_28 : decode cX9_take 28 = .ok (.iinc 3 1, 3) := by decide +kernel
theorem dX9_take_31 : decode cX9_take 31 = .ok (.goto (-29), 3) := by decide +kernel
theorem dX9_take_34 : decode cX9_take 34 = .ok (.iconst 0, 1) := by decide +kernel
theorem dX9_take_35 : decode cX9_take 35 = .ok (.istore_n 3, 1) := by decide +kernel
theorem dX9_take_36 : decode cX9_take 36 = .ok (.iload_n 3, 1) := by decide +kernel
theorem dX9_take_37 : decode cX9_take 37 = .ok (.aload_n 0, 1) := by decide +kernel
theorem dX9_take_38 : decode cX9_take 38 = .ok (.getfield 21, 3) := by decide +kernel
theorem dX9_take_41 : decode cX9_take 41 = .ok (.getfield 36, 3) := by decide +kernel
theorem dX9_take_44 : decode cX9_take 44 = .ok (.if_icmp .ge 35, 3) := by decide +kernel
theorem dX9_take_47 : decode cX9_take 47 = .ok (.aload_n 0, 1) := by decide +kernel
theorem dX9_take_48 : decode cX9_take 48 = .ok (.getfield 9, 3) := by decide +kernel
theorem dX9_take_51 : decode cX9_take 51 = .ok (.aload_n 0, 1) := by decide +kernel
theorem dX9_take_52 : decode cX9_take 52 = .ok (.getfield 21, 3) := by decide +kernel
theorem dX9_take_55 : decode cX9_take 55 = .ok (.getfield 42, 3) := by decide +kernel
theorem dX9_take_58 : decode cX9_take 58 = .ok (.iload_n 3, 1) := by decide +kernel
theorem dX9_take_59 : decode cX9_take 59 = .ok (.iaload, 1) := by decide +kernel
theorem dX9_take_60 : decode cX9_take 60 = .ok (.dup2, 1) := by decide +kernel
theorem dX9_take_61 : decode cX9_take 61 = .ok (.iaload, 1) := by decide +kernel
theorem dX9_take_62 : decode cX9_take 62 = .ok (.aload_n 0, 1) := by decide +kernel
theorem dX9_take_63 : decode cX9_take 63 = .ok (.getfield 21, 3) := by decide +kernel
theorem dX9_take_66 : decode cX9_take 66 = .ok (.getfield 45, 3) := by decide +kernel
theorem dX9_take_69 : decode cX9_take 69 = .ok (.iload_n 3, 1) := by decide +kernel
theorem dX9_take_70 : decode cX9_take 70 = .ok (.iaload, 1) := by decide +kernel
theorem dX9_take_71 : decode cX9_take 71 = .ok (.isub, 1) := by decide +kernel
theorem dX9_take_72 : decode cX9_take 72 = .ok (.iastore, 1) := by decide +kernel
theorem dX9_take_73 : decode cX9_take 73 = .ok (.iinc 3 1, 3) := by decide +kernel
theorem dX9_take_76 : decode cX9_take 76 = .ok (.goto (-40), 3) := by decide +kernel
theorem dX9_take_79 : decode cX9_take 79 = .ok (.return_, 1) := by decide +kernel
theorem dX9_hireCheapest_0 : decode cX9_hireCheapest 0 = .ok (.iconst 0, 1) := by decide +kernel
theorem dX9_hireCheapest_1 : decode cX9_hireCheapest 1 = .ok (.istore_n 1, 1) := by decide +kernel
theorem dX9_hireCheapest_2 : decode cX9_hireCheapest 2 = .ok (.iconst 0, 1) := by decide +kernel
theorem dX9_hireCheapest_3 : decode cX9_hireCheapest 3 = .ok (.istore_n 2, 1) := by decide +kernel
theorem dX9_hireCheapest_4 : decode cX9_hireCheapest 4 = .ok (.iload_n 2, 1) := by decide +kernel
theorem dX9_hireCheapest_5 : decode cX9_hireCheapest 5 = .ok (.bipush 10, 2) := by decide +kernel
theorem dX9_hireCheapest_7 : decode cX9_hireCheapest 7 = .ok (.if_icmp .ge 22, 3) := by decide +kernel
theorem dX9_hireCheapest_10 : decode cX9_hireCheapest 10 = .ok (.iload_n 1, 1) := by decide +kernel
theorem dX9_hireCheapest_11 : decode cX9_hireCheapest 11 = .ok (.iconst 0, 1) := by decide +kernel
theorem dX9_hireCheapest_12 : decode cX9_hireCheapest 12 = .ok (.aload_n 0, 1) := by decide +kernel
theorem dX9_hireCheapest_13 : decode cX9_hireCheapest 13 = .ok (.getfield 9, 3) := by decide +kernel
theorem dX9_hireCheapest_16 : decode cX9_hireCheapest 16 = .ok (.iload_n 2, 1) := by decide +kernel
theorem dX9_hireCheapest_17 : decode cX9_hireCheapest 17 = .ok (.iaload, 1) := by decide +kernel
theorem dX9_hireCheapest_18 : decode cX9_hireCheapest 18 = .ok (.invokestatic 31, 3) := by decide +kernel
theorem dX9_hireCheapest_21 : decode cX9_hireCheapest 21 = .ok (.iadd, 1) := by decide +kernel
theorem dX9_hireCheapest_22 : decode cX9_hireCheapest 22 = .ok (.istore_n 1, 1) := by decide +kernel
theorem dX9_hireCheapest_23 : decode cX9_hireCheapest 23 = .ok (.iinc 2 1, 3) := by decide +kernel
theorem dX9_hireCheapest_26 : decode cX9_hireCheapest 26 = .ok (.goto (-22), 3) := by decide +kernel
theorem dX9_hireCheapest_29 : decode cX9_hireCheapest 29 = .ok (.aload_n 0, 1) := by decide +kernel
theorem dX9_hireCheapest_30 : decode cX9_hireCheapest 30 = .ok (.sipush 1000, 3) := by decide +kernel
theorem dX9_hireCheapest_33 : decode cX9_hireCheapest 33 = .ok (.putfield 48, 3) := by decide +kernel
theorem dX9_hireCheapest_36 : decode cX9_hireCheapest 36 = .ok (.aload_n 0, 1) := by decide +kernel
theorem dX9_hireCheapest_37 : decode cX9_hireCheapest 37 = .ok (.iconst 0, 1) := by decide +kernel
theorem dX9_hireCheapest_38 : decode cX9_hireCheapest 38 = .ok (.iconst 0, 1) := by decide +kernel
theorem dX9_hireCheapest_39 : decode cX9_hireCheapest 39 = .ok (.iconst 0, 1) := by decide +kernel
theorem dX9_hireCheapest_40 : decode cX9_hireCheapest 40 = .ok (.iload_n 1, 1) := by decide +kernel
theorem dX9_hireCheapest_41 : decode cX9_hireCheapest 41 = .ok (.invokevirtual 51, 3) := by decide +kernel
theorem dX9_hireCheapest_44 : decode cX9_hireCheapest 44 = .ok (.aload_n 0, 1) := by decide +kernel
theorem dX9_hireCheapest_45 : decode cX9_hireCheapest 45 = .ok (.getfield 48, 3) := by decide +kernel
theorem dX9_hireCheapest_48 : decode cX9_hireCheapest 48 = .ok (.sipush 1000, 3) := by decide +kernel
theorem dX9_hireCheapest_51 : decode cX9_hireCheapest 51 = .ok (.if_icmp .ge 7, 3) := by decide +kernel
theorem dX9_hireCheapest_54 : decode cX9_hireCheapest 54 = .ok (.iconst 1, 1) := by decide +kernel
theorem dX9_hireCheapest_55 : decode cX9_hireCheapest 55 = .ok (.goto 4, 3) := by decide +kernel
theorem dX9_hireCheapest_58 : decode cX9_hireCheapest 58 = .ok (.iconst 0, 1) := by decide +kernel
theorem dX9_hireCheapest_59 : decode cX9_hireCheapest 59 = .ok (.ireturn, 1) := by decide +kernel
theorem dX9_hireFrom_0 : decode cX9_hireFrom 0 = .ok (.iload_n 3, 1) := by decide +kernel
theorem dX9_hireFrom_1 : decode cX9_hireFrom 1 = .ok (.aload_n 0, 1) := by decide +kernel
theorem dX9_hireFrom_2 : decode cX9_hireFrom 2 = .ok (.getfield 48, 3) := by decide +kernel
theorem dX9_hireFrom_5 : decode cX9_hireFrom 5 = .ok (.if_icmp .ge 17, 3) := by decide +kernel
theorem dX9_hireFrom_8 : decode cX9_hireFrom 8 = .ok (.iload 4, 2) := by decide +kernel
theorem dX9_hireFrom_10 : decode cX9_hireFrom 10 = .ok (.aload_n 0, 1) := by decide +kernel
theorem dX9_hireFrom_11 : decode cX9_hireFrom 11 = .ok (.getfield 21, 3) := by decide +kernel
theorem dX9_hireFrom_14 : decode cX9_hireFrom 14 = .ok (.getfield 55, 3) := by decide +kernel
theorem dX9_hireFrom_17 : decode cX9_hireFrom 17 = .ok (.iload_n 1, 1) := by decide +kernel
theorem dX9_hireFrom_18 : decode cX9_hireFrom 18 = .ok (.iaload, 1) := by decide +kernel
theorem dX9_hireFrom_19 : decode cX9_hireFrom 19 = .ok (.if_icmp .le 4, 3) := by decide +kernel
theorem dX9_hireFrom_22 : decode cX9_hireFrom 22 = .ok (.return_, 1) := by decide +kernel
theorem dX9_hireFrom_23 : decode cX9_hireFrom 23 = .ok (.iload_n 1, 1) := by decide +kernel
theorem dX9_hireFrom_24 : decode cX9_hireFrom 24 = .ok (.aload_n 0, 1) := by decide +kernel
theorem dX9_hireFrom_25 : decode cX9_hireFrom 25 = .ok (.getfield 21, 3) := by decide +kernel
theorem dX9_hireFrom_28 : decode cX9_hireFrom 28 = .ok (.getfield 36, 3) := by decide +kernel
theorem dX9_hireFrom_31 : decode cX9_hireFrom 31 = .ok (.if_icmp .lt 24, 3) := by decide +kernel
theorem dX9_hireFrom_34 : decode cX9_hireFrom 34 = .ok (.aload_n 0, 1) := by decide +kernel
theorem dX9_hireFrom_35 : decode cX9_hireFrom 35 = .ok (.iload_n 3, 1) := by decide +kernel
theorem dX9_hireFrom_36 : decode cX9_hireFrom 36 = .ok (.putfield 48, 3) := by decide +kernel
theorem dX9_hireFrom_39 : decode cX9_hireFrom 39 = .ok (.aload_n 0, 1) := by decide +kernel
theorem dX9_hireFrom_40 : decode cX9_hireFrom 40 = .ok (.getfield 15, 3) := by decide +kernel
theorem dX9_hireFrom_43 : decode cX9_hireFrom 43 = .ok (.iconst 0, 1) := by decide +kernel
theorem dX9_hireFrom_44 : decode cX9_hireFrom 44 = .ok (.aload_n 0, 1) := by decide +kernel
theorem dX9_hireFrom_45 : decode cX9_hireFrom 45 = .ok (.getfield 18, 3) := by decide +kernel
theorem dX9_hireFrom_48 : decode cX9_hireFrom 48 = .ok (.iconst 0, 1) := by decide +kernel
theorem dX9_hireFrom_49 : decode cX9_hireFrom 49 = .ok (.bipush 6, 2) := by decide +kernel
theorem dX9_hireFrom_51 : decode cX9_hireFrom 51 = .ok (.invokestatic 58, 3) := by decide +kernel
theorem dX9_hireFrom_54 : decode cX9_hireFrom 54 = .ok (.return_, 1) := by decide +kernel
theorem dX9_hireFrom_55 : decode cX9_hireFrom 55 = .ok (.aload_n 0, 1) := by decide +kernel
theorem dX9_hireFrom_56 : decode cX9_hireFrom 56 = .ok (.getfield 21, 3) := by decide +kernel
theorem dX9_hireFrom_59 : decode cX9_hireFrom 59 = .ok (.iload_n 1, 1) := by decide +kernel
theorem dX9_hireFrom_60 : decode cX9_hireFrom 60 = .ok (.iload_n 2, 1) := by decide +kernel
theorem dX9_hireFrom_61 : decode cX9_hireFrom 61 = .ok (.invokevirtual 64, 3) := by decide +kernel
theorem dX9_hireFrom_64 : decode cX9_hireFrom 64 = .ok (.istore 5, 2) := by decide +kernel
theorem dX9_hireFrom_66 : decode cX9_hireFrom 66 = .ok (.iconst 0, 1) := by decide +kernel
theorem dX9_hireFrom_67 : decode cX9_hireFrom 67 = .ok (.istore 6, 2) := by decide +kernel
theorem dX9_hireFrom_69 : decode cX9_hireFrom 69 = .ok (.iload 6, 2) := by decide +kernel
theorem dX9_hireFrom_71 : decode cX9_hireFrom 71 = .ok (.bipush 6, 2) := by decide +kernel
theorem dX9_hireFrom_73 : decode cX9_hireFrom 73 = .ok (.if_icmp .ge 129, 3) := by decide +kernel
theorem dX9_hireFrom_76 : decode cX9_hireFrom 76 = .ok (.iload 5, 2) := by decide +kernel
theorem dX9_hireFrom_78 : decode cX9_hireFrom 78 = .ok (.iload 6, 2) := by decide +kernel
theorem dX9_hireFrom_80 : decode cX9_hireFrom 80 = .ok (.invokestatic 67, 3) := by decide +kernel
theorem dX9_hireFrom_83 : decode cX9_hireFrom 83 = .ok (.ifCond .eq 113, 3) := by decide +kernel
theorem dX9_hireFrom_86 : decode cX9_hireFrom 86 = .ok (.aload_n 0, 1) := by decide +kernel
theorem dX9_hireFrom_87 : decode cX9_hireFrom 87 = .ok (.getfield 21, 3) := by decide +kernel
theorem dX9_hireFrom_90 : decode cX9_hireFrom 90 = .ok (.getfield 71, 3) := by decide +kernel
theorem dX9_hireFrom_93 : decode cX9_hireFrom 93 = .ok (.iload 6, 2) := by decide +kernel
theorem dX9_hireFrom_95 : decode cX9_hireFrom 95 = .ok (.iaload, 1) := by decide +kernel
theorem dX9_hireFrom_96 : decode cX9_hireFrom 96 = .ok (.istore 7, 2) := by decide +kernel
theorem dX9_hireFrom_98 : decode cX9_hireFrom 98 = .ok (.aload_n 0, 1) := by decide +kernel
theorem dX9_hireFrom_99 : decode cX9_hireFrom 99 = .ok (.getfield 9, 3) := by decide +kernel
theorem dX9_hireFrom_102 : decode cX9_hireFrom 102 = .ok (.iload 7, 2) := by decide +kernel
theorem dX9_hireFrom_104 : decode cX9_hireFrom 104 = .ok (.iaload, 1) := by decide +kernel
theorem dX9_hireFrom_105 : decode cX9_hireFrom 105 = .ok (.istore 8, 2) := by decide +kernel
theorem dX9_hireFrom_107 : decode cX9_hireFrom 107 = .ok (.iload 8, 2) := by decide +kernel
theorem dX9_hireFrom_109 : decode cX9_hireFrom 109 = .ok (.aload_n 0, 1) := by decide +kernel
theorem dX9_hireFrom_110 : decode cX9_hireFrom 110 = .ok (.getfield 21, 3) := by decide +kernel
theorem dX9_hireFrom_113 : decode cX9_hireFrom 113 = .ok (.getfield 74, 3) := by decide +kernel
theorem dX9_hireFrom_116 : decode cX9_hireFrom 116 = .ok (.iload_n 1, 1) := by decide +kernel
theorem dX9_hireFrom_117 : decode cX9_hireFrom 117 = .ok (.iaload, 1) := by decide +kernel
theorem dX9_hireFrom_118 : decode cX9_hireFrom 118 = .ok (.isub, 1) := by decide +kernel
theorem dX9_hireFrom_119 : decode cX9_hireFrom 119 = .ok (.istore 9, 2) := by decide +kernel
theorem dX9_hireFrom_121 : decode cX9_hireFrom 121 = .ok (.aload_n 0, 1) := by decide +kernel
theorem dX9_hireFrom_122 : decode cX9_hireFrom 122 = .ok (.getfield 9, 3) := by decide +kernel
theorem dX9_hireFrom_125 : decode cX9_hireFrom 125 = .ok (.iload 7, 2) := by decide +kernel
theorem dX9_hireFrom_127 : decode cX9_hireFrom 127 = .ok (.iload 9, 2) := by decide +kernel
theorem dX9_hireFrom_129 : decode cX9_hireFrom 129 = .ok (.iastore, 1) := by decide +kernel
theorem dX9_hireFrom_130 : decode cX9_hireFrom 130 = .ok (.aload_n 0, 1) := by decide +kernel
theorem dX9_hireFrom_131 : decode cX9_hireFrom 131 = .ok (.getfield 15, 3) := by decide +kernel
theorem dX9_hireFrom_134 : decode cX9_hireFrom 134 = .ok (.iload_n 1, 1) := by decide +kernel
theorem dX9_hireFrom_135 : decode cX9_hireFrom 135 = .ok (.iload 6, 2) := by decide +kernel
theorem dX9_hireFrom_137 : decode cX9_hireFrom 137 = .ok (.iastore, 1) := by decide +kernel
theorem dX9_hireFrom_138 : decode cX9_hireFrom 138 = .ok (.iload 4, 2) := by decide +kernel
theorem dX9_hireFrom_140 : decode cX9_hireFrom 140 = .ok (.iconst 0, 1) := by decide +kernel
theorem dX9_hireFrom_141 : decode cX9_hireFrom 141 = .ok (.iload 8, 2) := by decide +kernel
theorem dX9_hireFrom_143 : decode cX9_hireFrom 143 = .ok (.invokestatic 31, 3) := by decide +kernel
theorem dX9_hireFrom_146 : decode cX9_hireFrom 146 = .ok (.isub, 1) := by decide +kernel
theorem dX9_hireFrom_147 : decode cX9_hireFrom 147 = .ok (.iconst 0, 1) := by decide +kernel
theorem dX9_hireFrom_148 : decode cX9_hireFrom 148 = .ok (.iload 9, 2) := by decide +kernel
theorem dX9_hireFrom_150 : decode cX9_hireFrom 150 = .ok (.invokestatic 31, 3) := by decide +kernel
theorem dX9_hireFrom_153 : decode cX9_hireFrom 153 = .ok (.iadd, 1) := by decide +kernel
theorem dX9_hireFrom_154 : decode cX9_hireFrom 154 = .ok (.istore 10, 2) := by decide +kernel
theorem dX9_hireFrom_156 : decode cX9_hireFrom 156 = .ok (.aload_n 0, 1) := by decide +kernel
theorem dX9_hireFrom_157 : decode cX9_hireFrom 157 = .ok (.iload_n 1, 1) := by decide +kernel
theorem dX9_hireFrom_158 : decode cX9_hireFrom 158 = .ok (.iconst 1, 1) := by decide +kernel
theorem dX9_hireFrom_159 : decode cX9_hireFrom 159 = .ok (.iadd, 1) := by decide +kernel
theorem dX9_hireFrom_160 : decode cX9_hireFrom 160 = .ok (.aload_n 0, 1) := by decide +kernel
theorem dX9_hireFrom_161 : decode cX9_hireFrom 161 = .ok (.getfield 21, 3) := by decide +kernel
theorem dX9_hireFrom_164 : decode cX9_hireFrom 164 = .ok (.iload_n 2, 1) := by decide +kernel
theorem dX9_hireFrom_165 : decode cX9_hireFrom 165 = .ok (.iload 6, 2) := by decide +kernel
theorem dX9_hireFrom_167 : decode cX9_hireFrom 167 = .ok (.invokevirtual 77, 3) := by decide +kernel
theorem dX9_hireFrom_170 : decode cX9_hireFrom 170 = .ok (.iload_n 3, 1) := by decide +kernel
theorem dX9_hireFrom_171 : decode cX9_hireFrom 171 = .ok (.aload_n 0, 1) := by decide +kernel
theorem dX9_hireFrom_172 : decode cX9_hireFrom 172 = .ok (.getfield 21, 3) := by decide +kernel
theorem dX9_hireFrom_175 : decode cX9_hireFrom 175 = .ok (.iload_n 2, 1) := by decide +kernel
theorem dX9_hireFrom_176 : decode cX9_hireFrom 176 = .ok (.iload 6, 2) := by decide +kernel
theorem dX9_hireFrom_178 : decode cX9_hireFrom 178 = .ok (.invokevirtual 80, 3) := by decide +kernel
theorem dX9_hireFrom_181 : decode cX9_hireFrom 181 = .ok (.iadd, 1) := by decide +kernel
theorem dX9_hireFrom_182 : decode cX9_hireFrom 182 = .ok (.iload 10, 2) := by decide +kernel
theorem dX9_hireFrom_184 : decode cX9_hireFrom 184 = .ok (.invokevirtual 51, 3) := by decide +kernel
theorem dX9_hireFrom_187 : decode cX9_hireFrom 187 = .ok (.aload_n 0, 1) := by decide +kernel
theorem dX9_hireFrom_188 : decode cX9_hireFrom 188 = .ok (.getfield 9, 3) := by decide +kernel
theorem dX9_hireFrom_191 : decode cX9_hireFrom 191 = .ok (.iload 7, 2) := by decide +kernel
theorem dX9_hireFrom_193 : decode cX9_hireFrom 193 = .ok (.iload 8, 2) := by decide +kernel
theorem dX9_hireFrom_195 : decode cX9_hireFrom 195 = .ok (.iastore, 1) := by decide +kernel
theorem dX9_hireFrom_196 : decode cX9_hireFrom 196 = .ok (.iinc 6 1, 3) := by decide +kernel
theorem dX9_hireFrom_199 : decode cX9_hireFrom 199 = .ok (.goto (-130), 3) := by decide +kernel
theorem dX9_hireFrom_202 : decode cX9_hireFrom 202 = .ok (.return_, 1) := by decide +kernel
theorem dX9_bakeAll_0 : decode cX9_bakeAll 0 = .ok (.aload_n 0, 1) := by decide +kernel
theorem dX9_bakeAll_1 : decode cX9_bakeAll 1 = .ok (.iconst 0, 1) := by decide +kernel
theorem dX9_bakeAll_2 : decode cX9_bakeAll 2 = .ok (.putfield 83, 3) := by decide +kernel
theorem dX9_bakeAll_5 : decode cX9_bakeAll 5 = .ok (.iconst 0, 1) := by decide +kernel
theorem dX9_bakeAll_6 : decode cX9_bakeAll 6 = .ok (.istore_n 1, 1) := by decide +kernel
theorem dX9_bakeAll_7 : decode cX9_bakeAll 7 = .ok (.iconst 0, 1) := by decide +kernel
theorem dX9_bakeAll_8 : decode cX9_bakeAll 8 = .ok (.istore_n 2, 1) := by decide +kernel
theorem dX9_bakeAll_9 : decode cX9_bakeAll 9 = .ok (.iload_n 2, 1) := by decide +kernel
theorem dX9_bakeAll_10 : decode cX9_bakeAll 10 = .ok (.bipush 10, 2) := by decide +kernel
theorem dX9_bakeAll_12 : decode cX9_bakeAll 12 = .ok (.if_icmp .ge 28, 3) := by decide +kernel
theorem dX9_bakeAll_15 : decode cX9_bakeAll 15 = .ok (.aload_n 0, 1) := by decide +kernel
theorem dX9_bakeAll_16 : decode cX9_bakeAll 16 = .ok (.getfield 9, 3) := by decide +kernel
theorem dX9_bakeAll_19 : decode cX9_bakeAll 19 = .ok (.iload_n 2, 1) := by decide +kernel
theorem dX9_bakeAll_20 : decode cX9_bakeAll 20 = .ok (.iaload, 1) := by decide +kernel
theorem dX9_bakeAll_21 : decode cX9_bakeAll 21 = .ok (.ifCond .ge 4, 3) := by decide +kernel
theorem dX9_bakeAll_24 : decode cX9_bakeAll 24 = .ok (.return_, 1) := by decide +kernel
theorem dX9_bakeAll_25 : decode cX9_bakeAll 25 = .ok (.iload_n 1, 1) := by decide +kernel
theorem dX9_bakeAll_26 : decode cX9_bakeAll 26 = .ok (.aload_n 0, 1) := by decide +kernel
theorem dX9_bakeAll_27 : decode cX9_bakeAll 27 = .ok (.getfield 9, 3) := by decide +kernel
theorem dX9_bakeAll_30 : decode cX9_bakeAll 30 = .ok (.iload_n 2, 1) := by decide +kernel
theorem dX9_bakeAll_31 : decode cX9_bakeAll 31 = .ok (.iaload, 1) := by decide +kernel
theorem dX9_bakeAll_32 : decode cX9_bakeAll 32 = .ok (.iadd, 1) := by decide +kernel
theorem dX9_bakeAll_33 : decode cX9_bakeAll 33 = .ok (.istore_n 1, 1) := by decide +kernel
theorem dX9_bakeAll_34 : decode cX9_bakeAll 34 = .ok (.iinc 2 1, 3) := by decide +kernel
theorem dX9_bakeAll_37 : decode cX9_bakeAll 37 = .ok (.goto (-28), 3) := by decide +kernel
theorem dX9_bakeAll_40 : decode cX9_bakeAll 40 = .ok (.iload_n 1, 1) := by decide +kernel
theorem dX9_bakeAll_41 : decode cX9_bakeAll 41 = .ok (.aload_n 0, 1) := by decide +kernel
theorem dX9_bakeAll_42 : decode cX9_bakeAll 42 = .ok (.getfield 21, 3) := by decide +kernel
theorem dX9_bakeAll_45 : decode cX9_bakeAll 45 = .ok (.getfield 55, 3) := by decide +kernel
theorem dX9_bakeAll_48 : decode cX9_bakeAll 48 = .ok (.iconst 0, 1) := by decide +kernel
theorem dX9_bakeAll_49 : decode cX9_bakeAll 49 = .ok (.iaload, 1) := by decide +kernel
theorem dX9_bakeAll_50 : decode cX9_bakeAll 50 = .ok (.if_icmp .ne 9, 3) := by decide +kernel
theorem dX9_bakeAll_53 : decode cX9_bakeAll 53 = .ok (.aload_n 0, 1) := by decide +kernel
theorem dX9_bakeAll_54 : decode cX9_bakeAll 54 = .ok (.iconst 0, 1) := by decide +kernel
theorem dX9_bakeAll_55 : decode cX9_bakeAll 55 = .ok (.iconst 0, 1) := by decide +kernel
theorem dX9_bakeAll_56 : decode cX9_bakeAll 56 = .ok (.invokevirtual 86, 3) := by decide +kernel
theorem dX9_bakeAll_59 : decode cX9_bakeAll 59 = .ok (.return_, 1) := by decide +kernel
theorem dX9_bakeFrom_0 : decode cX9_bakeFrom 0 = .ok (.iload_n 1, 1) := by decide +kernel
theorem dX9_bakeFrom_1 : decode cX9_bakeFrom 1 = .ok (.aload_n 0, 1) := by decide +kernel
theorem dX9_bakeFrom_2 : decode cX9_bakeFrom 2 = .ok (.getfield 21, 3) := by decide +kernel
theorem dX9_bakeFrom_5 : decode cX9_bakeFrom 5 = .ok (.getfield 36, 3) := by decide +kernel
theorem dX9_bakeFrom_8 : decode cX9_bakeFrom 8 = .ok (.if_icmp .lt 36, 3) := by decide +kernel
theorem dX9_bakeFrom_11 : decode cX9_bakeFrom 11 = .ok (.aload_n 0, 1) := by decide +kernel
theorem dX9_bakeFrom_12 : decode cX9_bakeFrom 12 = .ok (.getfield 83, 3) := by decide +kernel
theorem dX9_bakeFrom_15 : decode cX9_bakeFrom 15 = .ok (.ifCond .ne 18, 3) := by decide +kernel
theorem dX9_bakeFrom_18 : decode cX9_bakeFrom 18 = .ok (.aload_n 0, 1) := by decide +kernel
theorem dX9_bakeFrom_19 : decode cX9_bakeFrom 19 = .ok (.getfield 15, 3) := by decide +kernel
theorem dX9_bakeFrom_22 : decode cX9_bakeFrom 22 = .ok (.iconst 0, 1) := by decide +kernel
theorem dX9_bakeFrom_23 : decode cX9_bakeFrom 23 = .ok (.aload_n 0, 1) := by decide +kernel
theorem dX9_bakeFrom_24 : decode cX9_bakeFrom 24 = .ok (.getfield 18, 3) := by decide +kernel
theorem dX9_bakeFrom_27 : decode cX9_bakeFrom 27 = .ok (.iconst 0, 1) := by decide +kernel
theorem dX9_bakeFrom_28 : decode cX9_bakeFrom 28 = .ok (.bipush 6, 2) := by decide +kernel
theorem dX9_bakeFrom_30 : decode cX9_bakeFrom 30 = .ok (.invokestatic 58, 3) := by decide +kernel
theorem dX9_bakeFrom_33 : decode cX9_bakeFrom 33 = .ok (.aload_n 0, 1) := by decide +kernel
theorem dX9_bakeFrom_34 : decode cX9_bakeFrom 34 = .ok (.dup, 1) := by decide +kernel
theorem dX9_bakeFrom_35 : decode cX9_bakeFrom 35 = .ok (.getfield 83, 3) := by decide +kernel
theorem dX9_bakeFrom_38 : decode cX9_bakeFrom 38 = .ok (.iconst 1, 1) := by decide +kernel
theorem dX9_bakeFrom_39 : decode cX9_bakeFrom 39 = .ok (.iadd, 1) := by decide +kernel
theorem dX9_bakeFrom_40 : decode cX9_bakeFrom 40 = .ok (.putfield 83, 3) := by decide +kernel
theorem dX9_bakeFrom_43 : decode cX9_bakeFrom 43 = .ok (.return_, 1) := by decide +kernel
theorem dX9_bakeFrom_44 : decode cX9_bakeFrom 44 = .ok (.aload_n 0, 1) := by decide +kernel
theorem dX9_bakeFrom_45 : decode cX9_bakeFrom 45 = .ok (.getfield 21, 3) := by decide +kernel
theorem dX9_bakeFrom_48 : decode cX9_bakeFrom 48 = .ok (.iload_n 1, 1) := by decide +kernel
theorem dX9_bakeFrom_49 : decode cX9_bakeFrom 49 = .ok (.iload_n 2, 1) := by decide +kernel
theorem dX9_bakeFrom_50 : decode cX9_bakeFrom 50 = .ok (.invokevirtual 64, 3) := by decide +kernel
theorem dX9_bakeFrom_53 : decode cX9_bakeFrom 53 = .ok (.istore_n 3, 1) := by decide +kernel
theorem dX9_bakeFrom_54 : decode cX9_bakeFrom 54 = .ok (.iconst 0, 1) := by decide +kernel
theorem dX9_bakeFrom_55 : decode cX9_bakeFrom 55 = .ok (.istore 4, 2) := by decide +kernel
theorem dX9_bakeFrom_57 : decode cX9_bakeFrom 57 = .ok (.iload 4, 2) := by decide +kernel
theorem dX9_bakeFrom_59 : decode cX9_bakeFrom 59 = .ok (.bipush 6, 2) := by decide +kernel
theorem dX9_bakeFrom_61 : decode cX9_bakeFrom 61 = .ok (.if_icmp .ge 112, 3) := by decide +kernel
theorem dX9_bakeFrom_64 : decode cX9_bakeFrom 64 = .ok (.aload_n 0, 1) := by decide +kernel
theorem dX9_bakeFrom_65 : decode cX9_bakeFrom 65 = .ok (.getfield 21, 3) := by decide +kernel
theorem dX9_bakeFrom_68 : decode cX9_bakeFrom 68 = .ok (.getfield 71, 3) := by decide +kernel
theorem dX9_bakeFrom_71 : decode cX9_bakeFrom 71 = .ok (.iload 4, 2) := by decide +kernel
theorem dX9_bakeFrom_73 : decode cX9_bakeFrom 73 = .ok (.iaload, 1) := by decide +kernel
theorem dX9_bakeFrom_74 : decode cX9_bakeFrom 74 = .ok (.istore 5, 2) := by decide +kernel
theorem dX9_bakeFrom_76 : decode cX9_bakeFrom 76 = .ok (.iload_n 3, 1) := by decide +kernel
theorem dX9_bakeFrom_77 : decode cX9_bakeFrom 77 = .ok (.iload 4, 2) := by decide +kernel
theorem dX9_bakeFrom_79 : decode cX9_bakeFrom 79 = .ok (.invokestatic 67, 3) := by decide +kernel
theorem dX9_bakeFrom_82 : decode cX9_bakeFrom 82 = .ok (.ifCond .eq 85, 3) := by decide +kernel
theorem dX9_bakeFrom_85 : decode cX9_bakeFrom 85 = .ok (.aload_n 0, 1) := by decide +kernel
theorem dX9_bakeFrom_86 : decode cX9_bakeFrom 86 = .ok (.getfield 9, 3) := by decide +kernel
theorem dX9_bakeFrom_89 : decode cX9_bakeFrom 89 = .ok (.iload 5, 2) := by decide +kernel
theorem dX9_bakeFrom_91 : decode cX9_bakeFrom 91 = .ok (.iaload, 1) := by decide +kernel
theorem dX9_bakeFrom_92 : decode cX9_bakeFrom 92 = .ok (.aload_n 0, 1) := by decide +kernel
theorem dX9_bakeFrom_93 : decode cX9_bakeFrom 93 = .ok (.getfield 21, 3) := by decide +kernel
theorem dX9_bakeFrom_96 : decode cX9_bakeFrom 96 = .ok (.getfield 74, 3) := by decide +kernel
end
section
theorem dX9_bakeFrom_99 : decode cX9_bakeFrom 99 = .ok (.iload_n 1, 1) := by decide +kernel
theorem dX9_bakeFrom_100 : decode cX9_bakeFrom 100 = .ok (.iaload, 1) := by decide +kernel
theorem dX9_bakeFrom_101 : decode cX9_bakeFrom 101 = .ok (.if_icmp .lt 66, 3) := by decide +kernel
theorem dX9_bakeFrom_104 : decode cX9_bakeFrom 104 = .ok (.aload_n 0, 1) := by decide +kernel
theorem dX9_bakeFrom_105 : decode cX9_bakeFrom 105 = .ok (.getfield 9, 3) := by decide +kernel
theorem dX9_bakeFrom_108 : decode cX9_bakeFrom 108 = .ok (.iload 5, 2) := by decide +kernel
theorem dX9_bakeFrom_110 : decode cX9_bakeFrom 110 = .ok (.dup2, 1) := by decide +kernel
theorem dX9_bakeFrom_111 : decode cX9_bakeFrom 111 = .ok (.iaload, 1) := by decide +kernel
theorem dX9_bakeFrom_112 : decode cX9_bakeFrom 112 = .ok (.aload_n 0, 1) := by decide +kernel
theorem dX9_bakeFrom_113 : decode cX9_bakeFrom 113 = .ok (.getfield 21, 3) := by decide +kernel
theorem dX9_bakeFrom_116 : decode cX9_bakeFrom 116 = .ok (.getfield 74, 3) := by decide +kernel
theorem dX9_bakeFrom_119 : decode cX9_bakeFrom 119 = .ok (.iload_n 1, 1) := by decide +kernel
theorem dX9_bakeFrom_120 : decode cX9_bakeFrom 120 = .ok (.iaload, 1) := by decide +kernel
theorem dX9_bakeFrom_121 : decode cX9_bakeFrom 121 = .ok (.isub, 1) := by decide +kernel
theorem dX9_bakeFrom_122 : decode cX9_bakeFrom 122 = .ok (.iastore, 1) := by decide +kernel
theorem dX9_bakeFrom_123 : decode cX9_bakeFrom 123 = .ok (.aload_n 0, 1) := by decide +kernel
theorem dX9_bakeFrom_124 : decode cX9_bakeFrom 124 = .ok (.getfield 15, 3) := by decide +kernel
theorem dX9_bakeFrom_127 : decode cX9_bakeFrom 127 = .ok (.iload_n 1, 1) := by decide +kernel
theorem dX9_bakeFrom_128 : decode cX9_bakeFrom 128 = .ok (.iload 4, 2) := by decide +kernel
theorem dX9_bakeFrom_130 : decode cX9_bakeFrom 130 = .ok (.iastore, 1) := by decide +kernel
theorem dX9_bakeFrom_131 : decode cX9_bakeFrom 131 = .ok (.aload_n 0, 1) := by decide +kernel
theorem dX9_bakeFrom_132 : decode cX9_bakeFrom 132 = .ok (.iload_n 1, 1) := by decide +kernel
theorem dX9_bakeFrom_133 : decode cX9_bakeFrom 133 = .ok (.iconst 1, 1) := by decide +kernel
theorem dX9_bakeFrom_134 : decode cX9_bakeFrom 134 = .ok (.iadd, 1) := by decide +kernel
theorem dX9_bakeFrom_135 : decode cX9_bakeFrom 135 = .ok (.aload_n 0, 1) := by decide +kernel
theorem dX9_bakeFrom_136 : decode cX9_bakeFrom 136 = .ok (.getfield 21, 3) := by decide +kernel
theorem dX9_bakeFrom_139 : decode cX9_bakeFrom 139 = .ok (.iload_n 2, 1) := by decide +kernel
theorem dX9_bakeFrom_140 : decode cX9_bakeFrom 140 = .ok (.iload 4, 2) := by decide +kernel
theorem dX9_bakeFrom_142 : decode cX9_bakeFrom 142 = .ok (.invokevirtual 77, 3) := by decide +kernel
theorem dX9_bakeFrom_145 : decode cX9_bakeFrom 145 = .ok (.invokevirtual 86, 3) := by decide +kernel
theorem dX9_bakeFrom_148 : decode cX9_bakeFrom 148 = .ok (.aload_n 0, 1) := by decide +kernel
theorem dX9_bakeFrom_149 : decode cX9_bakeFrom 149 = .ok (.getfield 9, 3) := by decide +kernel
theorem dX9_bakeFrom_152 : decode cX9_bakeFrom 152 = .ok (.iload 5, 2) := by decide +kernel
theorem dX9_bakeFrom_154 : decode cX9_bakeFrom 154 = .ok (.dup2, 1) := by decide +kernel
theorem dX9_bakeFrom_155 : decode cX9_bakeFrom 155 = .ok (.iaload, 1) := by decide +kernel
theorem dX9_bakeFrom_156 : decode cX9_bakeFrom 156 = .ok (.aload_n 0, 1) := by decide +kernel
theorem dX9_bakeFrom_157 : decode cX9_bakeFrom 157 = .ok (.getfield 21, 3) := by decide +kernel
theorem dX9_bakeFrom_160 : decode cX9_bakeFrom 160 = .ok (.getfield 74, 3) := by decide +kernel
theorem dX9_bakeFrom_163 : decode cX9_bakeFrom 163 = .ok (.iload_n 1, 1) := by decide +kernel
theorem dX9_bakeFrom_164 : decode cX9_bakeFrom 164 = .ok (.iaload, 1) := by decide +kernel
theorem dX9_bakeFrom_165 : decode cX9_bakeFrom 165 = .ok (.iadd, 1) := by decide +kernel
theorem dX9_bakeFrom_166 : decode cX9_bakeFrom 166 = .ok (.iastore, 1) := by decide +kernel
theorem dX9_bakeFrom_167 : decode cX9_bakeFrom 167 = .ok (.iinc 4 1, 3) := by decide +kernel
theorem dX9_bakeFrom_170 : decode cX9_bakeFrom 170 = .ok (.goto (-113), 3) := by decide +kernel
theorem dX9_bakeFrom_173 : decode cX9_bakeFrom 173 = .ok (.return_, 1) := by decide +kernel
theorem dX9_foundDigits_0 : decode cX9_foundDigits 0 = .ok (.iconst 0, 1) := by decide +kernel
theorem dX9_foundDigits_1 : decode cX9_foundDigits 1 = .ok (.istore_n 1, 1) := by decide +kernel
theorem dX9_foundDigits_2 : decode cX9_foundDigits 2 = .ok (.iconst 0, 1) := by decide +kernel
theorem dX9_foundDigits_3 : decode cX9_foundDigits 3 = .ok (.istore_n 2, 1) := by decide +kernel
theorem dX9_foundDigits_4 : decode cX9_foundDigits 4 = .ok (.iload_n 2, 1) := by decide +kernel
theorem dX9_foundDigits_5 : decode cX9_foundDigits 5 = .ok (.aload_n 0, 1) := by decide +kernel
theorem dX9_foundDigits_6 : decode cX9_foundDigits 6 = .ok (.getfield 21, 3) := by decide +kernel
theorem dX9_foundDigits_9 : decode cX9_foundDigits 9 = .ok (.getfield 36, 3) := by decide +kernel
theorem dX9_foundDigits_12 : decode cX9_foundDigits 12 = .ok (.if_icmp .ge 21, 3) := by decide +kernel
theorem dX9_foundDigits_15 : decode cX9_foundDigits 15 = .ok (.iload_n 1, 1) := by decide +kernel
theorem dX9_foundDigits_16 : decode cX9_foundDigits 16 = .ok (.bipush 6, 2) := by decide +kernel
theorem dX9_foundDigits_18 : decode cX9_foundDigits 18 = .ok (.imul, 1) := by decide +kernel
theorem dX9_foundDigits_19 : decode cX9_foundDigits 19 = .ok (.aload_n 0, 1) := by decide +kernel
theorem dX9_foundDigits_20 : decode cX9_foundDigits 20 = .ok (.getfield 18, 3) := by decide +kernel
theorem dX9_foundDigits_23 : decode cX9_foundDigits 23 = .ok (.iload_n 2, 1) := by decide +kernel
theorem dX9_foundDigits_24 : decode cX9_foundDigits 24 = .ok (.iaload, 1) := by decide +kernel
theorem dX9_foundDigits_25 : decode cX9_foundDigits 25 = .ok (.iadd, 1) := by decide +kernel
theorem dX9_foundDigits_26 : decode cX9_foundDigits 26 = .ok (.istore_n 1, 1) := by decide +kernel
theorem dX9_foundDigits_27 : decode cX9_foundDigits 27 = .ok (.iinc 2 1, 3) := by decide +kernel
theorem dX9_foundDigits_30 : decode cX9_foundDigits 30 = .ok (.goto (-26), 3) := by decide +kernel
theorem dX9_foundDigits_33 : decode cX9_foundDigits 33 = .ok (.iload_n 1, 1) := by decide +kernel
theorem dX9_foundDigits_34 : decode cX9_foundDigits 34 = .ok (.ireturn, 1) := by decide +kernel
theorem dX8_init_0 : decode cX8_init 0 = .ok (.aload_n 0, 1) := by decide +kernel
theorem dX8_init_1 : decode cX8_init 1 = .ok (.invokespecial 3, 3) := by decide +kernel
theorem dX8_init_4 : decode cX8_init 4 = .ok (.aload_n 0, 1) := by decide +kernel
theorem dX8_init_5 : decode cX8_init 5 = .ok (.sipush 4096, 3) := by decide +kernel
theorem dX8_init_8 : decode cX8_init 8 = .ok (.newarray .int, 2) := by decide +kernel
theorem dX8_init_10 : decode cX8_init 10 = .ok (.putfield 9, 3) := by decide +kernel
theorem dX8_init_13 : decode cX8_init 13 = .ok (.aload_n 0, 1) := by decide +kernel
theorem dX8_init_14 : decode cX8_init 14 = .ok (.aload_n 1, 1) := by decide +kernel
theorem dX8_init_15 : decode cX8_init 15 = .ok (.putfield 15, 3) := by decide +kernel
theorem dX8_init_18 : decode cX8_init 18 = .ok (.return_, 1) := by decide +kernel
theorem dX8_outcome_0 : decode cX8_outcome 0 = .ok (.aload_n 0, 1) := by decide +kernel
theorem dX8_outcome_1 : decode cX8_outcome 1 = .ok (.iload_n 1, 1) := by decide +kernel
theorem dX8_outcome_2 : decode cX8_outcome 2 = .ok (.putfield 19, 3) := by decide +kernel
theorem dX8_outcome_5 : decode cX8_outcome 5 = .ok (.aload_n 0, 1) := by decide +kernel
theorem dX8_outcome_6 : decode cX8_outcome 6 = .ok (.getfield 9, 3) := by decide +kernel
theorem dX8_outcome_9 : decode cX8_outcome 9 = .ok (.ldc 23, 2) := by decide +kernel
theorem dX8_outcome_11 : decode cX8_outcome 11 = .ok (.invokestatic 24, 3) := by decide +kernel
theorem dX8_outcome_14 : decode cX8_outcome 14 = .ok (.aload_n 0, 1) := by decide +kernel
theorem dX8_outcome_15 : decode cX8_outcome 15 = .ok (.iconst 0, 1) := by decide +kernel
theorem dX8_outcome_16 : decode cX8_outcome 16 = .ok (.iconst 0, 1) := by decide +kernel
theorem dX8_outcome_17 : decode cX8_outcome 17 = .ok (.iconst 0, 1) := by decide +kernel
theorem dX8_outcome_18 : decode cX8_outcome 18 = .ok (.iconst 0, 1) := by decide +kernel
theorem dX8_outcome_19 : decode cX8_outcome 19 = .ok (.invokevirtual 30, 3) := by decide +kernel
theorem dX8_outcome_22 : decode cX8_outcome 22 = .ok (.ireturn, 1) := by decide +kernel
theorem dX8_outcomeFrom_0 : decode cX8_outcomeFrom 0 = .ok (.iload_n 1, 1) := by decide +kernel
theorem dX8_outcomeFrom_1 : decode cX8_outcomeFrom 1 = .ok (.bipush 32, 2) := by decide +kernel
theorem dX8_outcomeFrom_3 : decode cX8_outcomeFrom 3 = .ok (.imul, 1) := by decide +kernel
theorem dX8_outcomeFrom_4 : decode cX8_outcomeFrom 4 = .ok (.iload_n 2, 1) := by decide +kernel
theorem dX8_outcomeFrom_5 : decode cX8_outcomeFrom 5 = .ok (.iadd, 1) := by decide +kernel
theorem dX8_outcomeFrom_6 : decode cX8_outcomeFrom 6 = .ok (.iconst 2, 1) := by decide +kernel
theorem dX8_outcomeFrom_7 : decode cX8_outcomeFrom 7 = .ok (.imul, 1) := by decide +kernel
theorem dX8_outcomeFrom_8 : decode cX8_outcomeFrom 8 = .ok (.iload_n 3, 1) := by decide +kernel
theorem dX8_outcomeFrom_9 : decode cX8_outcomeFrom 9 = .ok (.iadd, 1) := by decide +kernel
theorem dX8_outcomeFrom_10 : decode cX8_outcomeFrom 10 = .ok (.istore 5, 2) := by decide +kernel
theorem dX8_outcomeFrom_12 : decode cX8_outcomeFrom 12 = .ok (.aload_n 0, 1) := by decide +kernel
theorem dX8_outcomeFrom_13 : decode cX8_outcomeFrom 13 = .ok (.getfield 9, 3) := by decide +kernel
theorem dX8_outcomeFrom_16 : decode cX8_outcomeFrom 16 = .ok (.iload 5, 2) := by decide +kernel
theorem dX8_outcomeFrom_18 : decode cX8_outcomeFrom 18 = .ok (.iaload, 1) := by decide +kernel
theorem dX8_outcomeFrom_19 : decode cX8_outcomeFrom 19 = .ok (.ldc 23, 2) := by decide +kernel
theorem dX8_outcomeFrom_21 : decode cX8_outcomeFrom 21 = .ok (.if_icmp .ne 49, 3) := by decide +kernel
theorem dX8_outcomeFrom_24 : decode cX8_outcomeFrom 24 = .ok (.aload_n 0, 1) := by decide +kernel
theorem dX8_outcomeFrom_25 : decode cX8_outcomeFrom 25 = .ok (.iload_n 1, 1) := by decide +kernel
theorem dX8_outcomeFrom_26 : decode cX8_outcomeFrom 26 = .ok (.iload_n 2, 1) := by decide +kernel
theorem dX8_outcomeFrom_27 : decode cX8_outcomeFrom 27 = .ok (.iload_n 3, 1) := by decide +kernel
theorem dX8_outcomeFrom_28 : decode cX8_outcomeFrom 28 = .ok (.invokevirtual 34, 3) := by decide +kernel
theorem dX8_outcomeFrom_31 : decode cX8_outcomeFrom 31 = .ok (.istore 6, 2) := by decide +kernel
theorem dX8_outcomeFrom_33 : decode cX8_outcomeFrom 33 = .ok (.iload 6, 2) := by decide +kernel
theorem dX8_outcomeFrom_35 : decode cX8_outcomeFrom 35 = .ok (.ldc 23, 2) := by decide +kernel
theorem dX8_outcomeFrom_37 : decode cX8_outcomeFrom 37 = .ok (.if_icmp .ne 24, 3) := by decide +kernel
theorem dX8_outcomeFrom_40 : decode cX8_outcomeFrom 40 = .ok (.iload 4, 2) := by decide +kernel
theorem dX8_outcomeFrom_42 : decode cX8_outcomeFrom 42 = .ok (.ifCond .eq 7, 3) := by decide +kernel
theorem dX8_outcomeFrom_45 : decode cX8_outcomeFrom 45 = .ok (.iconst 0, 1) := by decide +kernel
theorem dX8_outcomeFrom_46 : decode cX8_outcomeFrom 46 = .ok (.goto 13, 3) := by decide +kernel
theorem dX8_outcomeFrom_49 : decode cX8_outcomeFrom 49 = .ok (.aload_n 0, 1) := by decide +kernel
theorem dX8_outcomeFrom_50 : decode cX8_outcomeFrom 50 = .ok (.iload_n 1, 1) := by decide +kernel
theorem dX8_outcomeFrom_51 : decode cX8_outcomeFrom 51 = .ok (.iload_n 2, 1) := by decide +kernel
theorem dX8_outcomeFrom_52 : decode cX8_outcomeFrom 52 = .ok (.iconst 1, 1) := by decide +kernel
theorem dX8_outcomeFrom_53 : decode cX8_outcomeFrom 53 = .ok (.iload_n 3, 1) := by decide +kernel
theorem dX8_outcomeFrom_54 : decode cX8_outcomeFrom 54 = .ok (.isub, 1) := by decide +kernel
theorem dX8_outcomeFrom_55 : decode cX8_outcomeFrom 55 = .ok (.iconst 1, 1) := by decide +kernel
theorem dX8_outcomeFrom_56 : decode cX8_outcomeFrom 56 = .ok (.invokevirtual 30, 3) := by decide +kernel
theorem dX8_outcomeFrom_59 : decode cX8_outcomeFrom 59 = .ok (.istore 6, 2) := by decide +kernel
theorem dX8_outcomeFrom_61 : decode cX8_outcomeFrom 61 = .ok (.aload_n 0, 1) := by decide +kernel
theorem dX8_outcomeFrom_62 : decode cX8_outcomeFrom 62 = .ok (.getfield 9, 3) := by decide +kernel
theorem dX8_outcomeFrom_65 : decode cX8_outcomeFrom 65 = .ok (.iload 5, 2) := by decide +kernel
theorem dX8_outcomeFrom_67 : decode cX8_outcomeFrom 67 = .ok (.iload 6, 2) := by decide +kernel
theorem dX8_outcomeFrom_69 : decode cX8_outcomeFrom 69 = .ok (.iastore, 1) := by decide +kernel
theorem dX8_outcomeFrom_70 : decode cX8_outcomeFrom 70 = .ok (.aload_n 0, 1) := by decide +kernel
theorem dX8_outcomeFrom_71 : decode cX8_outcomeFrom 71 = .ok (.getfield 9, 3) := by decide +kernel
theorem dX8_outcomeFrom_74 : decode cX8_outcomeFrom 74 = .ok (.iload 5, 2) := by decide +kernel
theorem dX8_outcomeFrom_76 : decode cX8_outcomeFrom 76 = .ok (.iaload, 1) := by decide +kernel
theorem dX8_outcomeFrom_77 : decode cX8_outcomeFrom 77 = .ok (.ireturn, 1) := by decide +kernel
theorem dX8_sendBest_0 : decode cX8_sendBest 0 = .ok (.ldc 23, 2) := by decide +kernel
theorem dX8_sendBest_2 : decode cX8_sendBest 2 = .ok (.istore 4, 2) := by decide +kernel
theorem dX8_sendBest_4 : decode cX8_sendBest 4 = .ok (.iconst 0, 1) := by decide +kernel
theorem dX8_sendBest_5 : decode cX8_sendBest 5 = .ok (.istore 5, 2) := by decide +kernel
theorem dX8_sendBest_7 : decode cX8_sendBest 7 = .ok (.iload 5, 2) := by decide +kernel
theorem dX8_sendBest_9 : decode cX8_sendBest 9 = .ok (.aload_n 0, 1) := by decide +kernel
theorem dX8_sendBest_10 : decode cX8_sendBest 10 = .ok (.getfield 15, 3) := by decide +kernel
theorem dX8_sendBest_13 : decode cX8_sendBest 13 = .ok (.getfield 38, 3) := by decide +kernel
theorem dX8_sendBest_16 : decode cX8_sendBest 16 = .ok (.if_icmp .ge 181, 3) := by decide +kernel
theorem dX8_sendBest_19 : decode cX8_sendBest 19 = .ok (.iload_n 1, 1) := by decide +kernel
theorem dX8_sendBest_20 : decode cX8_sendBest 20 = .ok (.iload 5, 2) := by decide +kernel
theorem dX8_sendBest_22 : decode cX8_sendBest 22 = .ok (.invokestatic 43, 3) := by decide +kernel
theorem dX8_sendBest_25 : decode cX8_sendBest 25 = .ok (.ifCond .eq 7, 3) := by decide +kernel
theorem dX8_sendBest_28 : decode cX8_sendBest 28 = .ok (.iconst 0, 1) := by decide +kernel
theorem dX8_sendBest_29 : decode cX8_sendBest 29 = .ok (.goto 31, 3) := by decide +kernel
theorem dX8_sendBest_32 : decode cX8_sendBest 32 = .ok (.aload_n 0, 1) := by decide +kernel
theorem dX8_sendBest_33 : decode cX8_sendBest 33 = .ok (.getfield 15, 3) := by decide +kernel
theorem dX8_sendBest_36 : decode cX8_sendBest 36 = .ok (.iload 5, 2) := by decide +kernel
theorem dX8_sendBest_38 : decode cX8_sendBest 38 = .ok (.iload_n 2, 1) := by decide +kernel
theorem dX8_sendBest_39 : decode cX8_sendBest 39 = .ok (.invokevirtual 47, 3) := by decide +kernel
theorem dX8_sendBest_42 : decode cX8_sendBest 42 = .ok (.iload_n 3, 1) := by decide +kernel
theorem dX8_sendBest_43 : decode cX8_sendBest 43 = .ok (.ifCond .ne 10, 3) := by decide +kernel
theorem dX8_sendBest_46 : decode cX8_sendBest 46 = .ok (.aload_n 0, 1) := by decide +kernel
theorem dX8_sendBest_47 : decode cX8_sendBest 47 = .ok (.getfield 19, 3) := by decide +kernel
theorem dX8_sendBest_50 : decode cX8_sendBest 50 = .ok (.goto 9, 3) := by decide +kernel
theorem dX8_sendBest_53 : decode cX8_sendBest 53 = .ok (.aload_n 0, 1) := by decide +kernel
theorem dX8_sendBest_54 : decode cX8_sendBest 54 = .ok (.getfield 19, 3) := by decide +kernel
theorem dX8_sendBest_57 : decode cX8_sendBest 57 = .ok (.iconst (-1), 1) := by decide +kernel
theorem dX8_sendBest_58 : decode cX8_sendBest 58 = .ok (.ixor, 1) := by decide +kernel
theorem dX8_sendBest_59 : decode cX8_sendBest 59 = .ok (.iand, 1) := by decide +kernel
theorem dX8_sendBest_60 : decode cX8_sendBest 60 = .ok (.istore 6, 2) := by decide +kernel
theorem dX8_sendBest_62 : decode cX8_sendBest 62 = .ok (.iconst 0, 1) := by decide +kernel
theorem dX8_sendBest_63 : decode cX8_sendBest 63 = .ok (.istore 7, 2) := by decide +kernel
theorem dX8_sendBest_65 : decode cX8_sendBest 65 = .ok (.iload 7, 2) := by decide +kernel
theorem dX8_sendBest_67 : decode cX8_sendBest 67 = .ok (.iconst 5, 1) := by decide +kernel
theorem dX8_sendBest_68 : decode cX8_sendBest 68 = .ok (.if_icmp .ge 123, 3) := by decide +kernel
theorem dX8_sendBest_71 : decode cX8_sendBest 71 = .ok (.iload 6, 2) := by decide +kernel
theorem dX8_sendBest_73 : decode cX8_sendBest 73 = .ok (.iload 7, 2) := by decide +kernel
theorem dX8_sendBest_75 : decode cX8_sendBest 75 = .ok (.invokestatic 43, 3) := by decide +kernel
theorem dX8_sendBest_78 : decode cX8_sendBest 78 = .ok (.ifCond .eq 107, 3) := by decide +kernel
theorem dX8_sendBest_81 : decode cX8_sendBest 81 = .ok (.aload_n 0, 1) := by decide +kernel
theorem dX8_sendBest_82 : decode cX8_sendBest 82 = .ok (.iload_n 1, 1) := by decide +kernel
theorem dX8_sendBest_83 : decode cX8_sendBest 83 = .ok (.iconst 1, 1) := by decide +kernel
theorem dX8_sendBest_84 : decode cX8_sendBest 84 = .ok (.iload 5, 2) := by decide +kernel
theorem dX8_sendBest_86 : decode cX8_sendBest 86 = .ok (.ishl, 1) := by decide +kernel
theorem dX8_sendBest_87 : decode cX8_sendBest 87 = .ok (.ior, 1) := by decide +kernel
theorem dX8_sendBest_88 : decode cX8_sendBest 88 = .ok (.iload_n 2, 1) := by decide +kernel
theorem dX8_sendBest_89 : decode cX8_sendBest 89 = .ok (.iconst 1, 1) := by decide +kernel
theorem dX8_sendBest_90 : decode cX8_sendBest 90 = .ok (.iload 7, 2) := by decide +kernel
theorem dX8_sendBest_92 : decode cX8_sendBest 92 = .ok (.ishl, 1) := by decide +kernel
theorem dX8_sendBest_93 : decode cX8_sendBest 93 = .ok (.aload_n 0, 1) := by decide +kernel
theorem dX8_sendBest_94 : decode cX8_sendBest 94 = .ok (.getfield 15, 3) := by decide +kernel
theorem dX8_sendBest_97 : decode cX8_sendBest 97 = .ok (.getfield 51, 3) := by decide +kernel
theorem dX8_sendBest_100 : decode cX8_sendBest 100 = .ok (.iconst (-1), 1) := by decide +kernel
theorem dX8_sendBest_101 : decode cX8_sendBest 101 = .ok (.ixor, 1) := by decide +kernel
theorem dX8_sendBest_102 : decode cX8_sendBest 102 = .ok (.iand, 1) := by decide +kernel
theorem dX8_sendBest_103 : decode cX8_sendBest 103 = .ok (.ior, 1) := by decide +kernel
theorem dX8_sendBest_104 : decode cX8_sendBest 104 = .ok (.iconst 1, 1) := by decide +kernel
theorem dX8_sendBest_105 : decode cX8_sendBest 105 = .ok (.iload_n 3, 1) := by decide +kernel
theorem dX8_sendBest_106 : decode cX8_sendBest 106 = .ok (.isub, 1) := by decide +kernel
theorem dX8_sendBest_107 : decode cX8_sendBest 107 = .ok (.iconst 0, 1) := by decide +kernel
theorem dX8_sendBest_108 : decode cX8_sendBest 108 = .ok (.invokevirtual 30, 3) := by decide +kernel
theorem dX8_sendBest_111 : decode cX8_sendBest 111 = .ok (.istore 8, 2) := by decide +kernel
theorem dX8_sendBest_113 : decode cX8_sendBest 113 = .ok (.iload 8, 2) := by decide +kernel
theorem dX8_sendBest_115 : decode cX8_sendBest 115 = .ok (.iload_n 3, 1) := by decide +kernel
theorem dX8_sendBest_116 : decode cX8_sendBest 116 = .ok (.ifCond .ne 17, 3) := by decide +kernel
theorem dX8_sendBest_119 : decode cX8_sendBest 119 = .ok (.aload_n 0, 1) := by decide +kernel
theorem dX8_sendBest_120 : decode cX8_sendBest 120 = .ok (.getfield 15, 3) := by decide +kernel
theorem dX8_sendBest_123 : decode cX8_sendBest 123 = .ok (.iload 5, 2) := by decide +kernel
theorem dX8_sendBest_125 : decode cX8_sendBest 125 = .ok (.iload 7, 2) := by decide +kernel
theorem dX8_sendBest_127 : decode cX8_sendBest 127 = .ok (.invokevirtual 54, 3) := by decide +kernel
theorem dX8_sendBest_130 : decode cX8_sendBest 130 = .ok (.goto 15, 3) := by decide +kernel
theorem dX8_sendBest_133 : decode cX8_sendBest 133 = .ok (.aload_n 0, 1) := by decide +kernel
theorem dX8_sendBest_134 : decode cX8_sendBest 134 = .ok (.getfield 15, 3) := by decide +kernel
theorem dX8_sendBest_137 : decode cX8_sendBest 137 = .ok (.iload 5, 2) := by decide +kernel
theorem dX8_sendBest_139 : decode cX8_sendBest 139 = .ok (.iload 7, 2) := by decide +kernel
theorem dX8_sendBest_141 : decode cX8_sendBest 141 = .ok (.invokevirtual 54, 3) := by decide +kernel
theorem dX8_sendBest_144 : decode cX8_sendBest 144 = .ok (.ineg, 1) := by decide +kernel
theorem dX8_sendBest_145 : decode cX8_sendBest 145 = .ok (.iadd, 1) := by decide +kernel
theorem dX8_sendBest_146 : decode cX8_sendBest 146 = .ok (.istore 9, 2) := by decide +kernel
theorem dX8_sendBest_148 : decode cX8_sendBest 148 = .ok (.iload 4, 2) := by decide +kernel
theorem dX8_sendBest_150 : decode cX8_sendBest 150 = .ok (.ldc 23, 2) := by decide +kernel
theorem dX8_sendBest_152 : decode cX8_sendBest 152 = .ok (.if_icmp .eq 24, 3) := by decide +kernel
theorem dX8_sendBest_155 : decode cX8_sendBest 155 = .ok (.iload_n 3, 1) := by decide +kernel
theorem dX8_sendBest_156 : decode cX8_sendBest 156 = .ok (.ifCond .ne 13, 3) := by decide +kernel
theorem dX8_sendBest_159 : decode cX8_sendBest 159 = .ok (.iload 9, 2) := by decide +kernel
theorem dX8_sendBest_161 : decode cX8_sendBest 161 = .ok (.iload 4, 2) := by decide +kernel
theorem dX8_sendBest_163 : decode cX8_sendBest 163 = .ok (.if_icmp .le 18, 3) := by decide +kernel
theorem dX8_sendBest_166 : decode cX8_sendBest 166 = .ok (.goto 10, 3) := by decide +kernel
theorem dX8_sendBest_169 : decode cX8_sendBest 169 = .ok (.iload 9, 2) := by decide +kernel
theorem dX8_sendBest_171 : decode cX8_sendBest 171 = .ok (.iload 4, 2) := by decide +kernel
theorem dX8_sendBest_173 : decode cX8_sendBest 173 = .ok (.if_icmp .ge 8, 3) := by decide +kernel
theorem dX8_sendBest_176 : decode cX8_sendBest 176 = .ok (.iload 9, 2) := by decide +kernel
theorem dX8_sendBest_178 : decode cX8_sendBest 178 = .ok (.goto 5, 3) := by decide +kernel
theorem dX8_sendBest_181 : decode cX8_sendBest 181 = .ok (.iload 4, 2) := by decide +kernel
theorem dX8_sendBest_183 : decode cX8_sendBest 183 = .ok (.istore 4, 2) := by decide +kernel
theorem dX8_sendBest_185 : decode cX8_sendBest 185 = .ok (.iinc 7 1, 3) := by decide +kernel
theorem dX8_sendBest_188 : decode cX8_sendBest 188 = .ok (.goto (-123), 3) := by decide +kernel
theorem dX8_sendBest_191 : decode cX8_sendBest 191 = .ok (.iinc 5 1, 3) := by decide +kernel
theorem dX8_sendBest_194 : decode cX8_sendBest 194 = .ok (.goto (-187), 3) := by decide +kernel
theorem dX8_sendBest_197 : decode cX8_sendBest 197 = .ok (.iload 4, 2) := by decide +kernel
theorem dX8_sendBest_199 : decode cX8_sendBest 199 = .ok (.ireturn, 1) := by decide +kernel
theorem dX4_init_0 : decode cX4_init 0 = .ok (.aload_n 0, 1) := by decide +kernel
theorem dX4_init_1 : decode cX4_init 1 = .ok (.invokespecial 3, 3) := by decide +kernel
theorem dX4_init_4 : decode cX4_init 4 = .ok (.aload_n 0, 1) := by decide +kernel
theorem dX4_init_5 : decode cX4_init 5 = .ok (.bipush 8, 2) := by decide +kernel
theorem dX4_init_7 : decode cX4_init 7 = .ok (.newarray .int, 2) := by decide +kernel
theorem dX4_init_9 : decode cX4_init 9 = .ok (.putfield 9, 3) := by decide +kernel
theorem dX4_init_12 : decode cX4_init 12 = .ok (.aload_n 0, 1) := by decide +kernel
theorem dX4_init_13 : decode cX4_init 13 = .ok (.iconst 1, 1) := by decide +kernel
theorem dX4_init_14 : decode cX4_init 14 = .ok (.putfield 15, 3) := by decide +kernel
theorem dX4_init_17 : decode cX4_init 17 = .ok (.aload_n 0, 1) := by decide +kernel
theorem dX4_init_18 : decode cX4_init 18 = .ok (.aload_n 1, 1) := by decide +kernel
theorem dX4_init_19 : decode cX4_init 19 = .ok (.putfield 19, 3) := by decide +kernel
theorem dX4_init_22 : decode cX4_init 22 = .ok (.return_, 1) := by decide +kernel
theorem dX4_take_0 : decode cX4_take 0 = .ok (.aload_n 0, 1) := by decide +kernel
theorem dX4_take_1 : decode cX4_take 1 = .ok (.iload_n 3, 1) := by decide +kernel
theorem dX4_take_2 : decode cX4_take 2 = .ok (.putfield 15, 3) := by decide +kernel
theorem dX4_take_5 : decode cX4_take 5 = .ok (.iconst 0, 1) := by decide +kernel
theorem dX4_take_6 : decode cX4_take 6 = .ok (.istore 4, 2) := by decide +kernel
theorem dX4_take_8 : decode cX4_take 8 = .ok (.iload 4, 2) := by decide +kernel
theorem dX4_take_10 : decode cX4_take 10 = .ok (.iload_n 3, 1) := by decide +kernel
theorem dX4_take_11 : decode cX4_take 11 = .ok (.if_icmp .ge 45, 3) := by decide +kernel
theorem dX4_take_14 : decode cX4_take 14 = .ok (.aload_n 0, 1) := by decide +kernel
theorem dX4_take_15 : decode cX4_take 15 = .ok (.getfield 9, 3) := by decide +kernel
theorem dX4_take_18 : decode cX4_take 18 = .ok (.iload 4, 2) := by decide +kernel
theorem dX4_take_20 : decode cX4_take 20 = .ok (.aload_n 1, 1) := by decide +kernel
theorem dX4_take_21 : decode cX4_take 21 = .ok (.iload_n 2, 1) := by decide +kernel
theorem dX4_take_22 : decode cX4_take 22 = .ok (.iload 4, 2) := by decide +kernel
theorem dX4_take_24 : decode cX4_take 24 = .ok (.iadd, 1) := by decide +kernel
theorem dX4_take_25 : decode cX4_take 25 = .ok (.bipush 6, 2) := by decide +kernel
theorem dX4_take_27 : decode cX4_take 27 = .ok (.invokevirtual 23, 3) := by decide +kernel
theorem dX4_take_30 : decode cX4_take 30 = .ok (.iastore, 1) := by decide +kernel
theorem dX4_take_31 : decode cX4_take 31 = .ok (.aload_n 0, 1) := by decide +kernel
theorem dX4_take_32 : decode cX4_take 32 = .ok (.getfield 19, 3) := by decide +kernel
theorem dX4_take_35 : decode cX4_take 35 = .ok (.aload_n 0, 1) := by decide +kernel
theorem dX4_take_36 : decode cX4_take 36 = .ok (.getfield 9, 3) := by decide +kernel
theorem dX4_take_39 : decode cX4_take 39 = .ok (.iload 4, 2) := by decide +kernel
theorem dX4_take_41 : decode cX4_take 41 = .ok (.iaload, 1) := by decide +kernel
theorem dX4_take_42 : decode cX4_take 42 = .ok (.invokevirtual 29, 3) := by decide +kernel
theorem dX4_take_45 : decode cX4_take 45 = .ok (.ifCond .ne 5, 3) := by decide +kernel
theorem dX4_take_48 : decode cX4_take 48 = .ok (.iconst 0, 1) := by decide +kernel
theorem dX4_take_49 : decode cX4_take 49 = .ok (.ireturn, 1) := by decide +kernel
theorem dX4_take_50 : decode cX4_take 50 = .ok (.iinc 4 1, 3) := by decide +kernel
theorem dX4_take_53 : decode cX4_take 53 = .ok (.goto (-45), 3) := by decide +kernel
theorem dX4_take_56 : decode cX4_take 56 = .ok (.iconst 1, 1) := by decide +kernel
theorem dX4_take_57 : decode cX4_take 57 = .ok (.ireturn, 1) := by decide +kernel
theorem dX4_valueOfYears_0 : decode cX4_valueOfYears 0 = .ok (.iconst 0, 1) := by decide +kernel
theorem dX4_valueOfYears_1 : decode cX4_valueOfYears 1 = .ok (.istore_n 2, 1) := by decide +kernel
theorem dX4_valueOfYears_2 : decode cX4_valueOfYears 2 = .ok (.iconst 1, 1) := by decide +kernel
theorem dX4_valueOfYears_3 : decode cX4_valueOfYears 3 = .ok (.istore_n 3, 1) := by decide +kernel
theorem dX4_valueOfYears_4 : decode cX4_valueOfYears 4 = .ok (.iload_n 3, 1) := by decide +kernel
theorem dX4_valueOfYears_5 : decode cX4_valueOfYears 5 = .ok (.iload_n 1, 1) := by decide +kernel
theorem dX4_valueOfYears_6 : decode cX4_valueOfYears 6 = .ok (.if_icmp .gt 40, 3) := by decide +kernel
theorem dX4_valueOfYears_9 : decode cX4_valueOfYears 9 = .ok (.iconst 0, 1) := by decide +kernel
theorem dX4_valueOfYears_10 : decode cX4_valueOfYears 10 = .ok (.istore 4, 2) := by decide +kernel
theorem dX4_valueOfYears_12 : decode cX4_valueOfYears 12 = .ok (.iload 4, 2) := by decide +kernel
theorem dX4_valueOfYears_14 : decode cX4_valueOfYears 14 = .ok (.aload_n 0, 1) := by decide +kernel
theorem dX4_valueOfYears_15 : decode cX4_valueOfYears 15 = .ok (.getfield 19, 3) := by decide +kernel
theorem dX4_valueOfYears_18 : decode cX4_valueOfYears 18 = .ok (.getfield 35, 3) := by decide +kernel
theorem dX4_valueOfYears_21 : decode cX4_valueOfYears 21 = .ok (.if_icmp .ge 19, 3) := by decide +kernel
theorem dX4_valueOfYears_24 : decode cX4_valueOfYears 24 = .ok (.iload_n 2, 1) := by decide +kernel
theorem dX4_valueOfYears_25 : decode cX4_valueOfYears 25 = .ok (.aload_n 0, 1) := by decide +kernel
theorem dX4_valueOfYears_26 : decode cX4_valueOfYears 26 = .ok (.iload 4, 2) := by decide +kernel
theorem dX4_valueOfYears_28 : decode cX4_valueOfYears 28 = .ok (.iload_n 3, 1) := by decide +kernel
theorem dX4_valueOfYears_29 : decode cX4_valueOfYears 29 = .ok (.invokevirtual 38, 3) := by decide +kernel
theorem dX4_valueOfYears_32 : decode cX4_valueOfYears 32 = .ok (.iadd, 1) := by decide +kernel
theorem dX4_valueOfYears_33 : decode cX4_valueOfYears 33 = .ok (.istore_n 2, 1) := by decide +kernel
theorem dX4_valueOfYears_34 : decode cX4_valueOfYears 34 = .ok (.iinc 4 1, 3) := by decide +kernel
theorem dX4_valueOfYears_37 : decode cX4_valueOfYears 37 = .ok (.goto (-25), 3) := by decide +kernel
theorem dX4_valueOfYears_40 : decode cX4_valueOfYears 40 = .ok (.iinc 3 1, 3) := by decide +kernel
theorem dX4_valueOfYears_43 : decode cX4_valueOfYears 43 = .ok (.goto (-39), 3) := by decide +kernel
theorem dX4_valueOfYears_46 : decode cX4_valueOfYears 46 = .ok (.iload_n 2, 1) := by decide +kernel
theorem dX4_valueOfYears_47 : decode cX4_valueOfYears 47 = .ok (.ireturn, 1) := by decide +kernel
theorem dX4_valueBehind_0 : decode cX4_valueBehind 0 = .ok (.aload_n 0, 1) := by decide +kernel
theorem dX4_valueBehind_1 : decode cX4_valueBehind 1 = .ok (.getfield 19, 3) := by decide +kernel
theorem dX4_valueBehind_4 : decode cX4_valueBehind 4 = .ok (.getfield 41, 3) := by decide +kernel
theorem dX4_valueBehind_7 : decode cX4_valueBehind 7 = .ok (.iload_n 1, 1) := by decide +kernel
theorem dX4_valueBehind_8 : decode cX4_valueBehind 8 = .ok (.aaload, 1) := by decide +kernel
theorem dX4_valueBehind_9 : decode cX4_valueBehind 9 = .ok (.getfield 45, 3) := by decide +kernel
theorem dX4_valueBehind_12 : decode cX4_valueBehind 12 = .ok (.istore_n 3, 1) := by decide +kernel
theorem dX4_valueBehind_13 : decode cX4_valueBehind 13 = .ok (.iload_n 3, 1) := by decide +kernel
theorem dX4_valueBehind_14 : decode cX4_valueBehind 14 = .ok (.aload_n 0, 1) := by decide +kernel
theorem dX4_valueBehind_15 : decode cX4_valueBehind 15 = .ok (.iload_n 1, 1) := by decide +kernel
theorem dX4_valueBehind_16 : decode cX4_valueBehind 16 = .ok (.iload_n 2, 1) := by decide +kernel
theorem dX4_valueBehind_17 : decode cX4_valueBehind 17 = .ok (.invokevirtual 50, 3) := by decide +kernel
theorem dX4_valueBehind_20 : decode cX4_valueBehind 20 = .ok (.invokestatic 54, 3) := by decide +kernel
theorem dX4_valueBehind_23 : decode cX4_valueBehind 23 = .ok (.istore 4, 2) := by decide +kernel
theorem dX4_valueBehind_25 : decode cX4_valueBehind 25 = .ok (.iload_n 3, 1) := by decide +kernel
theorem dX4_valueBehind_26 : decode cX4_valueBehind 26 = .ok (.aload_n 0, 1) := by decide +kernel
theorem dX4_valueBehind_27 : decode cX4_valueBehind 27 = .ok (.iload_n 1, 1) := by decide +kernel
theorem dX4_valueBehind_28 : decode cX4_valueBehind 28 = .ok (.iload_n 2, 1) := by decide +kernel
theorem dX4_valueBehind_29 : decode cX4_valueBehind 29 = .ok (.invokevirtual 58, 3) := by decide +kernel
theorem dX4_valueBehind_32 : decode cX4_valueBehind 32 = .ok (.invokestatic 61, 3) := by decide +kernel
theorem dX4_valueBehind_35 : decode cX4_valueBehind 35 = .ok (.istore 5, 2) := by decide +kernel
theorem dX4_valueBehind_37 : decode cX4_valueBehind 37 = .ok (.iload 4, 2) := by decide +kernel
theorem dX4_valueBehind_39 : decode cX4_valueBehind 39 = .ok (.aload_n 0, 1) := by decide +kernel
theorem dX4_valueBehind_40 : decode cX4_valueBehind 40 = .ok (.getfield 19, 3) := by decide +kernel
theorem dX4_valueBehind_43 : decode cX4_valueBehind 43 = .ok (.aload_n 0, 1) := by decide +kernel
theorem dX4_valueBehind_44 : decode cX4_valueBehind 44 = .ok (.iload_n 1, 1) := by decide +kernel
theorem dX4_valueBehind_45 : decode cX4_valueBehind 45 = .ok (.iload_n 2, 1) := by decide +kernel
theorem dX4_valueBehind_46 : decode cX4_valueBehind 46 = .ok (.invokevirtual 64, 3) := by decide +kernel
theorem dX4_valueBehind_49 : decode cX4_valueBehind 49 = .ok (.invokevirtual 67, 3) := by decide +kernel
theorem dX4_valueBehind_52 : decode cX4_valueBehind 52 = .ok (.imul, 1) := by decide +kernel
theorem dX4_valueBehind_53 : decode cX4_valueBehind 53 = .ok (.iload 5, 2) := by decide +kernel
theorem dX4_valueBehind_55 : decode cX4_valueBehind 55 = .ok (.aload_n 0, 1) := by decide +kernel
theorem dX4_valueBehind_56 : decode cX4_valueBehind 56 = .ok (.getfield 19, 3) := by decide +kernel
theorem dX4_valueBehind_59 : decode cX4_valueBehind 59 = .ok (.aload_n 0, 1) := by decide +kernel
theorem dX4_valueBehind_60 : decode cX4_valueBehind 60 = .ok (.iload_n 1, 1) := by decide +kernel
theorem dX4_valueBehind_61 : decode cX4_valueBehind 61 = .ok (.iload_n 2, 1) := by decide +kernel
theorem dX4_valueBehind_62 : decode cX4_valueBehind 62 = .ok (.invokevirtual 71, 3) := by decide +kernel
theorem dX4_valueBehind_65 : decode cX4_valueBehind 65 = .ok (.invokevirtual 67, 3) := by decide +kernel
theorem dX4_valueBehind_68 : decode cX4_valueBehind 68 = .ok (.imul, 1) := by decide +kernel
theorem dX4_valueBehind_69 : decode cX4_valueBehind 69 = .ok (.iadd, 1) := by decide +kernel
theorem dX4_valueBehind_70 : decode cX4_valueBehind 70 = .ok (.ireturn, 1) := by decide +kernel
theorem dX4_lastBehind_0 : decode cX4_lastBehind 0 = .ok (.iload_n 2, 1) := by decide +kernel
theorem dX4_lastBehind_1 : decode cX4_lastBehind 1 = .ok (.ifCond .ne 18, 3) := by decide +kernel
theorem dX4_lastBehind_4 : decode cX4_lastBehind 4 = .ok (.aload_n 0, 1) := by decide +kernel
theorem dX4_lastBehind_5 : decode cX4_lastBehind 5 = .ok (.getfield 19, 3) := by decide +kernel
theorem dX4_lastBehind_8 : decode cX4_lastBehind 8 = .ok (.getfield 41, 3) := by decide +kernel
theorem dX4_lastBehind_11 : decode cX4_lastBehind 11 = .ok (.iload_n 1, 1) := by decide +kernel
theorem dX4_lastBehind_12 : decode cX4_lastBehind 12 = .ok (.aaload, 1) := by decide +kernel
theorem dX4_lastBehind_13 : decode cX4_lastBehind 13 = .ok (.getfield 74, 3) := by decide +kernel
theorem dX4_lastBehind_16 : decode cX4_lastBehind 16 = .ok (.goto 18, 3) := by decide +kernel
theorem dX4_lastBehind_19 : decode cX4_lastBehind 19 = .ok (.aload_n 0, 1) := by decide +kernel
theorem dX4_lastBehind_20 : decode cX4_lastBehind 20 = .ok (.getfield 9, 3) := by decide +kernel
theorem dX4_lastBehind_23 : decode cX4_lastBehind 23 = .ok (.iload_n 2, 1) := by decide +kernel
theorem dX4_lastBehind_24 : decode cX4_lastBehind 24 = .ok (.iconst 1, 1) := by decide +kernel
theorem dX4_lastBehind_25 : decode cX4_lastBehind 25 = .ok (.isub, 1) := by decide +kernel
theorem dX4_lastBehind_26 : decode cX4_lastBehind 26 = .ok (.iload_n 1, 1) := by decide +kernel
theorem dX4_lastBehind_27 : decode cX4_lastBehind 27 = .ok (.iadd, 1) := by decide +kernel
theorem dX4_lastBehind_28 : decode cX4_lastBehind 28 = .ok (.aload_n 0, 1) := by decide +kernel
theorem dX4_lastBehind_29 : decode cX4_lastBehind 29 = .ok (.getfield 15, 3) := by decide +kernel
theorem dX4_lastBehind_32 : decode cX4_lastBehind 32 = .ok (.irem, 1) := by decide +kernel
theorem dX4_lastBehind_33 : decode cX4_lastBehind 33 = .ok (.iaload, 1) := by decide +kernel
theorem dX4_lastBehind_34 : decode cX4_lastBehind 34 = .ok (.ireturn, 1) := by decide +kernel
theorem dX4_beforeBehind_0 : decode cX4_beforeBehind 0 = .ok (.iload_n 2, 1) := by decide +kernel
theorem dX4_beforeBehind_1 : decode cX4_beforeBehind 1 = .ok (.ifCond .ne 18, 3) := by decide +kernel
theorem dX4_beforeBehind_4 : decode cX4_beforeBehind 4 = .ok (.aload_n 0, 1) := by decide +kernel
theorem dX4_beforeBehind_5 : decode cX4_beforeBehind 5 = .ok (.getfield 19, 3) := by decide +kernel
theorem dX4_beforeBehind_8 : decode cX4_beforeBehind 8 = .ok (.getfield 41, 3) := by decide +kernel
theorem dX4_beforeBehind_11 : decode cX4_beforeBehind 11 = .ok (.iload_n 1, 1) := by decide +kernel
theorem dX4_beforeBehind_12 : decode cX4_beforeBehind 12 = .ok (.aaload, 1) := by decide +kernel
theorem dX4_beforeBehind_13 : decode cX4_beforeBehind 13 = .ok (.getfield 77, 3) := by decide +kernel
theorem dX4_beforeBehind_16 : decode cX4_beforeBehind 16 = .ok (.goto 11, 3) := by decide +kernel
theorem dX4_beforeBehind_19 : decode cX4_beforeBehind 19 = .ok (.aload_n 0, 1) := by decide +kernel
theorem dX4_beforeBehind_20 : decode cX4_beforeBehind 20 = .ok (.iload_n 1, 1) := by decide +kernel
theorem dX4_beforeBehind_21 : decode cX4_beforeBehind 21 = .ok (.iload_n 2, 1) := by decide +kernel
theorem dX4_beforeBehind_22 : decode cX4_beforeBehind 22 = .ok (.iconst 1, 1) := by decide +kernel
theorem dX4_beforeBehind_23 : decode cX4_beforeBehind 23 = .ok (.isub, 1) := by decide +kernel
theorem dX4_beforeBehind_24 : decode cX4_beforeBehind 24 = .ok (.invokevirtual 64, 3) := by decide +kernel
theorem dX4_beforeBehind_27 : decode cX4_beforeBehind 27 = .ok (.ireturn, 1) := by decide +kernel
theorem dX4_lastFellBehind_0 : decode cX4_lastFellBehind 0 = .ok (.iload_n 2, 1) := by decide +kernel
theorem dX4_lastFellBehind_1 : decode cX4_lastFellBehind 1 = .ok (.ifCond .ne 22, 3) := by decide +kernel
theorem dX4_lastFellBehind_4 : decode cX4_lastFellBehind 4 = .ok (.aload_n 0, 1) := by decide +kernel
theorem dX4_lastFellBehind_5 : decode cX4_lastFellBehind 5 = .ok (.getfield 19, 3) := by decide +kernel
theorem dX4_lastFellBehind_8 : decode cX4_lastFellBehind 8 = .ok (.getfield 41, 3) := by decide +kernel
theorem dX4_lastFellBehind_11 : decode cX4_lastFellBehind 11 = .ok (.iload_n 1, 1) := by decide +kernel
theorem dX4_lastFellBehind_12 : decode cX4_lastFellBehind 12 = .ok (.aaload, 1) := by decide +kernel
theorem dX4_lastFellBehind_13 : decode cX4_lastFellBehind 13 = .ok (.getfield 80, 3) := by decide +kernel
theorem dX4_lastFellBehind_16 : decode cX4_lastFellBehind 16 = .ok (.ifCond .eq 7, 3) := by decide +kernel
theorem dX4_lastFellBehind_19 : decode cX4_lastFellBehind 19 = .ok (.iconst 1, 1) := by decide +kernel
theorem dX4_lastFellBehind_20 : decode cX4_lastFellBehind 20 = .ok (.goto 4, 3) := by decide +kernel
theorem dX4_lastFellBehind_23 : decode cX4_lastFellBehind 23 = .ok (.iconst 0, 1) := by decide +kernel
theorem dX4_lastFellBehind_24 : decode cX4_lastFellBehind 24 = .ok (.ireturn, 1) := by decide +kernel
theorem dX4_beforeFellBehind_0 : decode cX4_beforeFellBehind 0 = .ok (.iload_n 2, 1) := by decide +kernel
theorem dX4_beforeFellBehind_1 : decode cX4_beforeFellBehind 1 = .ok (.ifCond .ne 18, 3) := by decide +kernel
theorem dX4_beforeFellBehind_4 : decode cX4_beforeFellBehind 4 = .ok (.aload_n 0, 1) := by decide +kernel
theorem dX4_beforeFellBehind_5 : decode cX4_beforeFellBehind 5 = .ok (.getfield 19, 3) := by decide +kernel
theorem dX4_beforeFellBehind_8 : decode cX4_beforeFellBehind 8 = .ok (.getfield 41, 3) := by decide +kernel
theorem dX4_beforeFellBehind_11 : decode cX4_beforeFellBehind 11 = .ok (.iload_n 1, 1) := by decide +kernel
theorem dX4_beforeFellBehind_12 : decode cX4_beforeFellBehind 12 = .ok (.aaload, 1) := by decide +kernel
theorem dX4_beforeFellBehind_13 : decode cX4_beforeFellBehind 13 = .ok (.getfield 84, 3) := by decide +kernel
theorem dX4_beforeFellBehind_16 : decode cX4_beforeFellBehind 16 = .ok (.goto 11, 3) := by decide +kernel
theorem dX4_beforeFellBehind_19 : decode cX4_beforeFellBehind 19 = .ok (.aload_n 0, 1) := by decide +kernel
theorem dX4_beforeFellBehind_20 : decode cX4_beforeFellBehind 20 = .ok (.iload_n 1, 1) := by decide +kernel
theorem dX4_beforeFellBehind_21 : decode cX4_beforeFellBehind 21 = .ok (.iload_n 2, 1) := by decide +kernel
theorem dX4_beforeFellBehind_22 : decode cX4_beforeFellBehind 22 = .ok (.iconst 1, 1) := by decide +kernel
theorem dX4_beforeFellBehind_23 : decode cX4_beforeFellBehind 23 = .ok (.isub, 1) := by decide +kernel
theorem dX4_beforeFellBehind_24 : decode cX4_beforeFellBehind 24 = .ok (.invokevirtual 50, 3) := by decide +kernel
theorem dX4_beforeFellBehind_27 : decode cX4_beforeFellBehind 27 = .ok (.ireturn, 1) := by decide +kernel
theorem dX4_findAgain_0 : decode cX4_findAgain 0 = .ok (.iconst 1, 1) := by decide +kernel
theorem dX4_findAgain_1 : decode cX4_findAgain 1 = .ok (.istore_n 1, 1) := by decide +kernel
theorem dX4_findAgain_2 : decode cX4_findAgain 2 = .ok (.iload_n 1, 1) := by decide +kernel
theorem dX4_findAgain_3 : decode cX4_findAgain 3 = .ok (.sipush 200, 3) := by decide +kernel
theorem dX4_findAgain_6 : decode cX4_findAgain 6 = .ok (.if_icmp .gt 53, 3) := by decide +kernel
theorem dX4_findAgain_9 : decode cX4_findAgain 9 = .ok (.iload_n 1, 1) := by decide +kernel
theorem dX4_findAgain_10 : decode cX4_findAgain 10 = .ok (.aload_n 0, 1) := by decide +kernel
theorem dX4_findAgain_11 : decode cX4_findAgain 11 = .ok (.getfield 15, 3) := by decide +kernel
theorem dX4_findAgain_14 : decode cX4_findAgain 14 = .ok (.isub, 1) := by decide +kernel
theorem dX4_findAgain_15 : decode cX4_findAgain 15 = .ok (.istore_n 2, 1) := by decide +kernel
theorem dX4_findAgain_16 : decode cX4_findAgain 16 = .ok (.iload_n 2, 1) := by decide +kernel
theorem dX4_findAgain_17 : decode cX4_findAgain 17 = .ok (.ifCond .lt 36, 3) := by decide +kernel
theorem dX4_findAgain_20 : decode cX4_findAgain 20 = .ok (.aload_n 0, 1) := by decide +kernel
theorem dX4_findAgain_21 : decode cX4_findAgain 21 = .ok (.iload_n 2, 1) := by decide +kernel
theorem dX4_findAgain_22 : decode cX4_findAgain 22 = .ok (.iload_n 1, 1) := by decide +kernel
theorem dX4_findAgain_23 : decode cX4_findAgain 23 = .ok (.invokevirtual 87, 3) := by decide +kernel
theorem dX4_findAgain_26 : decode cX4_findAgain 26 = .ok (.ifCond .eq 17, 3) := by decide +kernel
theorem dX4_findAgain_29 : decode cX4_findAgain 29 = .ok (.aload_n 0, 1) := by decide +kernel
theorem dX4_findAgain_30 : decode cX4_findAgain 30 = .ok (.iload_n 1, 1) := by decide +kernel
theorem dX4_findAgain_31 : decode cX4_findAgain 31 = .ok (.putfield 90, 3) := by decide +kernel
theorem dX4_findAgain_34 : decode cX4_findAgain 34 = .ok (.aload_n 0, 1) := by decide +kernel
theorem dX4_findAgain_35 : decode cX4_findAgain 35 = .ok (.iload_n 1, 1) := by decide +kernel
theorem dX4_findAgain_36 : decode cX4_findAgain 36 = .ok (.iload_n 2, 1) := by decide +kernel
theorem dX4_findAgain_37 : decode cX4_findAgain 37 = .ok (.isub, 1) := by decide +kernel
theorem dX4_findAgain_38 : decode cX4_findAgain 38 = .ok (.putfield 93, 3) := by decide +kernel
theorem dX4_findAgain_41 : decode cX4_findAgain 41 = .ok (.iconst 1, 1) := by decide +kernel
theorem dX4_findAgain_42 : decode cX4_findAgain 42 = .ok (.ireturn, 1) := by decide +kernel
theorem dX4_findAgain_43 : decode cX4_findAgain 43 = .ok (.iload_n 2, 1) := by decide +kernel
theorem dX4_findAgain_44 : decode cX4_findAgain 44 = .ok (.aload_n 0, 1) := by decide +kernel
theorem dX4_findAgain_45 : decode cX4_findAgain 45 = .ok (.getfield 15, 3) := by decide +kernel
theorem dX4_findAgain_48 : decode cX4_findAgain 48 = .ok (.isub, 1) := by decide +kernel
theorem dX4_findAgain_49 : decode cX4_findAgain 49 = .ok (.istore_n 2, 1) := by decide +kernel
theorem dX4_findAgain_50 : decode cX4_findAgain 50 = .ok (.goto (-34), 3) := by decide +kernel
theorem dX4_findAgain_53 : decode cX4_findAgain 53 = .ok (.iinc 1 1, 3) := by decide +kernel
theorem dX4_findAgain_56 : decode cX4_findAgain 56 = .ok (.goto (-54), 3) := by decide +kernel
theorem dX4_findAgain_59 : decode cX4_findAgain 59 = .ok (.iconst 0, 1) := by decide +kernel
theorem dX4_findAgain_60 : decode cX4_findAgain 60 = .ok (.ireturn, 1) := by decide +kernel
theorem dX4_areAlike_0 : decode cX4_areAlike 0 = .ok (.iconst 0, 1) := by decide +kernel
theorem dX4_areAlike_1 : decode cX4_areAlike 1 = .ok (.istore_n 3, 1) := by decide +kernel
theorem dX4_areAlike_2 : decode cX4_areAlike 2 = .ok (.iload_n 3, 1) := by decide +kernel
theorem dX4_areAlike_3 : decode cX4_areAlike 3 = .ok (.aload_n 0, 1) := by decide +kernel
theorem dX4_areAlike_4 : decode cX4_areAlike 4 = .ok (.getfield 19, 3) := by decide +kernel
theorem dX4_areAlike_7 : decode cX4_areAlike 7 = .ok (.getfield 35, 3) := by decide +kernel
theorem dX4_areAlike_10 : decode cX4_areAlike 10 = .ok (.if_icmp .ge 71, 3) := by decide +kernel
theorem dX4_areAlike_13 : decode cX4_areAlike 13 = .ok (.aload_n 0, 1) := by decide +kernel
theorem dX4_areAlike_14 : decode cX4_areAlike 14 = .ok (.iload_n 3, 1) := by decide +kernel
theorem dX4_areAlike_15 : decode cX4_areAlike 15 = .ok (.iload_n 1, 1) := by decide +kernel
theorem dX4_areAlike_16 : decode cX4_areAlike 16 = .ok (.invokevirtual 64, 3) := by decide +kernel
theorem dX4_areAlike_19 : decode cX4_areAlike 19 = .ok (.aload_n 0, 1) := by decide +kernel
theorem dX4_areAlike_20 : decode cX4_areAlike 20 = .ok (.iload_n 3, 1) := by decide +kernel
theorem dX4_areAlike_21 : decode cX4_areAlike 21 = .ok (.iload_n 2, 1) := by decide +kernel
theorem dX4_areAlike_22 : decode cX4_areAlike 22 = .ok (.invokevirtual 64, 3) := by decide +kernel
theorem dX4_areAlike_25 : decode cX4_areAlike 25 = .ok (.if_icmp .ne 48, 3) := by decide +kernel
theorem dX4_areAlike_28 : decode cX4_areAlike 28 = .ok (.aload_n 0, 1) := by decide +kernel
theorem dX4_areAlike_29 : decode cX4_areAlike 29 = .ok (.iload_n 3, 1) := by decide +kernel
theorem dX4_areAlike_30 : decode cX4_areAlike 30 = .ok (.iload_n 1, 1) := by decide +kernel
theorem dX4_areAlike_31 : decode cX4_areAlike 31 = .ok (.invokevirtual 71, 3) := by decide +kernel
theorem dX4_areAlike_34 : decode cX4_areAlike 34 = .ok (.aload_n 0, 1) := by decide +kernel
theorem dX4_areAlike_35 : decode cX4_areAlike 35 = .ok (.iload_n 3, 1) := by decide +kernel
theorem dX4_areAlike_36 : decode cX4_areAlike 36 = .ok (.iload_n 2, 1) := by decide +kernel
theorem dX4_areAlike_37 : decode cX4_areAlike 37 = .ok (.invokevirtual 71, 3) := by decide +kernel
theorem dX4_areAlike_40 : decode cX4_areAlike 40 = .ok (.if_icmp .ne 33, 3) := by decide +kernel
theorem dX4_areAlike_43 : decode cX4_areAlike 43 = .ok (.aload_n 0, 1) := by decide +kernel
theorem dX4_areAlike_44 : decode cX4_areAlike 44 = .ok (.iload_n 3, 1) := by decide +kernel
theorem dX4_areAlike_45 : decode cX4_areAlike 45 = .ok (.iload_n 1, 1) := by decide +kernel
theorem dX4_areAlike_46 : decode cX4_areAlike 46 = .ok (.invokevirtual 50, 3) := by decide +kernel
theorem dX4_areAlike_49 : decode cX4_areAlike 49 = .ok (.aload_n 0, 1) := by decide +kernel
theorem dX4_areAlike_50 : decode cX4_areAlike 50 = .ok (.iload_n 3, 1) := by decide +kernel
theorem dX4_areAlike_51 : decode cX4_areAlike 51 = .ok (.iload_n 2, 1) := by decide +kernel
theorem dX4_areAlike_52 : decode cX4_areAlike 52 = .ok (.invokevirtual 50, 3) := by decide +kernel
theorem dX4_areAlike_55 : decode cX4_areAlike 55 = .ok (.if_icmp .ne 18, 3) := by decide +kernel
theorem dX4_areAlike_58 : decode cX4_areAlike 58 = .ok (.aload_n 0, 1) := by decide +kernel
theorem dX4_areAlike_59 : decode cX4_areAlike 59 = .ok (.iload_n 3, 1) := by decide +kernel
theorem dX4_areAlike_60 : decode cX4_areAlike 60 = .ok (.iload_n 1, 1) := by decide +kernel
theorem dX4_areAlike_61 : decode cX4_areAlike 61 = .ok (.invokevirtual 58, 3) := by decide +kernel
theorem dX4_areAlike_64 : decode cX4_areAlike 64 = .ok (.aload_n 0, 1) := by decide +kernel
theorem dX4_areAlike_65 : decode cX4_areAlike 65 = .ok (.iload_n 3, 1) := by decide +kernel
theorem dX4_areAlike_66 : decode cX4_areAlike 66 = .ok (.iload_n 2, 1) := by decide +kernel
theorem dX4_areAlike_67 : decode cX4_areAlike 67 = .ok (.invokevirtual 58, 3) := by decide +kernel
theorem dX4_areAlike_70 : decode cX4_areAlike 70 = .ok (.if_icmp .eq 5, 3) := by decide +kernel
theorem dX4_areAlike_73 : decode cX4_areAlike 73 = .ok (.iconst 0, 1) := by decide +kernel
theorem dX4_areAlike_74 : decode cX4_areAlike 74 = .ok (.ireturn, 1) := by decide +kernel
theorem dX4_areAlike_75 : decode cX4_areAlike 75 = .ok (.iinc 3 1, 3) := by decide +kernel
theorem dX4_areAlike_78 : decode cX4_areAlike 78 = .ok (.goto (-76), 3) := by decide +kernel
theorem dX4_areAlike_81 : decode cX4_areAlike 81 = .ok (.iconst 1, 1) := by decide +kernel
theorem dX4_areAlike_82 : decode cX4_areAlike 82 = .ok (.ireturn, 1) := by decide +kernel
theorem dX10_init_0 : decode cX10_init 0 = .ok (.aload_n 0, 1) := by decide +kernel
theorem dX10_init_1 : decode cX10_init 1 = .ok (.invokespecial 3, 3) := by decide +kernel
theorem dX10_init_4 : decode cX10_init 4 = .ok (.aload_n 0, 1) := by decide +kernel
theorem dX10_init_5 : decode cX10_init 5 = .ok (.new 9, 3) := by decide +kernel
theorem dX10_init_8 : decode cX10_init 8 = .ok (.dup, 1) := by decide +kernel
theorem dX10_init_9 : decode cX10_init 9 = .ok (.invokespecial 11, 3) := by decide +kernel
theorem dX10_init_12 : decode cX10_init 12 = .ok (.putfield 12, 3) := by decide +kernel
theorem dX10_init_15 : decode cX10_init 15 = .ok (.aload_n 0, 1) := by decide +kernel
theorem dX10_init_16 : decode cX10_init 16 = .ok (.new 9, 3) := by decide +kernel
theorem dX10_init_19 : decode cX10_init 19 = .ok (.dup, 1) := by decide +kernel
theorem dX10_init_20 : decode cX10_init 20 = .ok (.invokespecial 11, 3) := by decide +kernel
theorem dX10_init_23 : decode cX10_init 23 = .ok (.putfield 16, 3) := by decide +kernel
theorem dX10_init_26 : decode cX10_init 26 = .ok (.aload_n 0, 1) := by decide +kernel
theorem dX10_init_27 : decode cX10_init 27 = .ok (.new 19, 3) := by decide +kernel
theorem dX10_init_30 : decode cX10_init 30 = .ok (.dup, 1) := by decide +kernel
theorem dX10_init_31 : decode cX10_init 31 = .ok (.invokespecial 21, 3) := by decide +kernel
theorem dX10_init_34 : decode cX10_init 34 = .ok (.putfield 22, 3) := by decide +kernel
theorem dX10_init_37 : decode cX10_init 37 = .ok (.aload_n 0, 1) := by decide +kernel
theorem dX10_init_38 : decode cX10_init 38 = .ok (.iconst 4, 1) := by decide +kernel
theorem dX10_init_39 : decode cX10_init 39 = .ok (.anewarray 26, 3) := by decide +kernel
theorem dX10_init_42 : decode cX10_init 42 = .ok (.putfield 28, 3) := by decide +kernel
theorem dX10_init_45 : decode cX10_init 45 = .ok (.aload_n 0, 1) := by decide +kernel
theorem dX10_init_46 : decode cX10_init 46 = .ok (.new 32, 3) := by decide +kernel
theorem dX10_init_49 : decode cX10_init 49 = .ok (.dup, 1) := by decide +kernel
theorem dX10_init_50 : decode cX10_init 50 = .ok (.invokespecial 34, 3) := by decide +kernel
theorem dX10_init_53 : decode cX10_init 53 = .ok (.putfield 35, 3) := by decide +kernel
theorem dX10_init_56 : decode cX10_init 56 = .ok (.aload_n 0, 1) := by decide +kernel
theorem dX10_init_57 : decode cX10_init 57 = .ok (.new 39, 3) := by decide +kernel
theorem dX10_init_60 : decode cX10_init 60 = .ok (.dup, 1) := by decide +kernel
theorem dX10_init_61 : decode cX10_init 61 = .ok (.aload_n 0, 1) := by decide +kernel
theorem dX10_init_62 : decode cX10_init 62 = .ok (.getfield 35, 3) := by decide +kernel
theorem dX10_init_65 : decode cX10_init 65 = .ok (.invokespecial 41, 3) := by decide +kernel
theorem dX10_init_68 : decode cX10_init 68 = .ok (.putfield 44, 3) := by decide +kernel
theorem dX10_init_71 : decode cX10_init 71 = .ok (.aload_n 0, 1) := by decide +kernel
theorem dX10_init_72 : decode cX10_init 72 = .ok (.new 48, 3) := by decide +kernel
theorem dX10_init_75 : decode cX10_init 75 = .ok (.dup, 1) := by decide +kernel
theorem dX10_init_76 : decode cX10_init 76 = .ok (.aload_n 0, 1) := by decide +kernel
theorem dX10_init_77 : decode cX10_init 77 = .ok (.getfield 35, 3) := by decide +kernel
theorem dX10_init_80 : decode cX10_init 80 = .ok (.invokespecial 50, 3) := by decide +kernel
theorem dX10_init_83 : decode cX10_init 83 = .ok (.putfield 51, 3) := by decide +kernel
theorem dX10_init_86 : decode cX10_init 86 = .ok (.aload_n 0, 1) := by decide +kernel
theorem dX10_init_87 : decode cX10_init 87 = .ok (.new 55, 3) := by decide +kernel
theorem dX10_init_90 : decode cX10_init 90 = .ok (.dup, 1) := by decide +kernel
theorem dX10_init_91 : decode cX10_init 91 = .ok (.aload_n 0, 1) := by decide +kernel
theorem dX10_init_92 : decode cX10_init 92 = .ok (.getfield 35, 3) := by decide +kernel
theorem dX10_init_95 : decode cX10_init 95 = .ok (.invokespecial 57, 3) := by decide +kernel
theorem dX10_init_98 : decode cX10_init 98 = .ok (.putfield 58, 3) := by decide +kernel
theorem dX10_init_101 : decode cX10_init 101 = .ok (.aload_n 0, 1) := by decide +kernel
theorem dX10_init_102 : decode cX10_init 102 = .ok (.new 62, 3) := by decide +kernel
theorem dX10_init_105 : decode cX10_init 105 = .ok (.dup, 1) := by decide +kernel
theorem dX10_init_106 : decode cX10_init 106 = .ok (.aload_n 0, 1) := by decide +kernel
theorem dX10_init_107 : decode cX10_init 107 = .ok (.getfield 12, 3) := by decide +kernel
theorem dX10_init_110 : decode cX10_init 110 = .ok (.invokespecial 64, 3) := by decide +kernel
theorem dX10_init_113 : decode cX10_init 113 = .ok (.putfield 67, 3) := by decide +kernel
theorem dX10_init_116 : decode cX10_init 116 = .ok (.aload_n 0, 1) := by decide +kernel
theorem dX10_init_117 : decode cX10_init 117 = .ok (.bipush 6, 2) := by decide +kernel
theorem dX10_init_119 : decode cX10_init 119 = .ok (.newarray .int, 2) := by decide +kernel
theorem dX10_init_121 : decode cX10_init 121 = .ok (.putfield 71, 3) := by decide +kernel
theorem dX10_init_124 : decode cX10_init 124 = .ok (.iconst 0, 1) := by decide +kernel
theorem dX10_init_125 : decode cX10_init 125 = .ok (.istore_n 1, 1) := by decide +kernel
theorem dX10_init_126 : decode cX10_init 126 = .ok (.iload_n 1, 1) := by decide +kernel
theorem dX10_init_127 : decode cX10_init 127 = .ok (.iconst 4, 1) := by decide +kernel
theorem dX10_init_128 : decode cX10_init 128 = .ok (.if_icmp .ge 22, 3) := by decide +kernel
theorem dX10_init_131 : decode cX10_init 131 = .ok (.aload_n 0, 1) := by decide +kernel
theorem dX10_init_132 : decode cX10_init 132 = .ok (.getfield 28, 3) := by decide +kernel
theorem dX10_init_135 : decode cX10_init 135 = .ok (.iload_n 1, 1) := by decide +kernel
theorem dX10_init_136 : decode cX10_init 136 = .ok (.new 26, 3) := by decide +kernel
theorem dX10_init_139 : decode cX10_init 139 = .ok (.dup, 1) := by decide +kernel
theorem dX10_init_140 : decode cX10_init 140 = .ok (.invokespecial 75, 3) := by decide +kernel
theorem dX10_init_143 : decode cX10_init 143 = .ok (.aastore, 1) := by decide +kernel
theorem dX10_init_144 : decode cX10_init 144 = .ok (.iinc 1 1, 3) := by decide +kernel
theorem dX10_init_147 : decode cX10_init 147 = .ok (.goto (-21), 3) := by decide +kernel
theorem dX10_init_150 : decode cX10_init 150 = .ok (.return_, 1) := by decide +kernel
theorem dX10_tree_0 : decode cX10_tree 0 = .ok (.iload_n 1, 1) := by decide +kernel
theorem dX10_tree_1 : decode cX10_tree 1 = .ok (.iconst 0, 1) := by decide +kernel
theorem dX10_tree_2 : decode cX10_tree 2 = .ok (.iconst 3, 1) := by decide +kernel
theorem dX10_tree_3 : decode cX10_tree 3 = .ok (.invokestatic 76, 3) := by decide +kernel
theorem dX10_tree_6 : decode cX10_tree 6 = .ok (.ifCond .ne 5, 3) := by decide +kernel
theorem dX10_tree_9 : decode cX10_tree 9 = .ok (.iconst (-1), 1) := by decide +kernel
theorem dX10_tree_10 : decode cX10_tree 10 = .ok (.ireturn, 1) := by decide +kernel
theorem dX10_tree_11 : decode cX10_tree 11 = .ok (.aload_n 0, 1) := by decide +kernel
theorem dX10_tree_12 : decode cX10_tree 12 = .ok (.getfield 12, 3) := by decide +kernel
theorem dX10_tree_15 : decode cX10_tree 15 = .ok (.getfield 80, 3) := by decide +kernel
theorem dX10_tree_18 : decode cX10_tree 18 = .ok (.bipush 6, 2) := by decide +kernel
theorem dX10_tree_20 : decode cX10_tree 20 = .ok (.if_icmp .lt 8, 3) := by decide +kernel
theorem dX10_tree_23 : decode cX10_tree 23 = .ok (.bipush (-3), 2) := by decide +kernel
theorem dX10_tree_25 : decode cX10_tree 25 = .ok (.goto 11, 3) := by decide +kernel
theorem dX10_tree_28 : decode cX10_tree 28 = .ok (.aload_n 0, 1) := by decide +kernel
theorem dX10_tree_29 : decode cX10_tree 29 = .ok (.getfield 12, 3) := by decide +kernel
theorem dX10_tree_32 : decode cX10_tree 32 = .ok (.iload_n 1, 1) := by decide +kernel
theorem dX10_tree_33 : decode cX10_tree 33 = .ok (.invokevirtual 84, 3) := by decide +kernel
theorem dX10_tree_36 : decode cX10_tree 36 = .ok (.ireturn, 1) := by decide +kernel
theorem dX10_cutting_0 : decode cX10_cutting 0 = .ok (.aload_n 0, 1) := by decide +kernel
theorem dX10_cutting_1 : decode cX10_cutting 1 = .ok (.getfield 12, 3) := by decide +kernel
theorem dX10_cutting_4 : decode cX10_cutting 4 = .ok (.iload_n 1, 1) := by decide +kernel
theorem dX10_cutting_5 : decode cX10_cutting 5 = .ok (.invokevirtual 88, 3) := by decide +kernel
theorem dX10_cutting_8 : decode cX10_cutting 8 = .ok (.ifCond .ne 5, 3) := by decide +kernel
theorem dX10_cutting_11 : decode cX10_cutting 11 = .ok (.iconst (-1), 1) := by decide +kernel
theorem dX10_cutting_12 : decode cX10_cutting 12 = .ok (.ireturn, 1) := by decide +kernel
theorem dX10_cutting_13 : decode cX10_cutting 13 = .ok (.aload_n 0, 1) := by decide +kernel
theorem dX10_cutting_14 : decode cX10_cutting 14 = .ok (.getfield 12, 3) := by decide +kernel
theorem dX10_cutting_17 : decode cX10_cutting 17 = .ok (.getfield 80, 3) := by decide +kernel
theorem dX10_cutting_20 : decode cX10_cutting 20 = .ok (.bipush 6, 2) := by decide +kernel
theorem dX10_cutting_22 : decode cX10_cutting 22 = .ok (.if_icmp .lt 8, 3) := by decide +kernel
theorem dX10_cutting_25 : decode cX10_cutting 25 = .ok (.bipush (-3), 2) := by decide +kernel
theorem dX10_cutting_27 : decode cX10_cutting 27 = .ok (.goto 11, 3) := by decide +kernel
theorem dX10_cutting_30 : decode cX10_cutting 30 = .ok (.aload_n 0, 1) := by decide +kernel
theorem dX10_cutting_31 : decode cX10_cutting 31 = .ok (.getfield 12, 3) := by decide +kernel
theorem dX10_cutting_34 : decode cX10_cutting 34 = .ok (.iload_n 1, 1) := by decide +kernel
theorem dX10_cutting_35 : decode cX10_cutting 35 = .ok (.invokevirtual 92, 3) := by decide +kernel
theorem dX10_cutting_38 : decode cX10_cutting 38 = .ok (.ireturn, 1) := by decide +kernel
theorem dX10_climber_0 : decode cX10_climber 0 = .ok (.iload_n 1, 1) := by decide +kernel
theorem dX10_climber_1 : decode cX10_climber 1 = .ok (.iconst 0, 1) := by decide +kernel
theorem dX10_climber_2 : decode cX10_climber 2 = .ok (.iconst 3, 1) := by decide +kernel
theorem dX10_climber_3 : decode cX10_climber 3 = .ok (.invokestatic 76, 3) := by decide +kernel
theorem dX10_climber_6 : decode cX10_climber 6 = .ok (.ifCond .eq 28, 3) := by decide +kernel
theorem dX10_climber_9 : decode cX10_climber 9 = .ok (.iconst 1, 1) := by decide +kernel
theorem dX10_climber_10 : decode cX10_climber 10 = .ok (.iload_n 2, 1) := by decide +kernel
theorem dX10_climber_11 : decode cX10_climber 11 = .ok (.invokestatic 95, 3) := by decide +kernel
theorem dX10_climber_14 : decode cX10_climber 14 = .ok (.ifCond .eq 20, 3) := by decide +kernel
theorem dX10_climber_17 : decode cX10_climber 17 = .ok (.iconst 2, 1) := by decide +kernel
theorem dX10_climber_18 : decode cX10_climber 18 = .ok (.iload_n 3, 1) := by decide +kernel
theorem dX10_climber_19 : decode cX10_climber 19 = .ok (.invokestatic 95, 3) := by decide +kernel
theorem dX10_climber_22 : decode cX10_climber 22 = .ok (.ifCond .eq 12, 3) := by decide +kernel
theorem dX10_climber_25 : decode cX10_climber 25 = .ok (.iconst 3, 1) := by decide +kernel
theorem dX10_climber_26 : decode cX10_climber 26 = .ok (.iload 4, 2) := by decide +kernel
theorem dX10_climber_28 : decode cX10_climber 28 = .ok (.invokestatic 95, 3) := by decide +kernel
theorem dX10_climber_31 : decode cX10_climber 31 = .ok (.ifCond .ne 5, 3) := by decide +kernel
theorem dX10_climber_34 : decode cX10_climber 34 = .ok (.iconst (-1), 1) := by decide +kernel
theorem dX10_climber_35 : decode cX10_climber 35 = .ok (.ireturn, 1) := by decide +kernel
theorem dX10_climber_36 : decode cX10_climber 36 = .ok (.aload_n 0, 1) := by decide +kernel
theorem dX10_climber_37 : decode cX10_climber 37 = .ok (.getfield 12, 3) := by decide +kernel
theorem dX10_climber_40 : decode cX10_climber 40 = .ok (.getfield 99, 3) := by decide +kernel
theorem dX10_climber_43 : decode cX10_climber 43 = .ok (.iconst 5, 1) := by decide +kernel
theorem dX10_climber_44 : decode cX10_climber 44 = .ok (.if_icmp .lt 8, 3) := by decide +kernel
theorem dX10_climber_47 : decode cX10_climber 47 = .ok (.bipush (-3), 2) := by decide +kernel
theorem dX10_climber_49 : decode cX10_climber 49 = .ok (.goto 15, 3) := by decide +kernel
theorem dX10_climber_52 : decode cX10_climber 52 = .ok (.aload_n 0, 1) := by decide +kernel
theorem dX10_climber_53 : decode cX10_climber 53 = .ok (.getfield 12, 3) := by decide +kernel
theorem dX10_climber_56 : decode cX10_climber 56 = .ok (.iload_n 1, 1) := by decide +kernel
theorem dX10_climber_57 : decode cX10_climber 57 = .ok (.iload_n 2, 1) := by decide +kernel
theorem dX10_climber_58 : decode cX10_climber 58 = .ok (.iload_n 3, 1) := by decide +kernel
theorem dX10_climber_59 : decode cX10_climber 59 = .ok (.iload 4, 2) := by decide +kernel
theorem dX10_climber_61 : decode cX10_climber 61 = .ok (.invokevirtual 102, 3) := by decide +kernel
theorem dX10_climber_64 : decode cX10_climber 64 = .ok (.ireturn, 1) := by decide +kernel
theorem dX10_set_0 : decode cX10_set 0 = .ok (.aload_n 0, 1) := by decide +kernel
theorem dX10_set_1 : decode cX10_set 1 = .ok (.getfield 12, 3) := by decide +kernel
theorem dX10_set_4 : decode cX10_set 4 = .ok (.iload_n 1, 1) := by decide +kernel
theorem dX10_set_5 : decode cX10_set 5 = .ok (.invokevirtual 106, 3) := by decide +kernel
theorem dX10_set_8 : decode cX10_set 8 = .ok (.ifCond .eq 11, 3) := by decide +kernel
theorem dX10_set_11 : decode cX10_set 11 = .ok (.iload_n 2, 1) := by decide +kernel
theorem dX10_set_12 : decode cX10_set 12 = .ok (.iload_n 3, 1) := by decide +kernel
theorem dX10_set_13 : decode cX10_set 13 = .ok (.invokestatic 95, 3) := by decide +kernel
theorem dX10_set_16 : decode cX10_set 16 = .ok (.ifCond .ne 5, 3) := by decide +kernel
theorem dX10_set_19 : decode cX10_set 19 = .ok (.iconst (-1), 1) := by decide +kernel
theorem dX10_set_20 : decode cX10_set 20 = .ok (.ireturn, 1) := by decide +kernel
theorem dX10_set_21 : decode cX10_set 21 = .ok (.aload_n 0, 1) := by decide +kernel
theorem dX10_set_22 : decode cX10_set 22 = .ok (.getfield 12, 3) := by decide +kernel
theorem dX10_set_25 : decode cX10_set 25 = .ok (.getfield 109, 3) := by decide +kernel
theorem dX10_set_28 : decode cX10_set 28 = .ok (.iload_n 1, 1) := by decide +kernel
theorem dX10_set_29 : decode cX10_set 29 = .ok (.aaload, 1) := by decide +kernel
theorem dX10_set_30 : decode cX10_set 30 = .ok (.astore 4, 2) := by decide +kernel
theorem dX10_set_32 : decode cX10_set 32 = .ok (.aload 4, 2) := by decide +kernel
theorem dX10_set_34 : decode cX10_set 34 = .ok (.iload_n 2, 1) := by decide +kernel
theorem dX10_set_35 : decode cX10_set 35 = .ok (.invokevirtual 113, 3) := by decide +kernel
theorem dX10_set_38 : decode cX10_set 38 = .ok (.istore 5, 2) := by decide +kernel
theorem dX10_set_40 : decode cX10_set 40 = .ok (.aload 4, 2) := by decide +kernel
theorem dX10_set_42 : decode cX10_set 42 = .ok (.iload_n 2, 1) := by decide +kernel
theorem dX10_set_43 : decode cX10_set 43 = .ok (.iload_n 3, 1) := by decide +kernel
theorem dX10_set_44 : decode cX10_set 44 = .ok (.invokevirtual 118, 3) := by decide +kernel
theorem dX10_set_47 : decode cX10_set 47 = .ok (.iload 5, 2) := by decide +kernel
theorem dX10_set_49 : decode cX10_set 49 = .ok (.ireturn, 1) := by decide +kernel
theorem dX10_told_0 : decode cX10_told 0 = .ok (.aload_n 0, 1) := by decide +kernel
theorem dX10_told_1 : decode cX10_told 1 = .ok (.getfield 12, 3) := by decide +kernel
theorem dX10_told_4 : decode cX10_told 4 = .ok (.iload_n 1, 1) := by decide +kernel
theorem dX10_told_5 : decode cX10_told 5 = .ok (.invokevirtual 106, 3) := by decide +kernel
theorem dX10_told_8 : decode cX10_told 8 = .ok (.ifCond .eq 28, 3) := by decide +kernel
theorem dX10_told_11 : decode cX10_told 11 = .ok (.iload_n 2, 1) := by decide +kernel
theorem dX10_told_12 : decode cX10_told 12 = .ok (.iconst 0, 1) := by decide +kernel
theorem dX10_told_13 : decode cX10_told 13 = .ok (.iconst 4, 1) := by decide +kernel
theorem dX10_told_14 : decode cX10_told 14 = .ok (.invokestatic 76, 3) := by decide +kernel
theorem dX10_told_17 : decode cX10_told 17 = .ok (.ifCond .eq 19, 3) := by decide +kernel
theorem dX10_told_20 : decode cX10_told 20 = .ok (.aload_n 0, 1) := by decide +kernel
theorem dX10_told_21 : decode cX10_told 21 = .ok (.getfield 12, 3) := by decide +kernel
theorem dX10_told_24 : decode cX10_told 24 = .ok (.getfield 109, 3) := by decide +kernel
theorem dX10_told_27 : decode cX10_told 27 = .ok (.iload_n 1, 1) := by decide +kernel
theorem dX10_told_28 : decode cX10_told 28 = .ok (.aaload, 1) := by decide +kernel
theorem dX10_told_29 : decode cX10_told 29 = .ok (.iload_n 2, 1) := by decide +kernel
theorem dX10_told_30 : decode cX10_told 30 = .ok (.invokevirtual 113, 3) := by decide +kernel
theorem dX10_told_33 : decode cX10_told 33 = .ok (.goto 4, 3) := by decide +kernel
theorem dX10_told_36 : decode cX10_told 36 = .ok (.iconst (-1), 1) := by decide +kernel
theorem dX10_told_37 : decode cX10_told 37 = .ok (.ireturn, 1) := by decide +kernel
theorem dX10_of_0 : decode cX10_of 0 = .ok (.aload_n 0, 1) := by decide +kernel
theorem dX10_of_1 : decode cX10_of 1 = .ok (.getfield 12, 3) := by decide +kernel
end
section
theorem dX10_of_4 : decode cX10_of 4 = .ok (.iload_n 1, 1) := by decide +kernel
theorem dX10_of_5 : decode cX10_of 5 = .ok (.invokevirtual 88, 3) := by decide +kernel
theorem dX10_of_8 : decode cX10_of 8 = .ok (.ifCond .eq 29, 3) := by decide +kernel
theorem dX10_of_11 : decode cX10_of 11 = .ok (.iload_n 2, 1) := by decide +kernel
theorem dX10_of_12 : decode cX10_of 12 = .ok (.iconst 0, 1) := by decide +kernel
theorem dX10_of_13 : decode cX10_of 13 = .ok (.bipush 6, 2) := by decide +kernel
theorem dX10_of_15 : decode cX10_of 15 = .ok (.invokestatic 76, 3) := by decide +kernel
theorem dX10_of_18 : decode cX10_of 18 = .ok (.ifCond .eq 19, 3) := by decide +kernel
theorem dX10_of_21 : decode cX10_of 21 = .ok (.aload_n 0, 1) := by decide +kernel
theorem dX10_of_22 : decode cX10_of 22 = .ok (.getfield 12, 3) := by decide +kernel
theorem dX10_of_25 : decode cX10_of 25 = .ok (.getfield 122, 3) := by decide +kernel
theorem dX10_of_28 : decode cX10_of 28 = .ok (.iload_n 1, 1) := by decide +kernel
theorem dX10_of_29 : decode cX10_of 29 = .ok (.aaload, 1) := by decide +kernel
theorem dX10_of_30 : decode cX10_of 30 = .ok (.iload_n 2, 1) := by decide +kernel
theorem dX10_of_31 : decode cX10_of 31 = .ok (.invokevirtual 126, 3) := by decide +kernel
theorem dX10_of_34 : decode cX10_of 34 = .ok (.goto 4, 3) := by decide +kernel
theorem dX10_of_37 : decode cX10_of 37 = .ok (.iconst (-1), 1) := by decide +kernel
theorem dX10_of_38 : decode cX10_of 38 = .ok (.ireturn, 1) := by decide +kernel
theorem dX10_price_0 : decode cX10_price 0 = .ok (.iload_n 1, 1) := by decide +kernel
theorem dX10_price_1 : decode cX10_price 1 = .ok (.invokestatic 131, 3) := by decide +kernel
theorem dX10_price_4 : decode cX10_price 4 = .ok (.ifCond .eq 14, 3) := by decide +kernel
theorem dX10_price_7 : decode cX10_price 7 = .ok (.iload_n 2, 1) := by decide +kernel
theorem dX10_price_8 : decode cX10_price 8 = .ok (.bipush (-9), 2) := by decide +kernel
theorem dX10_price_10 : decode cX10_price 10 = .ok (.bipush 99, 2) := by decide +kernel
theorem dX10_price_12 : decode cX10_price 12 = .ok (.invokestatic 76, 3) := by decide +kernel
theorem dX10_price_15 : decode cX10_price 15 = .ok (.ifCond .ne 6, 3) := by decide +kernel
theorem dX10_price_18 : decode cX10_price 18 = .ok (.ldc 134, 2) := by decide +kernel
theorem dX10_price_20 : decode cX10_price 20 = .ok (.ireturn, 1) := by decide +kernel
theorem dX10_price_21 : decode cX10_price 21 = .ok (.aload_n 0, 1) := by decide +kernel
theorem dX10_price_22 : decode cX10_price 22 = .ok (.getfield 12, 3) := by decide +kernel
theorem dX10_price_25 : decode cX10_price 25 = .ok (.getfield 135, 3) := by decide +kernel
theorem dX10_price_28 : decode cX10_price 28 = .ok (.iload_n 1, 1) := by decide +kernel
theorem dX10_price_29 : decode cX10_price 29 = .ok (.iaload, 1) := by decide +kernel
theorem dX10_price_30 : decode cX10_price 30 = .ok (.istore_n 3, 1) := by decide +kernel
theorem dX10_price_31 : decode cX10_price 31 = .ok (.aload_n 0, 1) := by decide +kernel
theorem dX10_price_32 : decode cX10_price 32 = .ok (.getfield 12, 3) := by decide +kernel
theorem dX10_price_35 : decode cX10_price 35 = .ok (.getfield 135, 3) := by decide +kernel
theorem dX10_price_38 : decode cX10_price 38 = .ok (.iload_n 1, 1) := by decide +kernel
theorem dX10_price_39 : decode cX10_price 39 = .ok (.iload_n 2, 1) := by decide +kernel
theorem dX10_price_40 : decode cX10_price 40 = .ok (.iastore, 1) := by decide +kernel
theorem dX10_price_41 : decode cX10_price 41 = .ok (.iload_n 3, 1) := by decide +kernel
theorem dX10_price_42 : decode cX10_price 42 = .ok (.ireturn, 1) := by decide +kernel
theorem dX10_fence_0 : decode cX10_fence 0 = .ok (.aload_n 0, 1) := by decide +kernel
theorem dX10_fence_1 : decode cX10_fence 1 = .ok (.getfield 12, 3) := by decide +kernel
theorem dX10_fence_4 : decode cX10_fence 4 = .ok (.iload_n 1, 1) := by decide +kernel
theorem dX10_fence_5 : decode cX10_fence 5 = .ok (.invokevirtual 88, 3) := by decide +kernel
theorem dX10_fence_8 : decode cX10_fence 8 = .ok (.ifCond .eq 14, 3) := by decide +kernel
theorem dX10_fence_11 : decode cX10_fence 11 = .ok (.aload_n 0, 1) := by decide +kernel
theorem dX10_fence_12 : decode cX10_fence 12 = .ok (.getfield 12, 3) := by decide +kernel
theorem dX10_fence_15 : decode cX10_fence 15 = .ok (.iload_n 2, 1) := by decide +kernel
theorem dX10_fence_16 : decode cX10_fence 16 = .ok (.invokevirtual 138, 3) := by decide +kernel
theorem dX10_fence_19 : decode cX10_fence 19 = .ok (.ifCond .ne 5, 3) := by decide +kernel
theorem dX10_fence_22 : decode cX10_fence 22 = .ok (.iconst (-1), 1) := by decide +kernel
theorem dX10_fence_23 : decode cX10_fence 23 = .ok (.ireturn, 1) := by decide +kernel
theorem dX10_fence_24 : decode cX10_fence 24 = .ok (.aload_n 0, 1) := by decide +kernel
theorem dX10_fence_25 : decode cX10_fence 25 = .ok (.getfield 12, 3) := by decide +kernel
theorem dX10_fence_28 : decode cX10_fence 28 = .ok (.getfield 122, 3) := by decide +kernel
theorem dX10_fence_31 : decode cX10_fence 31 = .ok (.iload_n 1, 1) := by decide +kernel
theorem dX10_fence_32 : decode cX10_fence 32 = .ok (.aaload, 1) := by decide +kernel
theorem dX10_fence_33 : decode cX10_fence 33 = .ok (.astore_n 3, 1) := by decide +kernel
theorem dX10_fence_34 : decode cX10_fence 34 = .ok (.iload_n 2, 1) := by decide +kernel
theorem dX10_fence_35 : decode cX10_fence 35 = .ok (.aload_n 3, 1) := by decide +kernel
theorem dX10_fence_36 : decode cX10_fence 36 = .ok (.getfield 141, 3) := by decide +kernel
theorem dX10_fence_39 : decode cX10_fence 39 = .ok (.invokestatic 144, 3) := by decide +kernel
theorem dX10_fence_42 : decode cX10_fence 42 = .ok (.ifCond .eq 6, 3) := by decide +kernel
theorem dX10_fence_45 : decode cX10_fence 45 = .ok (.bipush (-2), 2) := by decide +kernel
theorem dX10_fence_47 : decode cX10_fence 47 = .ok (.ireturn, 1) := by decide +kernel
theorem dX10_fence_48 : decode cX10_fence 48 = .ok (.aload_n 3, 1) := by decide +kernel
theorem dX10_fence_49 : decode cX10_fence 49 = .ok (.getfield 147, 3) := by decide +kernel
theorem dX10_fence_52 : decode cX10_fence 52 = .ok (.istore 4, 2) := by decide +kernel
theorem dX10_fence_54 : decode cX10_fence 54 = .ok (.aload_n 3, 1) := by decide +kernel
theorem dX10_fence_55 : decode cX10_fence 55 = .ok (.iload_n 2, 1) := by decide +kernel
theorem dX10_fence_56 : decode cX10_fence 56 = .ok (.putfield 147, 3) := by decide +kernel
theorem dX10_fence_59 : decode cX10_fence 59 = .ok (.iload 4, 2) := by decide +kernel
theorem dX10_fence_61 : decode cX10_fence 61 = .ok (.ireturn, 1) := by decide +kernel
theorem dX10_climb_0 : decode cX10_climb 0 = .ok (.aload_n 0, 1) := by decide +kernel
theorem dX10_climb_1 : decode cX10_climb 1 = .ok (.getfield 12, 3) := by decide +kernel
theorem dX10_climb_4 : decode cX10_climb 4 = .ok (.iload_n 1, 1) := by decide +kernel
theorem dX10_climb_5 : decode cX10_climb 5 = .ok (.invokevirtual 88, 3) := by decide +kernel
theorem dX10_climb_8 : decode cX10_climb 8 = .ok (.ifCond .eq 14, 3) := by decide +kernel
theorem dX10_climb_11 : decode cX10_climb 11 = .ok (.aload_n 0, 1) := by decide +kernel
theorem dX10_climb_12 : decode cX10_climb 12 = .ok (.getfield 12, 3) := by decide +kernel
theorem dX10_climb_15 : decode cX10_climb 15 = .ok (.iload_n 2, 1) := by decide +kernel
theorem dX10_climb_16 : decode cX10_climb 16 = .ok (.invokevirtual 150, 3) := by decide +kernel
theorem dX10_climb_19 : decode cX10_climb 19 = .ok (.ifCond .ne 5, 3) := by decide +kernel
theorem dX10_climb_22 : decode cX10_climb 22 = .ok (.iconst (-1), 1) := by decide +kernel
theorem dX10_climb_23 : decode cX10_climb 23 = .ok (.ireturn, 1) := by decide +kernel
theorem dX10_climb_24 : decode cX10_climb 24 = .ok (.aload_n 0, 1) := by decide +kernel
theorem dX10_climb_25 : decode cX10_climb 25 = .ok (.getfield 12, 3) := by decide +kernel
theorem dX10_climb_28 : decode cX10_climb 28 = .ok (.iload_n 1, 1) := by decide +kernel
theorem dX10_climb_29 : decode cX10_climb 29 = .ok (.iload_n 2, 1) := by decide +kernel
theorem dX10_climb_30 : decode cX10_climb 30 = .ok (.invokevirtual 153, 3) := by decide +kernel
theorem dX10_climb_33 : decode cX10_climb 33 = .ok (.ifCond .ne 6, 3) := by decide +kernel
theorem dX10_climb_36 : decode cX10_climb 36 = .ok (.bipush (-2), 2) := by decide +kernel
theorem dX10_climb_38 : decode cX10_climb 38 = .ok (.ireturn, 1) := by decide +kernel
theorem dX10_climb_39 : decode cX10_climb 39 = .ok (.aload_n 0, 1) := by decide +kernel
theorem dX10_climb_40 : decode cX10_climb 40 = .ok (.getfield 12, 3) := by decide +kernel
theorem dX10_climb_43 : decode cX10_climb 43 = .ok (.getfield 122, 3) := by decide +kernel
theorem dX10_climb_46 : decode cX10_climb 46 = .ok (.iload_n 1, 1) := by decide +kernel
theorem dX10_climb_47 : decode cX10_climb 47 = .ok (.aaload, 1) := by decide +kernel
theorem dX10_climb_48 : decode cX10_climb 48 = .ok (.astore_n 3, 1) := by decide +kernel
theorem dX10_climb_49 : decode cX10_climb 49 = .ok (.aload_n 3, 1) := by decide +kernel
theorem dX10_climb_50 : decode cX10_climb 50 = .ok (.getfield 141, 3) := by decide +kernel
theorem dX10_climb_53 : decode cX10_climb 53 = .ok (.istore 4, 2) := by decide +kernel
theorem dX10_climb_55 : decode cX10_climb 55 = .ok (.aload_n 3, 1) := by decide +kernel
theorem dX10_climb_56 : decode cX10_climb 56 = .ok (.iload_n 2, 1) := by decide +kernel
theorem dX10_climb_57 : decode cX10_climb 57 = .ok (.putfield 141, 3) := by decide +kernel
theorem dX10_climb_60 : decode cX10_climb 60 = .ok (.iload 4, 2) := by decide +kernel
theorem dX10_climb_62 : decode cX10_climb 62 = .ok (.ireturn, 1) := by decide +kernel
theorem dX10_type_0 : decode cX10_type 0 = .ok (.iload_n 1, 1) := by decide +kernel
theorem dX10_type_1 : decode cX10_type 1 = .ok (.bipush 32, 2) := by decide +kernel
theorem dX10_type_3 : decode cX10_type 3 = .ok (.bipush 126, 2) := by decide +kernel
theorem dX10_type_5 : decode cX10_type 5 = .ok (.invokestatic 76, 3) := by decide +kernel
theorem dX10_type_8 : decode cX10_type 8 = .ok (.ifCond .ne 5, 3) := by decide +kernel
theorem dX10_type_11 : decode cX10_type 11 = .ok (.iconst (-1), 1) := by decide +kernel
theorem dX10_type_12 : decode cX10_type 12 = .ok (.ireturn, 1) := by decide +kernel
theorem dX10_type_13 : decode cX10_type 13 = .ok (.aload_n 0, 1) := by decide +kernel
theorem dX10_type_14 : decode cX10_type 14 = .ok (.getfield 22, 3) := by decide +kernel
theorem dX10_type_17 : decode cX10_type 17 = .ok (.getfield 156, 3) := by decide +kernel
theorem dX10_type_20 : decode cX10_type 20 = .ok (.bipush 60, 2) := by decide +kernel
theorem dX10_type_22 : decode cX10_type 22 = .ok (.if_icmp .lt 8, 3) := by decide +kernel
theorem dX10_type_25 : decode cX10_type 25 = .ok (.bipush (-3), 2) := by decide +kernel
theorem dX10_type_27 : decode cX10_type 27 = .ok (.goto 11, 3) := by decide +kernel
theorem dX10_type_30 : decode cX10_type 30 = .ok (.aload_n 0, 1) := by decide +kernel
theorem dX10_type_31 : decode cX10_type 31 = .ok (.getfield 22, 3) := by decide +kernel
theorem dX10_type_34 : decode cX10_type 34 = .ok (.iload_n 1, 1) := by decide +kernel
theorem dX10_type_35 : decode cX10_type 35 = .ok (.invokevirtual 159, 3) := by decide +kernel
theorem dX10_type_38 : decode cX10_type 38 = .ok (.ireturn, 1) := by decide +kernel
theorem dX10_commons_0 : decode cX10_commons 0 = .ok (.aload_n 0, 1) := by decide +kernel
theorem dX10_commons_1 : decode cX10_commons 1 = .ok (.getfield 22, 3) := by decide +kernel
theorem dX10_commons_4 : decode cX10_commons 4 = .ok (.aload_n 0, 1) := by decide +kernel
theorem dX10_commons_5 : decode cX10_commons 5 = .ok (.getfield 12, 3) := by decide +kernel
theorem dX10_commons_8 : decode cX10_commons 8 = .ok (.getfield 99, 3) := by decide +kernel
theorem dX10_commons_11 : decode cX10_commons 11 = .ok (.invokevirtual 162, 3) := by decide +kernel
theorem dX10_commons_14 : decode cX10_commons 14 = .ok (.istore_n 1, 1) := by decide +kernel
theorem dX10_commons_15 : decode cX10_commons 15 = .ok (.iload_n 1, 1) := by decide +kernel
theorem dX10_commons_16 : decode cX10_commons 16 = .ok (.ifCond .le 15, 3) := by decide +kernel
theorem dX10_commons_19 : decode cX10_commons 19 = .ok (.aload_n 0, 1) := by decide +kernel
theorem dX10_commons_20 : decode cX10_commons 20 = .ok (.getfield 22, 3) := by decide +kernel
theorem dX10_commons_23 : decode cX10_commons 23 = .ok (.aload_n 0, 1) := by decide +kernel
theorem dX10_commons_24 : decode cX10_commons 24 = .ok (.getfield 12, 3) := by decide +kernel
theorem dX10_commons_27 : decode cX10_commons 27 = .ok (.iload_n 1, 1) := by decide +kernel
theorem dX10_commons_28 : decode cX10_commons 28 = .ok (.invokevirtual 165, 3) := by decide +kernel
theorem dX10_commons_31 : decode cX10_commons 31 = .ok (.aload_n 0, 1) := by decide +kernel
theorem dX10_commons_32 : decode cX10_commons 32 = .ok (.getfield 22, 3) := by decide +kernel
theorem dX10_commons_35 : decode cX10_commons 35 = .ok (.iconst 0, 1) := by decide +kernel
theorem dX10_commons_36 : decode cX10_commons 36 = .ok (.putfield 156, 3) := by decide +kernel
theorem dX10_commons_39 : decode cX10_commons 39 = .ok (.iload_n 1, 1) := by decide +kernel
theorem dX10_commons_40 : decode cX10_commons 40 = .ok (.ireturn, 1) := by decide +kernel
theorem dX10_count_0 : decode cX10_count 0 = .ok (.iload_n 1, 1) := by decide +kernel
theorem dX10_count_1 : decode cX10_count 1 = .ok (.tableswitch 75 0 4 #[35, 43, 51, 59, 67], 35) := by decide +kernel
theorem dX10_count_36 : decode cX10_count 36 = .ok (.aload_n 0, 1) := by decide +kernel
theorem dX10_count_37 : decode cX10_count 37 = .ok (.getfield 12, 3) := by decide +kernel
theorem dX10_count_40 : decode cX10_count 40 = .ok (.getfield 80, 3) := by decide +kernel
theorem dX10_count_43 : decode cX10_count 43 = .ok (.ireturn, 1) := by decide +kernel
theorem dX10_count_44 : decode cX10_count 44 = .ok (.aload_n 0, 1) := by decide +kernel
theorem dX10_count_45 : decode cX10_count 45 = .ok (.getfield 12, 3) := by decide +kernel
theorem dX10_count_48 : decode cX10_count 48 = .ok (.getfield 99, 3) := by decide +kernel
theorem dX10_count_51 : decode cX10_count 51 = .ok (.ireturn, 1) := by decide +kernel
theorem dX10_count_52 : decode cX10_count 52 = .ok (.aload_n 0, 1) := by decide +kernel
theorem dX10_count_53 : decode cX10_count 53 = .ok (.getfield 12, 3) := by decide +kernel
theorem dX10_count_56 : decode cX10_count 56 = .ok (.getfield 169, 3) := by decide +kernel
theorem dX10_count_59 : decode cX10_count 59 = .ok (.ireturn, 1) := by decide +kernel
theorem dX10_count_60 : decode cX10_count 60 = .ok (.aload_n 0, 1) := by decide +kernel
theorem dX10_count_61 : decode cX10_count 61 = .ok (.getfield 12, 3) := by decide +kernel
theorem dX10_count_64 : decode cX10_count 64 = .ok (.getfield 172, 3) := by decide +kernel
theorem dX10_count_67 : decode cX10_count 67 = .ok (.ireturn, 1) := by decide +kernel
theorem dX10_count_68 : decode cX10_count 68 = .ok (.aload_n 0, 1) := by decide +kernel
theorem dX10_count_69 : decode cX10_count 69 = .ok (.getfield 12, 3) := by decide +kernel
theorem dX10_count_72 : decode cX10_count 72 = .ok (.invokevirtual 175, 3) := by decide +kernel
theorem dX10_count_75 : decode cX10_count 75 = .ok (.ireturn, 1) := by decide +kernel
theorem dX10_count_76 : decode cX10_count 76 = .ok (.iconst (-1), 1) := by decide +kernel
theorem dX10_count_77 : decode cX10_count 77 = .ok (.ireturn, 1) := by decide +kernel
theorem dX10_bears_0 : decode cX10_bears 0 = .ok (.aload_n 0, 1) := by decide +kernel
theorem dX10_bears_1 : decode cX10_bears 1 = .ok (.getfield 12, 3) := by decide +kernel
theorem dX10_bears_4 : decode cX10_bears 4 = .ok (.iload_n 1, 1) := by decide +kernel
theorem dX10_bears_5 : decode cX10_bears 5 = .ok (.invokevirtual 88, 3) := by decide +kernel
theorem dX10_bears_8 : decode cX10_bears 8 = .ok (.ifCond .eq 22, 3) := by decide +kernel
theorem dX10_bears_11 : decode cX10_bears 11 = .ok (.iload_n 2, 1) := by decide +kernel
theorem dX10_bears_12 : decode cX10_bears 12 = .ok (.invokestatic 131, 3) := by decide +kernel
theorem dX10_bears_15 : decode cX10_bears 15 = .ok (.ifCond .eq 15, 3) := by decide +kernel
theorem dX10_bears_18 : decode cX10_bears 18 = .ok (.aload_n 0, 1) := by decide +kernel
theorem dX10_bears_19 : decode cX10_bears 19 = .ok (.getfield 12, 3) := by decide +kernel
theorem dX10_bears_22 : decode cX10_bears 22 = .ok (.iload_n 1, 1) := by decide +kernel
theorem dX10_bears_23 : decode cX10_bears 23 = .ok (.iload_n 2, 1) := by decide +kernel
theorem dX10_bears_24 : decode cX10_bears 24 = .ok (.invokevirtual 179, 3) := by decide +kernel
theorem dX10_bears_27 : decode cX10_bears 27 = .ok (.goto 4, 3) := by decide +kernel
theorem dX10_bears_30 : decode cX10_bears 30 = .ok (.iconst (-1), 1) := by decide +kernel
theorem dX10_bears_31 : decode cX10_bears 31 = .ok (.ireturn, 1) := by decide +kernel
theorem dX10_basket_0 : decode cX10_basket 0 = .ok (.iload_n 1, 1) := by decide +kernel
theorem dX10_basket_1 : decode cX10_basket 1 = .ok (.invokestatic 131, 3) := by decide +kernel
theorem dX10_basket_4 : decode cX10_basket 4 = .ok (.ifCond .eq 12, 3) := by decide +kernel
theorem dX10_basket_7 : decode cX10_basket 7 = .ok (.iload_n 2, 1) := by decide +kernel
theorem dX10_basket_8 : decode cX10_basket 8 = .ok (.iconst 0, 1) := by decide +kernel
theorem dX10_basket_9 : decode cX10_basket 9 = .ok (.iconst 1, 1) := by decide +kernel
theorem dX10_basket_10 : decode cX10_basket 10 = .ok (.invokestatic 76, 3) := by decide +kernel
theorem dX10_basket_13 : decode cX10_basket 13 = .ok (.ifCond .ne 5, 3) := by decide +kernel
theorem dX10_basket_16 : decode cX10_basket 16 = .ok (.iconst (-1), 1) := by decide +kernel
theorem dX10_basket_17 : decode cX10_basket 17 = .ok (.ireturn, 1) := by decide +kernel
theorem dX10_basket_18 : decode cX10_basket 18 = .ok (.iload_n 2, 1) := by decide +kernel
theorem dX10_basket_19 : decode cX10_basket 19 = .ok (.ifCond .ne 14, 3) := by decide +kernel
theorem dX10_basket_22 : decode cX10_basket 22 = .ok (.aload_n 0, 1) := by decide +kernel
theorem dX10_basket_23 : decode cX10_basket 23 = .ok (.getfield 12, 3) := by decide +kernel
theorem dX10_basket_26 : decode cX10_basket 26 = .ok (.iload_n 1, 1) := by decide +kernel
theorem dX10_basket_27 : decode cX10_basket 27 = .ok (.invokevirtual 183, 3) := by decide +kernel
theorem dX10_basket_30 : decode cX10_basket 30 = .ok (.goto 11, 3) := by decide +kernel
theorem dX10_basket_33 : decode cX10_basket 33 = .ok (.aload_n 0, 1) := by decide +kernel
theorem dX10_basket_34 : decode cX10_basket 34 = .ok (.getfield 12, 3) := by decide +kernel
theorem dX10_basket_37 : decode cX10_basket 37 = .ok (.iload_n 1, 1) := by decide +kernel
theorem dX10_basket_38 : decode cX10_basket 38 = .ok (.invokevirtual 186, 3) := by decide +kernel
theorem dX10_basket_41 : decode cX10_basket 41 = .ok (.ireturn, 1) := by decide +kernel
theorem dX10_value_0 : decode cX10_value 0 = .ok (.iload_n 1, 1) := by decide +kernel
theorem dX10_value_1 : decode cX10_value 1 = .ok (.iconst 0, 1) := by decide +kernel
theorem dX10_value_2 : decode cX10_value 2 = .ok (.iconst 1, 1) := by decide +kernel
theorem dX10_value_3 : decode cX10_value 3 = .ok (.invokestatic 76, 3) := by decide +kernel
theorem dX10_value_6 : decode cX10_value 6 = .ok (.ifCond .ne 6, 3) := by decide +kernel
theorem dX10_value_9 : decode cX10_value 9 = .ok (.ldc 134, 2) := by decide +kernel
theorem dX10_value_11 : decode cX10_value 11 = .ok (.ireturn, 1) := by decide +kernel
theorem dX10_value_12 : decode cX10_value 12 = .ok (.iload_n 1, 1) := by decide +kernel
theorem dX10_value_13 : decode cX10_value 13 = .ok (.ifCond .ne 13, 3) := by decide +kernel
theorem dX10_value_16 : decode cX10_value 16 = .ok (.aload_n 0, 1) := by decide +kernel
theorem dX10_value_17 : decode cX10_value 17 = .ok (.getfield 12, 3) := by decide +kernel
theorem dX10_value_20 : decode cX10_value 20 = .ok (.invokevirtual 189, 3) := by decide +kernel
theorem dX10_value_23 : decode cX10_value 23 = .ok (.goto 10, 3) := by decide +kernel
theorem dX10_value_26 : decode cX10_value 26 = .ok (.aload_n 0, 1) := by decide +kernel
theorem dX10_value_27 : decode cX10_value 27 = .ok (.getfield 12, 3) := by decide +kernel
theorem dX10_value_30 : decode cX10_value 30 = .ok (.invokevirtual 192, 3) := by decide +kernel
theorem dX10_value_33 : decode cX10_value 33 = .ok (.ireturn, 1) := by decide +kernel
theorem dX10_year_0 : decode cX10_year 0 = .ok (.aload_n 0, 1) := by decide +kernel
theorem dX10_year_1 : decode cX10_year 1 = .ok (.getfield 12, 3) := by decide +kernel
theorem dX10_year_4 : decode cX10_year 4 = .ok (.getfield 169, 3) := by decide +kernel
theorem dX10_year_7 : decode cX10_year 7 = .ok (.sipush 9999, 3) := by decide +kernel
theorem dX10_year_10 : decode cX10_year 10 = .ok (.if_icmp .lt 8, 3) := by decide +kernel
theorem dX10_year_13 : decode cX10_year 13 = .ok (.bipush (-3), 2) := by decide +kernel
theorem dX10_year_15 : decode cX10_year 15 = .ok (.goto 10, 3) := by decide +kernel
theorem dX10_year_18 : decode cX10_year 18 = .ok (.aload_n 0, 1) := by decide +kernel
theorem dX10_year_19 : decode cX10_year 19 = .ok (.getfield 12, 3) := by decide +kernel
theorem dX10_year_22 : decode cX10_year 22 = .ok (.invokevirtual 195, 3) := by decide +kernel
theorem dX10_year_25 : decode cX10_year 25 = .ok (.ireturn, 1) := by decide +kernel
theorem dX10_seed_0 : decode cX10_seed 0 = .ok (.iload_n 1, 1) := by decide +kernel
theorem dX10_seed_1 : decode cX10_seed 1 = .ok (.ifCond .ge 5, 3) := by decide +kernel
theorem dX10_seed_4 : decode cX10_seed 4 = .ok (.iconst (-1), 1) := by decide +kernel
theorem dX10_seed_5 : decode cX10_seed 5 = .ok (.ireturn, 1) := by decide +kernel
theorem dX10_seed_6 : decode cX10_seed 6 = .ok (.aload_n 0, 1) := by decide +kernel
theorem dX10_seed_7 : decode cX10_seed 7 = .ok (.getfield 12, 3) := by decide +kernel
theorem dX10_seed_10 : decode cX10_seed 10 = .ok (.getfield 198, 3) := by decide +kernel
theorem dX10_seed_13 : decode cX10_seed 13 = .ok (.istore_n 2, 1) := by decide +kernel
theorem dX10_seed_14 : decode cX10_seed 14 = .ok (.aload_n 0, 1) := by decide +kernel
theorem dX10_seed_15 : decode cX10_seed 15 = .ok (.getfield 12, 3) := by decide +kernel
theorem dX10_seed_18 : decode cX10_seed 18 = .ok (.iload_n 1, 1) := by decide +kernel
theorem dX10_seed_19 : decode cX10_seed 19 = .ok (.putfield 198, 3) := by decide +kernel
theorem dX10_seed_22 : decode cX10_seed 22 = .ok (.iload_n 2, 1) := by decide +kernel
theorem dX10_seed_23 : decode cX10_seed 23 = .ok (.ireturn, 1) := by decide +kernel
theorem dX10_best_0 : decode cX10_best 0 = .ok (.iload_n 1, 1) := by decide +kernel
theorem dX10_best_1 : decode cX10_best 1 = .ok (.iconst (-1), 1) := by decide +kernel
theorem dX10_best_2 : decode cX10_best 2 = .ok (.if_icmp .eq 17, 3) := by decide +kernel
theorem dX10_best_5 : decode cX10_best 5 = .ok (.aload_n 0, 1) := by decide +kernel
theorem dX10_best_6 : decode cX10_best 6 = .ok (.getfield 12, 3) := by decide +kernel
theorem dX10_best_9 : decode cX10_best 9 = .ok (.iload_n 1, 1) := by decide +kernel
theorem dX10_best_10 : decode cX10_best 10 = .ok (.invokevirtual 88, 3) := by decide +kernel
theorem dX10_best_13 : decode cX10_best 13 = .ok (.ifCond .ne 6, 3) := by decide +kernel
theorem dX10_best_16 : decode cX10_best 16 = .ok (.ldc 134, 2) := by decide +kernel
theorem dX10_best_18 : decode cX10_best 18 = .ok (.ireturn, 1) := by decide +kernel
theorem dX10_best_19 : decode cX10_best 19 = .ok (.aload_n 0, 1) := by decide +kernel
theorem dX10_best_20 : decode cX10_best 20 = .ok (.getfield 35, 3) := by decide +kernel
theorem dX10_best_23 : decode cX10_best 23 = .ok (.aload_n 0, 1) := by decide +kernel
theorem dX10_best_24 : decode cX10_best 24 = .ok (.getfield 12, 3) := by decide +kernel
theorem dX10_best_27 : decode cX10_best 27 = .ok (.invokevirtual 201, 3) := by decide +kernel
theorem dX10_best_30 : decode cX10_best 30 = .ok (.aload_n 0, 1) := by decide +kernel
theorem dX10_best_31 : decode cX10_best 31 = .ok (.getfield 44, 3) := by decide +kernel
theorem dX10_best_34 : decode cX10_best 34 = .ok (.aload_n 0, 1) := by decide +kernel
theorem dX10_best_35 : decode cX10_best 35 = .ok (.getfield 35, 3) := by decide +kernel
theorem dX10_best_38 : decode cX10_best 38 = .ok (.getfield 204, 3) := by decide +kernel
theorem dX10_best_41 : decode cX10_best 41 = .ok (.iconst 0, 1) := by decide +kernel
theorem dX10_best_42 : decode cX10_best 42 = .ok (.invokevirtual 207, 3) := by decide +kernel
theorem dX10_best_45 : decode cX10_best 45 = .ok (.istore_n 2, 1) := by decide +kernel
theorem dX10_best_46 : decode cX10_best 46 = .ok (.iload_n 1, 1) := by decide +kernel
theorem dX10_best_47 : decode cX10_best 47 = .ok (.iconst (-1), 1) := by decide +kernel
theorem dX10_best_48 : decode cX10_best 48 = .ok (.if_icmp .ne 5, 3) := by decide +kernel
theorem dX10_best_51 : decode cX10_best 51 = .ok (.iload_n 2, 1) := by decide +kernel
theorem dX10_best_52 : decode cX10_best 52 = .ok (.ireturn, 1) := by decide +kernel
theorem dX10_best_53 : decode cX10_best 53 = .ok (.aload_n 0, 1) := by decide +kernel
theorem dX10_best_54 : decode cX10_best 54 = .ok (.getfield 44, 3) := by decide +kernel
theorem dX10_best_57 : decode cX10_best 57 = .ok (.invokevirtual 210, 3) := by decide +kernel
theorem dX10_best_60 : decode cX10_best 60 = .ok (.aload_n 0, 1) := by decide +kernel
theorem dX10_best_61 : decode cX10_best 61 = .ok (.getfield 44, 3) := by decide +kernel
theorem dX10_best_64 : decode cX10_best 64 = .ok (.getfield 213, 3) := by decide +kernel
theorem dX10_best_67 : decode cX10_best 67 = .ok (.iload_n 1, 1) := by decide +kernel
theorem dX10_best_68 : decode cX10_best 68 = .ok (.iaload, 1) := by decide +kernel
theorem dX10_best_69 : decode cX10_best 69 = .ok (.ireturn, 1) := by decide +kernel
theorem dX10_worth_0 : decode cX10_worth 0 = .ok (.aload_n 0, 1) := by decide +kernel
theorem dX10_worth_1 : decode cX10_worth 1 = .ok (.getfield 12, 3) := by decide +kernel
theorem dX10_worth_4 : decode cX10_worth 4 = .ok (.iload_n 1, 1) := by decide +kernel
theorem dX10_worth_5 : decode cX10_worth 5 = .ok (.invokevirtual 106, 3) := by decide +kernel
theorem dX10_worth_8 : decode cX10_worth 8 = .ok (.ifCond .ne 6, 3) := by decide +kernel
theorem dX10_worth_11 : decode cX10_worth 11 = .ok (.ldc 134, 2) := by decide +kernel
theorem dX10_worth_13 : decode cX10_worth 13 = .ok (.ireturn, 1) := by decide +kernel
theorem dX10_worth_14 : decode cX10_worth 14 = .ok (.aload_n 0, 1) := by decide +kernel
theorem dX10_worth_15 : decode cX10_worth 15 = .ok (.getfield 35, 3) := by decide +kernel
theorem dX10_worth_18 : decode cX10_worth 18 = .ok (.aload_n 0, 1) := by decide +kernel
theorem dX10_worth_19 : decode cX10_worth 19 = .ok (.getfield 12, 3) := by decide +kernel
theorem dX10_worth_22 : decode cX10_worth 22 = .ok (.invokevirtual 201, 3) := by decide +kernel
theorem dX10_worth_25 : decode cX10_worth 25 = .ok (.aload_n 0, 1) := by decide +kernel
theorem dX10_worth_26 : decode cX10_worth 26 = .ok (.getfield 44, 3) := by decide +kernel
theorem dX10_worth_29 : decode cX10_worth 29 = .ok (.aload_n 0, 1) := by decide +kernel
theorem dX10_worth_30 : decode cX10_worth 30 = .ok (.getfield 35, 3) := by decide +kernel
theorem dX10_worth_33 : decode cX10_worth 33 = .ok (.getfield 204, 3) := by decide +kernel
theorem dX10_worth_36 : decode cX10_worth 36 = .ok (.iconst 0, 1) := by decide +kernel
theorem dX10_worth_37 : decode cX10_worth 37 = .ok (.invokevirtual 207, 3) := by decide +kernel
theorem dX10_worth_40 : decode cX10_worth 40 = .ok (.aload_n 0, 1) := by decide +kernel
theorem dX10_worth_41 : decode cX10_worth 41 = .ok (.getfield 44, 3) := by decide +kernel
theorem dX10_worth_44 : decode cX10_worth 44 = .ok (.aload_n 0, 1) := by decide +kernel
theorem dX10_worth_45 : decode cX10_worth 45 = .ok (.getfield 35, 3) := by decide +kernel
theorem dX10_worth_48 : decode cX10_worth 48 = .ok (.getfield 204, 3) := by decide +kernel
theorem dX10_worth_51 : decode cX10_worth 51 = .ok (.iconst 1, 1) := by decide +kernel
theorem dX10_worth_52 : decode cX10_worth 52 = .ok (.iload_n 1, 1) := by decide +kernel
theorem dX10_worth_53 : decode cX10_worth 53 = .ok (.ishl, 1) := by decide +kernel
theorem dX10_worth_54 : decode cX10_worth 54 = .ok (.iconst (-1), 1) := by decide +kernel
theorem dX10_worth_55 : decode cX10_worth 55 = .ok (.ixor, 1) := by decide +kernel
theorem dX10_worth_56 : decode cX10_worth 56 = .ok (.iand, 1) := by decide +kernel
theorem dX10_worth_57 : decode cX10_worth 57 = .ok (.iconst 0, 1) := by decide +kernel
theorem dX10_worth_58 : decode cX10_worth 58 = .ok (.invokevirtual 207, 3) := by decide +kernel
theorem dX10_worth_61 : decode cX10_worth 61 = .ok (.isub, 1) := by decide +kernel
theorem dX10_worth_62 : decode cX10_worth 62 = .ok (.ireturn, 1) := by decide +kernel
theorem dX10_game_0 : decode cX10_game 0 = .ok (.aload_n 0, 1) := by decide +kernel
theorem dX10_game_1 : decode cX10_game 1 = .ok (.getfield 12, 3) := by decide +kernel
theorem dX10_game_4 : decode cX10_game 4 = .ok (.iload_n 1, 1) := by decide +kernel
theorem dX10_game_5 : decode cX10_game 5 = .ok (.invokevirtual 138, 3) := by decide +kernel
theorem dX10_game_8 : decode cX10_game 8 = .ok (.ifCond .ne 6, 3) := by decide +kernel
theorem dX10_game_11 : decode cX10_game 11 = .ok (.ldc 134, 2) := by decide +kernel
theorem dX10_game_13 : decode cX10_game 13 = .ok (.ireturn, 1) := by decide +kernel
theorem dX10_game_14 : decode cX10_game 14 = .ok (.aload_n 0, 1) := by decide +kernel
theorem dX10_game_15 : decode cX10_game 15 = .ok (.getfield 35, 3) := by decide +kernel
theorem dX10_game_18 : decode cX10_game 18 = .ok (.aload_n 0, 1) := by decide +kernel
theorem dX10_game_19 : decode cX10_game 19 = .ok (.getfield 12, 3) := by decide +kernel
theorem dX10_game_22 : decode cX10_game 22 = .ok (.invokevirtual 201, 3) := by decide +kernel
theorem dX10_game_25 : decode cX10_game 25 = .ok (.aload_n 0, 1) := by decide +kernel
theorem dX10_game_26 : decode cX10_game 26 = .ok (.getfield 58, 3) := by decide +kernel
theorem dX10_game_29 : decode cX10_game 29 = .ok (.iload_n 1, 1) := by decide +kernel
theorem dX10_game_30 : decode cX10_game 30 = .ok (.invokevirtual 216, 3) := by decide +kernel
theorem dX10_game_33 : decode cX10_game 33 = .ok (.ireturn, 1) := by decide +kernel
theorem dX10_fences_0 : decode cX10_fences 0 = .ok (.aload_n 0, 1) := by decide +kernel
theorem dX10_fences_1 : decode cX10_fences 1 = .ok (.getfield 12, 3) := by decide +kernel
theorem dX10_fences_4 : decode cX10_fences 4 = .ok (.iload_n 1, 1) := by decide +kernel
theorem dX10_fences_5 : decode cX10_fences 5 = .ok (.invokevirtual 138, 3) := by decide +kernel
theorem dX10_fences_8 : decode cX10_fences 8 = .ok (.ifCond .eq 16, 3) := by decide +kernel
theorem dX10_fences_11 : decode cX10_fences 11 = .ok (.iload_n 2, 1) := by decide +kernel
theorem dX10_fences_12 : decode cX10_fences 12 = .ok (.sipush (-9999), 3) := by decide +kernel
theorem dX10_fences_15 : decode cX10_fences 15 = .ok (.sipush 9999, 3) := by decide +kernel
theorem dX10_fences_18 : decode cX10_fences 18 = .ok (.invokestatic 76, 3) := by decide +kernel
theorem dX10_fences_21 : decode cX10_fences 21 = .ok (.ifCond .ne 5, 3) := by decide +kernel
theorem dX10_fences_24 : decode cX10_fences 24 = .ok (.iconst (-1), 1) := by decide +kernel
theorem dX10_fences_25 : decode cX10_fences 25 = .ok (.ireturn, 1) := by decide +kernel
theorem dX10_fences_26 : decode cX10_fences 26 = .ok (.aload_n 0, 1) := by decide +kernel
theorem dX10_fences_27 : decode cX10_fences 27 = .ok (.getfield 35, 3) := by decide +kernel
theorem dX10_fences_30 : decode cX10_fences 30 = .ok (.aload_n 0, 1) := by decide +kernel
theorem dX10_fences_31 : decode cX10_fences 31 = .ok (.getfield 12, 3) := by decide +kernel
theorem dX10_fences_34 : decode cX10_fences 34 = .ok (.invokevirtual 201, 3) := by decide +kernel
theorem dX10_fences_37 : decode cX10_fences 37 = .ok (.aload_n 0, 1) := by decide +kernel
theorem dX10_fences_38 : decode cX10_fences 38 = .ok (.getfield 44, 3) := by decide +kernel
theorem dX10_fences_41 : decode cX10_fences 41 = .ok (.iload_n 1, 1) := by decide +kernel
theorem dX10_fences_42 : decode cX10_fences 42 = .ok (.iload_n 2, 1) := by decide +kernel
theorem dX10_fences_43 : decode cX10_fences 43 = .ok (.invokevirtual 219, 3) := by decide +kernel
theorem dX10_fences_46 : decode cX10_fences 46 = .ok (.ireturn, 1) := by decide +kernel
theorem dX10_upper_0 : decode cX10_upper 0 = .ok (.aload_n 0, 1) := by decide +kernel
theorem dX10_upper_1 : decode cX10_upper 1 = .ok (.getfield 12, 3) := by decide +kernel
theorem dX10_upper_4 : decode cX10_upper 4 = .ok (.invokevirtual 222, 3) := by decide +kernel
theorem dX10_upper_7 : decode cX10_upper 7 = .ok (.istore_n 1, 1) := by decide +kernel
theorem dX10_upper_8 : decode cX10_upper 8 = .ok (.iload_n 1, 1) := by decide +kernel
theorem dX10_upper_9 : decode cX10_upper 9 = .ok (.iload_n 1, 1) := by decide +kernel
theorem dX10_upper_10 : decode cX10_upper 10 = .ok (.invokestatic 225, 3) := by decide +kernel
theorem dX10_upper_13 : decode cX10_upper 13 = .ok (.idiv, 1) := by decide +kernel
theorem dX10_upper_14 : decode cX10_upper 14 = .ok (.ireturn, 1) := by decide +kernel
theorem dX10_lower_0 : decode cX10_lower 0 = .ok (.bipush 10, 2) := by decide +kernel
theorem dX10_lower_2 : decode cX10_lower 2 = .ok (.aload_n 0, 1) := by decide +kernel
theorem dX10_lower_3 : decode cX10_lower 3 = .ok (.getfield 12, 3) := by decide +kernel
theorem dX10_lower_6 : decode cX10_lower 6 = .ok (.invokevirtual 222, 3) := by decide +kernel
theorem dX10_lower_9 : decode cX10_lower 9 = .ok (.invokestatic 225, 3) := by decide +kernel
theorem dX10_lower_12 : decode cX10_lower 12 = .ok (.idiv, 1) := by decide +kernel
theorem dX10_lower_13 : decode cX10_lower 13 = .ok (.ireturn, 1) := by decide +kernel
theorem dX10_send_0 : decode cX10_send 0 = .ok (.aload_n 0, 1) := by decide +kernel
theorem dX10_send_1 : decode cX10_send 1 = .ok (.getfield 35, 3) := by decide +kernel
theorem dX10_send_4 : decode cX10_send 4 = .ok (.aload_n 0, 1) := by decide +kernel
theorem dX10_send_5 : decode cX10_send 5 = .ok (.getfield 12, 3) := by decide +kernel
theorem dX10_send_8 : decode cX10_send 8 = .ok (.invokevirtual 201, 3) := by decide +kernel
theorem dX10_send_11 : decode cX10_send 11 = .ok (.aload_n 0, 1) := by decide +kernel
theorem dX10_send_12 : decode cX10_send 12 = .ok (.getfield 44, 3) := by decide +kernel
theorem dX10_send_15 : decode cX10_send 15 = .ok (.aload_n 0, 1) := by decide +kernel
theorem dX10_send_16 : decode cX10_send 16 = .ok (.getfield 35, 3) := by decide +kernel
theorem dX10_send_19 : decode cX10_send 19 = .ok (.getfield 204, 3) := by decide +kernel
theorem dX10_send_22 : decode cX10_send 22 = .ok (.iconst 0, 1) := by decide +kernel
theorem dX10_send_23 : decode cX10_send 23 = .ok (.invokevirtual 207, 3) := by decide +kernel
theorem dX10_send_26 : decode cX10_send 26 = .ok (.istore_n 1, 1) := by decide +kernel
theorem dX10_send_27 : decode cX10_send 27 = .ok (.aload_n 0, 1) := by decide +kernel
theorem dX10_send_28 : decode cX10_send 28 = .ok (.getfield 44, 3) := by decide +kernel
theorem dX10_send_31 : decode cX10_send 31 = .ok (.invokevirtual 210, 3) := by decide +kernel
theorem dX10_send_34 : decode cX10_send 34 = .ok (.iconst 0, 1) := by decide +kernel
theorem dX10_send_35 : decode cX10_send 35 = .ok (.istore_n 2, 1) := by decide +kernel
theorem dX10_send_36 : decode cX10_send 36 = .ok (.iload_n 2, 1) := by decide +kernel
theorem dX10_send_37 : decode cX10_send 37 = .ok (.aload_n 0, 1) := by decide +kernel
theorem dX10_send_38 : decode cX10_send 38 = .ok (.getfield 12, 3) := by decide +kernel
theorem dX10_send_41 : decode cX10_send 41 = .ok (.getfield 80, 3) := by decide +kernel
theorem dX10_send_44 : decode cX10_send 44 = .ok (.if_icmp .ge 30, 3) := by decide +kernel
theorem dX10_send_47 : decode cX10_send 47 = .ok (.aload_n 0, 1) := by decide +kernel
theorem dX10_send_48 : decode cX10_send 48 = .ok (.getfield 12, 3) := by decide +kernel
theorem dX10_send_51 : decode cX10_send 51 = .ok (.getfield 122, 3) := by decide +kernel
theorem dX10_send_54 : decode cX10_send 54 = .ok (.iload_n 2, 1) := by decide +kernel
theorem dX10_send_55 : decode cX10_send 55 = .ok (.aaload, 1) := by decide +kernel
theorem dX10_send_56 : decode cX10_send 56 = .ok (.aload_n 0, 1) := by decide +kernel
theorem dX10_send_57 : decode cX10_send 57 = .ok (.getfield 44, 3) := by decide +kernel
theorem dX10_send_60 : decode cX10_send 60 = .ok (.getfield 213, 3) := by decide +kernel
theorem dX10_send_63 : decode cX10_send 63 = .ok (.iload_n 2, 1) := by decide +kernel
theorem dX10_send_64 : decode cX10_send 64 = .ok (.iaload, 1) := by decide +kernel
theorem dX10_send_65 : decode cX10_send 65 = .ok (.putfield 141, 3) := by decide +kernel
theorem dX10_send_68 : decode cX10_send 68 = .ok (.iinc 2 1, 3) := by decide +kernel
theorem dX10_send_71 : decode cX10_send 71 = .ok (.goto (-35), 3) := by decide +kernel
theorem dX10_send_74 : decode cX10_send 74 = .ok (.iload_n 1, 1) := by decide +kernel
theorem dX10_send_75 : decode cX10_send 75 = .ok (.ireturn, 1) := by decide +kernel
theorem dX10_image_0 : decode cX10_image 0 = .ok (.aload_n 0, 1) := by decide +kernel
theorem dX10_image_1 : decode cX10_image 1 = .ok (.getfield 16, 3) := by decide +kernel
theorem dX10_image_4 : decode cX10_image 4 = .ok (.aload_n 0, 1) := by decide +kernel
theorem dX10_image_5 : decode cX10_image 5 = .ok (.getfield 12, 3) := by decide +kernel
theorem dX10_image_8 : decode cX10_image 8 = .ok (.invokevirtual 228, 3) := by decide +kernel
theorem dX10_image_11 : decode cX10_image 11 = .ok (.aload_n 0, 1) := by decide +kernel
theorem dX10_image_12 : decode cX10_image 12 = .ok (.iconst 1, 1) := by decide +kernel
theorem dX10_image_13 : decode cX10_image 13 = .ok (.putfield 231, 3) := by decide +kernel
theorem dX10_image_16 : decode cX10_image 16 = .ok (.iconst 1, 1) := by decide +kernel
theorem dX10_image_17 : decode cX10_image 17 = .ok (.ireturn, 1) := by decide +kernel
theorem dX10_restore_0 : decode cX10_restore 0 = .ok (.aload_n 0, 1) := by decide +kernel
theorem dX10_restore_1 : decode cX10_restore 1 = .ok (.getfield 231, 3) := by decide +kernel
theorem dX10_restore_4 : decode cX10_restore 4 = .ok (.ifCond .ne 6, 3) := by decide +kernel
theorem dX10_restore_7 : decode cX10_restore 7 = .ok (.bipush (-4), 2) := by decide +kernel
theorem dX10_restore_9 : decode cX10_restore 9 = .ok (.ireturn, 1) := by decide +kernel
theorem dX10_restore_10 : decode cX10_restore 10 = .ok (.aload_n 0, 1) := by decide +kernel
theorem dX10_restore_11 : decode cX10_restore 11 = .ok (.getfield 12, 3) := by decide +kernel
theorem dX10_restore_14 : decode cX10_restore 14 = .ok (.aload_n 0, 1) := by decide +kernel
theorem dX10_restore_15 : decode cX10_restore 15 = .ok (.getfield 16, 3) := by decide +kernel
theorem dX10_restore_18 : decode cX10_restore 18 = .ok (.invokevirtual 228, 3) := by decide +kernel
theorem dX10_restore_21 : decode cX10_restore 21 = .ok (.iconst 1, 1) := by decide +kernel
theorem dX10_restore_22 : decode cX10_restore 22 = .ok (.ireturn, 1) := by decide +kernel
theorem dX10_hired_0 : decode cX10_hired 0 = .ok (.iload_n 1, 1) := by decide +kernel
theorem dX10_hired_1 : decode cX10_hired 1 = .ok (.invokestatic 235, 3) := by decide +kernel
theorem dX10_hired_4 : decode cX10_hired 4 = .ok (.ifCond .eq 28, 3) := by decide +kernel
theorem dX10_hired_7 : decode cX10_hired 7 = .ok (.iload_n 2, 1) := by decide +kernel
theorem dX10_hired_8 : decode cX10_hired 8 = .ok (.invokestatic 238, 3) := by decide +kernel
theorem dX10_hired_11 : decode cX10_hired 11 = .ok (.ifCond .eq 21, 3) := by decide +kernel
theorem dX10_hired_14 : decode cX10_hired 14 = .ok (.iload 4, 2) := by decide +kernel
theorem dX10_hired_16 : decode cX10_hired 16 = .ok (.iconst (-1), 1) := by decide +kernel
theorem dX10_hired_17 : decode cX10_hired 17 = .ok (.if_icmp .eq 17, 3) := by decide +kernel
theorem dX10_hired_20 : decode cX10_hired 20 = .ok (.aload_n 0, 1) := by decide +kernel
theorem dX10_hired_21 : decode cX10_hired 21 = .ok (.getfield 12, 3) := by decide +kernel
theorem dX10_hired_24 : decode cX10_hired 24 = .ok (.iload 4, 2) := by decide +kernel
theorem dX10_hired_26 : decode cX10_hired 26 = .ok (.invokevirtual 88, 3) := by decide +kernel
theorem dX10_hired_29 : decode cX10_hired 29 = .ok (.ifCond .ne 5, 3) := by decide +kernel
theorem dX10_hired_32 : decode cX10_hired 32 = .ok (.iconst (-1), 1) := by decide +kernel
theorem dX10_hired_33 : decode cX10_hired 33 = .ok (.ireturn, 1) := by decide +kernel
theorem dX10_hired_34 : decode cX10_hired 34 = .ok (.aload_n 0, 1) := by decide +kernel
theorem dX10_hired_35 : decode cX10_hired 35 = .ok (.iload_n 1, 1) := by decide +kernel
theorem dX10_hired_36 : decode cX10_hired 36 = .ok (.iload_n 2, 1) := by decide +kernel
theorem dX10_hired_37 : decode cX10_hired 37 = .ok (.iload_n 3, 1) := by decide +kernel
theorem dX10_hired_38 : decode cX10_hired 38 = .ok (.bipush 10, 2) := by decide +kernel
theorem dX10_hired_40 : decode cX10_hired 40 = .ok (.invokevirtual 241, 3) := by decide +kernel
theorem dX10_hired_43 : decode cX10_hired 43 = .ok (.istore 5, 2) := by decide +kernel
theorem dX10_hired_45 : decode cX10_hired 45 = .ok (.iload 5, 2) := by decide +kernel
theorem dX10_hired_47 : decode cX10_hired 47 = .ok (.ifCond .eq 6, 3) := by decide +kernel
theorem dX10_hired_50 : decode cX10_hired 50 = .ok (.iload 5, 2) := by decide +kernel
theorem dX10_hired_52 : decode cX10_hired 52 = .ok (.ireturn, 1) := by decide +kernel
theorem dX10_hired_53 : decode cX10_hired 53 = .ok (.aload_n 0, 1) := by decide +kernel
theorem dX10_hired_54 : decode cX10_hired 54 = .ok (.getfield 35, 3) := by decide +kernel
theorem dX10_hired_57 : decode cX10_hired 57 = .ok (.aload_n 0, 1) := by decide +kernel
theorem dX10_hired_58 : decode cX10_hired 58 = .ok (.getfield 12, 3) := by decide +kernel
theorem dX10_hired_61 : decode cX10_hired 61 = .ok (.invokevirtual 201, 3) := by decide +kernel
theorem dX10_hired_64 : decode cX10_hired 64 = .ok (.aload_n 0, 1) := by decide +kernel
theorem dX10_hired_65 : decode cX10_hired 65 = .ok (.getfield 51, 3) := by decide +kernel
theorem dX10_hired_68 : decode cX10_hired 68 = .ok (.aload_n 0, 1) := by decide +kernel
theorem dX10_hired_69 : decode cX10_hired 69 = .ok (.getfield 28, 3) := by decide +kernel
theorem dX10_hired_72 : decode cX10_hired 72 = .ok (.iload_n 1, 1) := by decide +kernel
theorem dX10_hired_73 : decode cX10_hired 73 = .ok (.aaload, 1) := by decide +kernel
theorem dX10_hired_74 : decode cX10_hired 74 = .ok (.iload_n 3, 1) := by decide +kernel
theorem dX10_hired_75 : decode cX10_hired 75 = .ok (.invokevirtual 244, 3) := by decide +kernel
theorem dX10_hired_78 : decode cX10_hired 78 = .ok (.aload_n 0, 1) := by decide +kernel
theorem dX10_hired_79 : decode cX10_hired 79 = .ok (.getfield 51, 3) := by decide +kernel
theorem dX10_hired_82 : decode cX10_hired 82 = .ok (.invokevirtual 248, 3) := by decide +kernel
theorem dX10_hired_85 : decode cX10_hired 85 = .ok (.ifCond .ne 6, 3) := by decide +kernel
theorem dX10_hired_88 : decode cX10_hired 88 = .ok (.bipush (-4), 2) := by decide +kernel
theorem dX10_hired_90 : decode cX10_hired 90 = .ok (.ireturn, 1) := by decide +kernel
theorem dX10_hired_91 : decode cX10_hired 91 = .ok (.iload 4, 2) := by decide +kernel
theorem dX10_hired_93 : decode cX10_hired 93 = .ok (.iconst (-1), 1) := by decide +kernel
theorem dX10_hired_94 : decode cX10_hired 94 = .ok (.if_icmp .ne 13, 3) := by decide +kernel
theorem dX10_hired_97 : decode cX10_hired 97 = .ok (.aload_n 0, 1) := by decide +kernel
theorem dX10_hired_98 : decode cX10_hired 98 = .ok (.getfield 51, 3) := by decide +kernel
theorem dX10_hired_101 : decode cX10_hired 101 = .ok (.getfield 252, 3) := by decide +kernel
theorem dX10_hired_104 : decode cX10_hired 104 = .ok (.goto 13, 3) := by decide +kernel
theorem dX10_hired_107 : decode cX10_hired 107 = .ok (.aload_n 0, 1) := by decide +kernel
theorem dX10_hired_108 : decode cX10_hired 108 = .ok (.getfield 51, 3) := by decide +kernel
theorem dX10_hired_111 : decode cX10_hired 111 = .ok (.getfield 255, 3) := by decide +kernel
theorem dX10_hired_114 : decode cX10_hired 114 = .ok (.iload 4, 2) := by decide +kernel
theorem dX10_hired_116 : decode cX10_hired 116 = .ok (.iaload, 1) := by decide +kernel
theorem dX10_hired_117 : decode cX10_hired 117 = .ok (.ireturn, 1) := by decide +kernel
theorem dX10_night_0 : decode cX10_night 0 = .ok (.iload_n 1, 1) := by decide +kernel
theorem dX10_night_1 : decode cX10_night 1 = .ok (.invokestatic 235, 3) := by decide +kernel
theorem dX10_night_4 : decode cX10_night 4 = .ok (.ifCond .eq 20, 3) := by decide +kernel
theorem dX10_night_7 : decode cX10_night 7 = .ok (.iload_n 2, 1) := by decide +kernel
theorem dX10_night_8 : decode cX10_night 8 = .ok (.invokestatic 238, 3) := by decide +kernel
theorem dX10_night_11 : decode cX10_night 11 = .ok (.ifCond .eq 13, 3) := by decide +kernel
theorem dX10_night_14 : decode cX10_night 14 = .ok (.iload 4, 2) := by decide +kernel
theorem dX10_night_16 : decode cX10_night 16 = .ok (.iconst 0, 1) := by decide +kernel
theorem dX10_night_17 : decode cX10_night 17 = .ok (.iconst 1, 1) := by decide +kernel
theorem dX10_night_18 : decode cX10_night 18 = .ok (.invokestatic 76, 3) := by decide +kernel
theorem dX10_night_21 : decode cX10_night 21 = .ok (.ifCond .ne 5, 3) := by decide +kernel
theorem dX10_night_24 : decode cX10_night 24 = .ok (.iconst (-1), 1) := by decide +kernel
theorem dX10_night_25 : decode cX10_night 25 = .ok (.ireturn, 1) := by decide +kernel
theorem dX10_night_26 : decode cX10_night 26 = .ok (.aload_n 0, 1) := by decide +kernel
theorem dX10_night_27 : decode cX10_night 27 = .ok (.iload_n 1, 1) := by decide +kernel
theorem dX10_night_28 : decode cX10_night 28 = .ok (.iload_n 2, 1) := by decide +kernel
theorem dX10_night_29 : decode cX10_night 29 = .ok (.iload_n 3, 1) := by decide +kernel
theorem dX10_night_30 : decode cX10_night 30 = .ok (.aload_n 0, 1) := by decide +kernel
theorem dX10_night_31 : decode cX10_night 31 = .ok (.getfield 12, 3) := by decide +kernel
theorem dX10_night_34 : decode cX10_night 34 = .ok (.getfield 80, 3) := by decide +kernel
theorem dX10_night_37 : decode cX10_night 37 = .ok (.invokevirtual 241, 3) := by decide +kernel
theorem dX10_night_40 : decode cX10_night 40 = .ok (.istore 5, 2) := by decide +kernel
theorem dX10_night_42 : decode cX10_night 42 = .ok (.iload 5, 2) := by decide +kernel
theorem dX10_night_44 : decode cX10_night 44 = .ok (.ifCond .eq 6, 3) := by decide +kernel
theorem dX10_night_47 : decode cX10_night 47 = .ok (.iload 5, 2) := by decide +kernel
theorem dX10_night_49 : decode cX10_night 49 = .ok (.ireturn, 1) := by decide +kernel
theorem dX10_night_50 : decode cX10_night 50 = .ok (.iconst 0, 1) := by decide +kernel
theorem dX10_night_51 : decode cX10_night 51 = .ok (.istore 6, 2) := by decide +kernel
theorem dX10_night_53 : decode cX10_night 53 = .ok (.iload 6, 2) := by decide +kernel
theorem dX10_night_55 : decode cX10_night 55 = .ok (.aload_n 0, 1) := by decide +kernel
theorem dX10_night_56 : decode cX10_night 56 = .ok (.getfield 12, 3) := by decide +kernel
theorem dX10_night_59 : decode cX10_night 59 = .ok (.getfield 80, 3) := by decide +kernel
theorem dX10_night_62 : decode cX10_night 62 = .ok (.if_icmp .ge 31, 3) := by decide +kernel
theorem dX10_night_65 : decode cX10_night 65 = .ok (.aload_n 0, 1) := by decide +kernel
theorem dX10_night_66 : decode cX10_night 66 = .ok (.getfield 71, 3) := by decide +kernel
theorem dX10_night_69 : decode cX10_night 69 = .ok (.iload 6, 2) := by decide +kernel
theorem dX10_night_71 : decode cX10_night 71 = .ok (.aload_n 0, 1) := by decide +kernel
theorem dX10_night_72 : decode cX10_night 72 = .ok (.getfield 28, 3) := by decide +kernel
theorem dX10_night_75 : decode cX10_night 75 = .ok (.iload_n 1, 1) := by decide +kernel
theorem dX10_night_76 : decode cX10_night 76 = .ok (.aaload, 1) := by decide +kernel
theorem dX10_night_77 : decode cX10_night 77 = .ok (.iload_n 3, 1) := by decide +kernel
theorem dX10_night_78 : decode cX10_night 78 = .ok (.iload 6, 2) := by decide +kernel
theorem dX10_night_80 : decode cX10_night 80 = .ok (.iadd, 1) := by decide +kernel
theorem dX10_night_81 : decode cX10_night 81 = .ok (.bipush 10, 2) := by decide +kernel
theorem dX10_night_83 : decode cX10_night 83 = .ok (.invokevirtual 258, 3) := by decide +kernel
theorem dX10_night_86 : decode cX10_night 86 = .ok (.iastore, 1) := by decide +kernel
theorem dX10_night_87 : decode cX10_night 87 = .ok (.iinc 6 1, 3) := by decide +kernel
theorem dX10_night_90 : decode cX10_night 90 = .ok (.goto (-37), 3) := by decide +kernel
theorem dX10_night_93 : decode cX10_night 93 = .ok (.aload_n 0, 1) := by decide +kernel
theorem dX10_night_94 : decode cX10_night 94 = .ok (.getfield 35, 3) := by decide +kernel
theorem dX10_night_97 : decode cX10_night 97 = .ok (.aload_n 0, 1) := by decide +kernel
theorem dX10_night_98 : decode cX10_night 98 = .ok (.getfield 12, 3) := by decide +kernel
theorem dX10_night_101 : decode cX10_night 101 = .ok (.invokevirtual 201, 3) := by decide +kernel
theorem dX10_night_104 : decode cX10_night 104 = .ok (.aload_n 0, 1) := by decide +kernel
theorem dX10_night_105 : decode cX10_night 105 = .ok (.getfield 44, 3) := by decide +kernel
theorem dX10_night_108 : decode cX10_night 108 = .ok (.aload_n 0, 1) := by decide +kernel
theorem dX10_night_109 : decode cX10_night 109 = .ok (.getfield 71, 3) := by decide +kernel
theorem dX10_night_112 : decode cX10_night 112 = .ok (.invokevirtual 261, 3) := by decide +kernel
theorem dX10_night_115 : decode cX10_night 115 = .ok (.iload 4, 2) := by decide +kernel
theorem dX10_night_117 : decode cX10_night 117 = .ok (.ifCond .ne 11, 3) := by decide +kernel
theorem dX10_night_120 : decode cX10_night 120 = .ok (.aload_n 0, 1) := by decide +kernel
theorem dX10_night_121 : decode cX10_night 121 = .ok (.getfield 44, 3) := by decide +kernel
theorem dX10_night_124 : decode cX10_night 124 = .ok (.getfield 265, 3) := by decide +kernel
theorem dX10_night_127 : decode cX10_night 127 = .ok (.ireturn, 1) := by decide +kernel
theorem dX10_night_128 : decode cX10_night 128 = .ok (.aload_n 0, 1) := by decide +kernel
theorem dX10_night_129 : decode cX10_night 129 = .ok (.getfield 44, 3) := by decide +kernel
theorem dX10_night_132 : decode cX10_night 132 = .ok (.getfield 265, 3) := by decide +kernel
theorem dX10_night_135 : decode cX10_night 135 = .ok (.ifCond .ne 8, 3) := by decide +kernel
theorem dX10_night_138 : decode cX10_night 138 = .ok (.bipush (-4), 2) := by decide +kernel
theorem dX10_night_140 : decode cX10_night 140 = .ok (.goto 10, 3) := by decide +kernel
theorem dX10_night_143 : decode cX10_night 143 = .ok (.aload_n 0, 1) := by decide +kernel
theorem dX10_night_144 : decode cX10_night 144 = .ok (.getfield 44, 3) := by decide +kernel
theorem dX10_night_147 : decode cX10_night 147 = .ok (.getfield 268, 3) := by decide +kernel
theorem dX10_night_150 : decode cX10_night 150 = .ok (.ireturn, 1) := by decide +kernel
theorem dX10_pie_0 : decode cX10_pie 0 = .ok (.iload_n 1, 1) := by decide +kernel
theorem dX10_pie_1 : decode cX10_pie 1 = .ok (.invokestatic 235, 3) := by decide +kernel
theorem dX10_pie_4 : decode cX10_pie 4 = .ok (.ifCond .eq 20, 3) := by decide +kernel
theorem dX10_pie_7 : decode cX10_pie 7 = .ok (.iload_n 2, 1) := by decide +kernel
theorem dX10_pie_8 : decode cX10_pie 8 = .ok (.invokestatic 238, 3) := by decide +kernel
theorem dX10_pie_11 : decode cX10_pie 11 = .ok (.ifCond .eq 13, 3) := by decide +kernel
theorem dX10_pie_14 : decode cX10_pie 14 = .ok (.iload 4, 2) := by decide +kernel
theorem dX10_pie_16 : decode cX10_pie 16 = .ok (.iconst 0, 1) := by decide +kernel
theorem dX10_pie_17 : decode cX10_pie 17 = .ok (.iconst 1, 1) := by decide +kernel
theorem dX10_pie_18 : decode cX10_pie 18 = .ok (.invokestatic 76, 3) := by decide +kernel
theorem dX10_pie_21 : decode cX10_pie 21 = .ok (.ifCond .ne 5, 3) := by decide +kernel
theorem dX10_pie_24 : decode cX10_pie 24 = .ok (.iconst (-1), 1) := by decide +kernel
theorem dX10_pie_25 : decode cX10_pie 25 = .ok (.ireturn, 1) := by decide +kernel
theorem dX10_pie_26 : decode cX10_pie 26 = .ok (.aload_n 0, 1) := by decide +kernel
theorem dX10_pie_27 : decode cX10_pie 27 = .ok (.iload_n 1, 1) := by decide +kernel
theorem dX10_pie_28 : decode cX10_pie 28 = .ok (.iload_n 2, 1) := by decide +kernel
theorem dX10_pie_29 : decode cX10_pie 29 = .ok (.iload_n 3, 1) := by decide +kernel
theorem dX10_pie_30 : decode cX10_pie 30 = .ok (.bipush 10, 2) := by decide +kernel
theorem dX10_pie_32 : decode cX10_pie 32 = .ok (.invokevirtual 241, 3) := by decide +kernel
theorem dX10_pie_35 : decode cX10_pie 35 = .ok (.istore 5, 2) := by decide +kernel
theorem dX10_pie_37 : decode cX10_pie 37 = .ok (.iload 5, 2) := by decide +kernel
theorem dX10_pie_39 : decode cX10_pie 39 = .ok (.ifCond .eq 6, 3) := by decide +kernel
theorem dX10_pie_42 : decode cX10_pie 42 = .ok (.iload 5, 2) := by decide +kernel
theorem dX10_pie_44 : decode cX10_pie 44 = .ok (.ireturn, 1) := by decide +kernel
theorem dX10_pie_45 : decode cX10_pie 45 = .ok (.aload_n 0, 1) := by decide +kernel
theorem dX10_pie_46 : decode cX10_pie 46 = .ok (.getfield 35, 3) := by decide +kernel
theorem dX10_pie_49 : decode cX10_pie 49 = .ok (.aload_n 0, 1) := by decide +kernel
theorem dX10_pie_50 : decode cX10_pie 50 = .ok (.getfield 12, 3) := by decide +kernel
theorem dX10_pie_53 : decode cX10_pie 53 = .ok (.invokevirtual 201, 3) := by decide +kernel
theorem dX10_pie_56 : decode cX10_pie 56 = .ok (.aload_n 0, 1) := by decide +kernel
theorem dX10_pie_57 : decode cX10_pie 57 = .ok (.getfield 51, 3) := by decide +kernel
theorem dX10_pie_60 : decode cX10_pie 60 = .ok (.aload_n 0, 1) := by decide +kernel
theorem dX10_pie_61 : decode cX10_pie 61 = .ok (.getfield 28, 3) := by decide +kernel
theorem dX10_pie_64 : decode cX10_pie 64 = .ok (.iload_n 1, 1) := by decide +kernel
theorem dX10_pie_65 : decode cX10_pie 65 = .ok (.aaload, 1) := by decide +kernel
theorem dX10_pie_66 : decode cX10_pie 66 = .ok (.iload_n 3, 1) := by decide +kernel
theorem dX10_pie_67 : decode cX10_pie 67 = .ok (.invokevirtual 244, 3) := by decide +kernel
theorem dX10_pie_70 : decode cX10_pie 70 = .ok (.aload_n 0, 1) := by decide +kernel
theorem dX10_pie_71 : decode cX10_pie 71 = .ok (.getfield 51, 3) := by decide +kernel
theorem dX10_pie_74 : decode cX10_pie 74 = .ok (.invokevirtual 271, 3) := by decide +kernel
theorem dX10_pie_77 : decode cX10_pie 77 = .ok (.iload 4, 2) := by decide +kernel
theorem dX10_pie_79 : decode cX10_pie 79 = .ok (.ifCond .ne 11, 3) := by decide +kernel
theorem dX10_pie_82 : decode cX10_pie 82 = .ok (.aload_n 0, 1) := by decide +kernel
theorem dX10_pie_83 : decode cX10_pie 83 = .ok (.getfield 51, 3) := by decide +kernel
theorem dX10_pie_86 : decode cX10_pie 86 = .ok (.getfield 274, 3) := by decide +kernel
theorem dX10_pie_89 : decode cX10_pie 89 = .ok (.ireturn, 1) := by decide +kernel
theorem dX10_pie_90 : decode cX10_pie 90 = .ok (.aload_n 0, 1) := by decide +kernel
theorem dX10_pie_91 : decode cX10_pie 91 = .ok (.getfield 51, 3) := by decide +kernel
theorem dX10_pie_94 : decode cX10_pie 94 = .ok (.getfield 274, 3) := by decide +kernel
theorem dX10_pie_97 : decode cX10_pie 97 = .ok (.ifCond .ne 8, 3) := by decide +kernel
theorem dX10_pie_100 : decode cX10_pie 100 = .ok (.bipush (-4), 2) := by decide +kernel
theorem dX10_pie_102 : decode cX10_pie 102 = .ok (.goto 10, 3) := by decide +kernel
theorem dX10_pie_105 : decode cX10_pie 105 = .ok (.aload_n 0, 1) := by decide +kernel
theorem dX10_pie_106 : decode cX10_pie 106 = .ok (.getfield 51, 3) := by decide +kernel
theorem dX10_pie_109 : decode cX10_pie 109 = .ok (.invokevirtual 275, 3) := by decide +kernel
theorem dX10_pie_112 : decode cX10_pie 112 = .ok (.ireturn, 1) := by decide +kernel
theorem dX10_earned_0 : decode cX10_earned 0 = .ok (.iload 5, 2) := by decide +kernel
theorem dX10_earned_2 : decode cX10_earned 2 = .ok (.iconst 0, 1) := by decide +kernel
theorem dX10_earned_3 : decode cX10_earned 3 = .ok (.sipush 200, 3) := by decide +kernel
theorem dX10_earned_6 : decode cX10_earned 6 = .ok (.invokestatic 76, 3) := by decide +kernel
theorem dX10_earned_9 : decode cX10_earned 9 = .ok (.ifCond .ne 6, 3) := by decide +kernel
theorem dX10_earned_12 : decode cX10_earned 12 = .ok (.ldc 134, 2) := by decide +kernel
theorem dX10_earned_14 : decode cX10_earned 14 = .ok (.ireturn, 1) := by decide +kernel
theorem dX10_earned_15 : decode cX10_earned 15 = .ok (.aload_n 0, 1) := by decide +kernel
theorem dX10_earned_16 : decode cX10_earned 16 = .ok (.iload_n 1, 1) := by decide +kernel
theorem dX10_earned_17 : decode cX10_earned 17 = .ok (.iload_n 2, 1) := by decide +kernel
theorem dX10_earned_18 : decode cX10_earned 18 = .ok (.iload_n 3, 1) := by decide +kernel
theorem dX10_earned_19 : decode cX10_earned 19 = .ok (.iload 4, 2) := by decide +kernel
theorem dX10_earned_21 : decode cX10_earned 21 = .ok (.invokevirtual 278, 3) := by decide +kernel
theorem dX10_earned_24 : decode cX10_earned 24 = .ok (.istore 6, 2) := by decide +kernel
theorem dX10_earned_26 : decode cX10_earned 26 = .ok (.iload 6, 2) := by decide +kernel
theorem dX10_earned_28 : decode cX10_earned 28 = .ok (.ifCond .eq 12, 3) := by decide +kernel
theorem dX10_earned_31 : decode cX10_earned 31 = .ok (.iload 6, 2) := by decide +kernel
theorem dX10_earned_33 : decode cX10_earned 33 = .ok (.ldc_w 281, 3) := by decide +kernel
theorem dX10_earned_36 : decode cX10_earned 36 = .ok (.isub, 1) := by decide +kernel
theorem dX10_earned_37 : decode cX10_earned 37 = .ok (.goto 12, 3) := by decide +kernel
theorem dX10_earned_40 : decode cX10_earned 40 = .ok (.aload_n 0, 1) := by decide +kernel
theorem dX10_earned_41 : decode cX10_earned 41 = .ok (.getfield 67, 3) := by decide +kernel
theorem dX10_earned_44 : decode cX10_earned 44 = .ok (.iload 5, 2) := by decide +kernel
theorem dX10_earned_46 : decode cX10_earned 46 = .ok (.invokevirtual 282, 3) := by decide +kernel
theorem dX10_earned_49 : decode cX10_earned 49 = .ok (.ireturn, 1) := by decide +kernel
theorem dX10_again_0 : decode cX10_again 0 = .ok (.iload 5, 2) := by decide +kernel
theorem dX10_again_2 : decode cX10_again 2 = .ok (.iconst 0, 1) := by decide +kernel
theorem dX10_again_3 : decode cX10_again 3 = .ok (.iconst 1, 1) := by decide +kernel
theorem dX10_again_4 : decode cX10_again 4 = .ok (.invokestatic 76, 3) := by decide +kernel
theorem dX10_again_7 : decode cX10_again 7 = .ok (.ifCond .ne 5, 3) := by decide +kernel
theorem dX10_again_10 : decode cX10_again 10 = .ok (.iconst (-1), 1) := by decide +kernel
theorem dX10_again_11 : decode cX10_again 11 = .ok (.ireturn, 1) := by decide +kernel
theorem dX10_again_12 : decode cX10_again 12 = .ok (.aload_n 0, 1) := by decide +kernel
theorem dX10_again_13 : decode cX10_again 13 = .ok (.iload_n 1, 1) := by decide +kernel
theorem dX10_again_14 : decode cX10_again 14 = .ok (.iload_n 2, 1) := by decide +kernel
theorem dX10_again_15 : decode cX10_again 15 = .ok (.iload_n 3, 1) := by decide +kernel
theorem dX10_again_16 : decode cX10_again 16 = .ok (.iload 4, 2) := by decide +kernel
theorem dX10_again_18 : decode cX10_again 18 = .ok (.invokevirtual 278, 3) := by decide +kernel
theorem dX10_again_21 : decode cX10_again 21 = .ok (.istore 6, 2) := by decide +kernel
theorem dX10_again_23 : decode cX10_again 23 = .ok (.iload 6, 2) := by decide +kernel
theorem dX10_again_25 : decode cX10_again 25 = .ok (.ifCond .eq 6, 3) := by decide +kernel
theorem dX10_again_28 : decode cX10_again 28 = .ok (.iload 6, 2) := by decide +kernel
theorem dX10_again_30 : decode cX10_again 30 = .ok (.ireturn, 1) := by decide +kernel
theorem dX10_again_31 : decode cX10_again 31 = .ok (.aload_n 0, 1) := by decide +kernel
theorem dX10_again_32 : decode cX10_again 32 = .ok (.getfield 67, 3) := by decide +kernel
theorem dX10_again_35 : decode cX10_again 35 = .ok (.invokevirtual 285, 3) := by decide +kernel
theorem dX10_again_38 : decode cX10_again 38 = .ok (.ifCond .ne 6, 3) := by decide +kernel
theorem dX10_again_41 : decode cX10_again 41 = .ok (.bipush (-4), 2) := by decide +kernel
theorem dX10_again_43 : decode cX10_again 43 = .ok (.ireturn, 1) := by decide +kernel
theorem dX10_again_44 : decode cX10_again 44 = .ok (.iload 5, 2) := by decide +kernel
theorem dX10_again_46 : decode cX10_again 46 = .ok (.ifCond .ne 13, 3) := by decide +kernel
theorem dX10_again_49 : decode cX10_again 49 = .ok (.aload_n 0, 1) := by decide +kernel
theorem dX10_again_50 : decode cX10_again 50 = .ok (.getfield 67, 3) := by decide +kernel
theorem dX10_again_53 : decode cX10_again 53 = .ok (.getfield 288, 3) := by decide +kernel
theorem dX10_again_56 : decode cX10_again 56 = .ok (.goto 10, 3) := by decide +kernel
theorem dX10_again_59 : decode cX10_again 59 = .ok (.aload_n 0, 1) := by decide +kernel
theorem dX10_again_60 : decode cX10_again 60 = .ok (.getfield 67, 3) := by decide +kernel
theorem dX10_again_63 : decode cX10_again 63 = .ok (.getfield 291, 3) := by decide +kernel
theorem dX10_again_66 : decode cX10_again 66 = .ok (.ireturn, 1) := by decide +kernel
theorem dX10_film_0 : decode cX10_film 0 = .ok (.iload_n 1, 1) := by decide +kernel
theorem dX10_film_1 : decode cX10_film 1 = .ok (.invokestatic 235, 3) := by decide +kernel
theorem dX10_film_4 : decode cX10_film 4 = .ok (.ifCond .eq 10, 3) := by decide +kernel
theorem dX10_film_7 : decode cX10_film 7 = .ok (.iload_n 2, 1) := by decide +kernel
theorem dX10_film_8 : decode cX10_film 8 = .ok (.invokestatic 238, 3) := by decide +kernel
theorem dX10_film_11 : decode cX10_film 11 = .ok (.ifCond .ne 5, 3) := by decide +kernel
theorem dX10_film_14 : decode cX10_film 14 = .ok (.iconst (-1), 1) := by decide +kernel
theorem dX10_film_15 : decode cX10_film 15 = .ok (.ireturn, 1) := by decide +kernel
theorem dX10_film_16 : decode cX10_film 16 = .ok (.aload_n 0, 1) := by decide +kernel
theorem dX10_film_17 : decode cX10_film 17 = .ok (.iload_n 1, 1) := by decide +kernel
theorem dX10_film_18 : decode cX10_film 18 = .ok (.iload_n 2, 1) := by decide +kernel
theorem dX10_film_19 : decode cX10_film 19 = .ok (.iload_n 3, 1) := by decide +kernel
end
section
theorem dX10_film_20 : decode cX10_film 20 = .ok (.bipush 10, 2) := by decide +kernel
theorem dX10_film_22 : decode cX10_film 22 = .ok (.invokevirtual 241, 3) := by decide +kernel
theorem dX10_film_25 : decode cX10_film 25 = .ok (.istore 4, 2) := by decide +kernel
theorem dX10_film_27 : decode cX10_film 27 = .ok (.iload 4, 2) := by decide +kernel
theorem dX10_film_29 : decode cX10_film 29 = .ok (.ifCond .eq 6, 3) := by decide +kernel
theorem dX10_film_32 : decode cX10_film 32 = .ok (.iload 4, 2) := by decide +kernel
theorem dX10_film_34 : decode cX10_film 34 = .ok (.ireturn, 1) := by decide +kernel
theorem dX10_film_35 : decode cX10_film 35 = .ok (.iconst 0, 1) := by decide +kernel
theorem dX10_film_36 : decode cX10_film 36 = .ok (.istore 5, 2) := by decide +kernel
theorem dX10_film_38 : decode cX10_film 38 = .ok (.iload 5, 2) := by decide +kernel
theorem dX10_film_40 : decode cX10_film 40 = .ok (.bipush 10, 2) := by decide +kernel
theorem dX10_film_42 : decode cX10_film 42 = .ok (.if_icmp .ge 32, 3) := by decide +kernel
theorem dX10_film_45 : decode cX10_film 45 = .ok (.aload_n 0, 1) := by decide +kernel
theorem dX10_film_46 : decode cX10_film 46 = .ok (.getfield 28, 3) := by decide +kernel
theorem dX10_film_49 : decode cX10_film 49 = .ok (.iload_n 1, 1) := by decide +kernel
theorem dX10_film_50 : decode cX10_film 50 = .ok (.aaload, 1) := by decide +kernel
theorem dX10_film_51 : decode cX10_film 51 = .ok (.iload_n 3, 1) := by decide +kernel
theorem dX10_film_52 : decode cX10_film 52 = .ok (.iload 5, 2) := by decide +kernel
theorem dX10_film_54 : decode cX10_film 54 = .ok (.iadd, 1) := by decide +kernel
theorem dX10_film_55 : decode cX10_film 55 = .ok (.aload_n 0, 1) := by decide +kernel
theorem dX10_film_56 : decode cX10_film 56 = .ok (.getfield 12, 3) := by decide +kernel
theorem dX10_film_59 : decode cX10_film 59 = .ok (.iload 5, 2) := by decide +kernel
theorem dX10_film_61 : decode cX10_film 61 = .ok (.invokevirtual 183, 3) := by decide +kernel
theorem dX10_film_64 : decode cX10_film 64 = .ok (.i2l, 1) := by decide +kernel
theorem dX10_film_65 : decode cX10_film 65 = .ok (.invokevirtual 294, 3) := by decide +kernel
theorem dX10_film_68 : decode cX10_film 68 = .ok (.iinc 5 1, 3) := by decide +kernel
theorem dX10_film_71 : decode cX10_film 71 = .ok (.goto (-33), 3) := by decide +kernel
theorem dX10_film_74 : decode cX10_film 74 = .ok (.bipush 10, 2) := by decide +kernel
theorem dX10_film_76 : decode cX10_film 76 = .ok (.ireturn, 1) := by decide +kernel
theorem dX10_sheet_0 : decode cX10_sheet 0 = .ok (.iload_n 1, 1) := by decide +kernel
theorem dX10_sheet_1 : decode cX10_sheet 1 = .ok (.invokestatic 235, 3) := by decide +kernel
theorem dX10_sheet_4 : decode cX10_sheet 4 = .ok (.ifCond .eq 16, 3) := by decide +kernel
theorem dX10_sheet_7 : decode cX10_sheet 7 = .ok (.iload_n 2, 1) := by decide +kernel
theorem dX10_sheet_8 : decode cX10_sheet 8 = .ok (.invokestatic 238, 3) := by decide +kernel
theorem dX10_sheet_11 : decode cX10_sheet 11 = .ok (.ifCond .eq 9, 3) := by decide +kernel
theorem dX10_sheet_14 : decode cX10_sheet 14 = .ok (.iload_n 3, 1) := by decide +kernel
theorem dX10_sheet_15 : decode cX10_sheet 15 = .ok (.bipush 16, 2) := by decide +kernel
theorem dX10_sheet_17 : decode cX10_sheet 17 = .ok (.if_icmp .le 5, 3) := by decide +kernel
theorem dX10_sheet_20 : decode cX10_sheet 20 = .ok (.iconst (-1), 1) := by decide +kernel
theorem dX10_sheet_21 : decode cX10_sheet 21 = .ok (.ireturn, 1) := by decide +kernel
theorem dX10_sheet_22 : decode cX10_sheet 22 = .ok (.iload_n 3, 1) := by decide +kernel
theorem dX10_sheet_23 : decode cX10_sheet 23 = .ok (.ifCond .ge 6, 3) := by decide +kernel
theorem dX10_sheet_26 : decode cX10_sheet 26 = .ok (.bipush (-14), 2) := by decide +kernel
theorem dX10_sheet_28 : decode cX10_sheet 28 = .ok (.ireturn, 1) := by decide +kernel
theorem dX10_sheet_29 : decode cX10_sheet 29 = .ok (.aload_n 0, 1) := by decide +kernel
theorem dX10_sheet_30 : decode cX10_sheet 30 = .ok (.getfield 28, 3) := by decide +kernel
theorem dX10_sheet_33 : decode cX10_sheet 33 = .ok (.iload_n 1, 1) := by decide +kernel
theorem dX10_sheet_34 : decode cX10_sheet 34 = .ok (.aaload, 1) := by decide +kernel
theorem dX10_sheet_35 : decode cX10_sheet 35 = .ok (.iload_n 2, 1) := by decide +kernel
theorem dX10_sheet_36 : decode cX10_sheet 36 = .ok (.iload_n 3, 1) := by decide +kernel
theorem dX10_sheet_37 : decode cX10_sheet 37 = .ok (.invokevirtual 298, 3) := by decide +kernel
theorem dX10_sheet_40 : decode cX10_sheet 40 = .ok (.iload_n 3, 1) := by decide +kernel
theorem dX10_sheet_41 : decode cX10_sheet 41 = .ok (.ireturn, 1) := by decide +kernel
theorem dX10_drop_0 : decode cX10_drop 0 = .ok (.iload_n 1, 1) := by decide +kernel
theorem dX10_drop_1 : decode cX10_drop 1 = .ok (.invokestatic 235, 3) := by decide +kernel
theorem dX10_drop_4 : decode cX10_drop 4 = .ok (.ifCond .ne 5, 3) := by decide +kernel
theorem dX10_drop_7 : decode cX10_drop 7 = .ok (.iconst (-1), 1) := by decide +kernel
theorem dX10_drop_8 : decode cX10_drop 8 = .ok (.ireturn, 1) := by decide +kernel
theorem dX10_drop_9 : decode cX10_drop 9 = .ok (.aload_n 0, 1) := by decide +kernel
theorem dX10_drop_10 : decode cX10_drop 10 = .ok (.getfield 28, 3) := by decide +kernel
theorem dX10_drop_13 : decode cX10_drop 13 = .ok (.iload_n 1, 1) := by decide +kernel
theorem dX10_drop_14 : decode cX10_drop 14 = .ok (.aaload, 1) := by decide +kernel
theorem dX10_drop_15 : decode cX10_drop 15 = .ok (.getfield 301, 3) := by decide +kernel
theorem dX10_drop_18 : decode cX10_drop 18 = .ok (.ifCond .ne 6, 3) := by decide +kernel
theorem dX10_drop_21 : decode cX10_drop 21 = .ok (.bipush (-11), 2) := by decide +kernel
theorem dX10_drop_23 : decode cX10_drop 23 = .ok (.ireturn, 1) := by decide +kernel
theorem dX10_drop_24 : decode cX10_drop 24 = .ok (.aload_n 0, 1) := by decide +kernel
theorem dX10_drop_25 : decode cX10_drop 25 = .ok (.getfield 28, 3) := by decide +kernel
theorem dX10_drop_28 : decode cX10_drop 28 = .ok (.iload_n 1, 1) := by decide +kernel
theorem dX10_drop_29 : decode cX10_drop 29 = .ok (.aaload, 1) := by decide +kernel
theorem dX10_drop_30 : decode cX10_drop 30 = .ok (.iconst 0, 1) := by decide +kernel
theorem dX10_drop_31 : decode cX10_drop 31 = .ok (.putfield 301, 3) := by decide +kernel
theorem dX10_drop_34 : decode cX10_drop 34 = .ok (.aload_n 0, 1) := by decide +kernel
theorem dX10_drop_35 : decode cX10_drop 35 = .ok (.getfield 28, 3) := by decide +kernel
theorem dX10_drop_38 : decode cX10_drop 38 = .ok (.iload_n 1, 1) := by decide +kernel
theorem dX10_drop_39 : decode cX10_drop 39 = .ok (.aaload, 1) := by decide +kernel
theorem dX10_drop_40 : decode cX10_drop 40 = .ok (.getfield 304, 3) := by decide +kernel
theorem dX10_drop_43 : decode cX10_drop 43 = .ok (.ireturn, 1) := by decide +kernel
theorem dX10_item_0 : decode cX10_item 0 = .ok (.iload_n 1, 1) := by decide +kernel
theorem dX10_item_1 : decode cX10_item 1 = .ok (.invokestatic 235, 3) := by decide +kernel
theorem dX10_item_4 : decode cX10_item 4 = .ok (.ifCond .eq 10, 3) := by decide +kernel
theorem dX10_item_7 : decode cX10_item 7 = .ok (.iload_n 2, 1) := by decide +kernel
theorem dX10_item_8 : decode cX10_item 8 = .ok (.invokestatic 238, 3) := by decide +kernel
theorem dX10_item_11 : decode cX10_item 11 = .ok (.ifCond .ne 5, 3) := by decide +kernel
theorem dX10_item_14 : decode cX10_item 14 = .ok (.iconst (-1), 1) := by decide +kernel
theorem dX10_item_15 : decode cX10_item 15 = .ok (.ireturn, 1) := by decide +kernel
theorem dX10_item_16 : decode cX10_item 16 = .ok (.aload_n 0, 1) := by decide +kernel
theorem dX10_item_17 : decode cX10_item 17 = .ok (.iload_n 1, 1) := by decide +kernel
theorem dX10_item_18 : decode cX10_item 18 = .ok (.iload_n 2, 1) := by decide +kernel
theorem dX10_item_19 : decode cX10_item 19 = .ok (.iload_n 3, 1) := by decide +kernel
theorem dX10_item_20 : decode cX10_item 20 = .ok (.iconst 1, 1) := by decide +kernel
theorem dX10_item_21 : decode cX10_item 21 = .ok (.invokevirtual 241, 3) := by decide +kernel
theorem dX10_item_24 : decode cX10_item 24 = .ok (.istore 6, 2) := by decide +kernel
theorem dX10_item_26 : decode cX10_item 26 = .ok (.iload 6, 2) := by decide +kernel
theorem dX10_item_28 : decode cX10_item 28 = .ok (.ifCond .eq 6, 3) := by decide +kernel
theorem dX10_item_31 : decode cX10_item 31 = .ok (.iload 6, 2) := by decide +kernel
theorem dX10_item_33 : decode cX10_item 33 = .ok (.ireturn, 1) := by decide +kernel
theorem dX10_item_34 : decode cX10_item 34 = .ok (.aload_n 0, 1) := by decide +kernel
theorem dX10_item_35 : decode cX10_item 35 = .ok (.getfield 28, 3) := by decide +kernel
theorem dX10_item_38 : decode cX10_item 38 = .ok (.iload_n 1, 1) := by decide +kernel
theorem dX10_item_39 : decode cX10_item 39 = .ok (.aaload, 1) := by decide +kernel
theorem dX10_item_40 : decode cX10_item 40 = .ok (.iload_n 3, 1) := by decide +kernel
theorem dX10_item_41 : decode cX10_item 41 = .ok (.lload 4, 2) := by decide +kernel
theorem dX10_item_43 : decode cX10_item 43 = .ok (.invokevirtual 294, 3) := by decide +kernel
theorem dX10_item_46 : decode cX10_item 46 = .ok (.iconst 1, 1) := by decide +kernel
theorem dX10_item_47 : decode cX10_item 47 = .ok (.ireturn, 1) := by decide +kernel
theorem dX10_copy_0 : decode cX10_copy 0 = .ok (.iload_n 1, 1) := by decide +kernel
theorem dX10_copy_1 : decode cX10_copy 1 = .ok (.invokestatic 235, 3) := by decide +kernel
theorem dX10_copy_4 : decode cX10_copy 4 = .ok (.ifCond .eq 10, 3) := by decide +kernel
theorem dX10_copy_7 : decode cX10_copy 7 = .ok (.iload_n 3, 1) := by decide +kernel
theorem dX10_copy_8 : decode cX10_copy 8 = .ok (.invokestatic 235, 3) := by decide +kernel
theorem dX10_copy_11 : decode cX10_copy 11 = .ok (.ifCond .ne 5, 3) := by decide +kernel
theorem dX10_copy_14 : decode cX10_copy 14 = .ok (.iconst (-1), 1) := by decide +kernel
theorem dX10_copy_15 : decode cX10_copy 15 = .ok (.ireturn, 1) := by decide +kernel
theorem dX10_copy_16 : decode cX10_copy 16 = .ok (.aload_n 0, 1) := by decide +kernel
theorem dX10_copy_17 : decode cX10_copy 17 = .ok (.getfield 28, 3) := by decide +kernel
theorem dX10_copy_20 : decode cX10_copy 20 = .ok (.iload_n 1, 1) := by decide +kernel
theorem dX10_copy_21 : decode cX10_copy 21 = .ok (.aaload, 1) := by decide +kernel
theorem dX10_copy_22 : decode cX10_copy 22 = .ok (.astore 6, 2) := by decide +kernel
theorem dX10_copy_24 : decode cX10_copy 24 = .ok (.aload_n 0, 1) := by decide +kernel
theorem dX10_copy_25 : decode cX10_copy 25 = .ok (.getfield 28, 3) := by decide +kernel
theorem dX10_copy_28 : decode cX10_copy 28 = .ok (.iload_n 3, 1) := by decide +kernel
theorem dX10_copy_29 : decode cX10_copy 29 = .ok (.aaload, 1) := by decide +kernel
theorem dX10_copy_30 : decode cX10_copy 30 = .ok (.astore 7, 2) := by decide +kernel
theorem dX10_copy_32 : decode cX10_copy 32 = .ok (.aload 6, 2) := by decide +kernel
theorem dX10_copy_34 : decode cX10_copy 34 = .ok (.getfield 301, 3) := by decide +kernel
theorem dX10_copy_37 : decode cX10_copy 37 = .ok (.ifCond .eq 11, 3) := by decide +kernel
theorem dX10_copy_40 : decode cX10_copy 40 = .ok (.aload 7, 2) := by decide +kernel
theorem dX10_copy_42 : decode cX10_copy 42 = .ok (.getfield 301, 3) := by decide +kernel
theorem dX10_copy_45 : decode cX10_copy 45 = .ok (.ifCond .ne 6, 3) := by decide +kernel
theorem dX10_copy_48 : decode cX10_copy 48 = .ok (.bipush (-11), 2) := by decide +kernel
theorem dX10_copy_50 : decode cX10_copy 50 = .ok (.ireturn, 1) := by decide +kernel
theorem dX10_copy_51 : decode cX10_copy 51 = .ok (.aload 6, 2) := by decide +kernel
theorem dX10_copy_53 : decode cX10_copy 53 = .ok (.getfield 305, 3) := by decide +kernel
theorem dX10_copy_56 : decode cX10_copy 56 = .ok (.aload 7, 2) := by decide +kernel
theorem dX10_copy_58 : decode cX10_copy 58 = .ok (.getfield 305, 3) := by decide +kernel
theorem dX10_copy_61 : decode cX10_copy 61 = .ok (.if_icmp .eq 6, 3) := by decide +kernel
theorem dX10_copy_64 : decode cX10_copy 64 = .ok (.bipush (-12), 2) := by decide +kernel
theorem dX10_copy_66 : decode cX10_copy 66 = .ok (.ireturn, 1) := by decide +kernel
theorem dX10_copy_67 : decode cX10_copy 67 = .ok (.aload 6, 2) := by decide +kernel
theorem dX10_copy_69 : decode cX10_copy 69 = .ok (.iload_n 2, 1) := by decide +kernel
theorem dX10_copy_70 : decode cX10_copy 70 = .ok (.iload 5, 2) := by decide +kernel
theorem dX10_copy_72 : decode cX10_copy 72 = .ok (.invokevirtual 308, 3) := by decide +kernel
theorem dX10_copy_75 : decode cX10_copy 75 = .ok (.ifCond .eq 15, 3) := by decide +kernel
theorem dX10_copy_78 : decode cX10_copy 78 = .ok (.aload 7, 2) := by decide +kernel
theorem dX10_copy_80 : decode cX10_copy 80 = .ok (.iload 4, 2) := by decide +kernel
theorem dX10_copy_82 : decode cX10_copy 82 = .ok (.iload 5, 2) := by decide +kernel
theorem dX10_copy_84 : decode cX10_copy 84 = .ok (.invokevirtual 308, 3) := by decide +kernel
theorem dX10_copy_87 : decode cX10_copy 87 = .ok (.ifCond .ne 6, 3) := by decide +kernel
theorem dX10_copy_90 : decode cX10_copy 90 = .ok (.bipush (-13), 2) := by decide +kernel
theorem dX10_copy_92 : decode cX10_copy 92 = .ok (.ireturn, 1) := by decide +kernel
theorem dX10_copy_93 : decode cX10_copy 93 = .ok (.aload 6, 2) := by decide +kernel
theorem dX10_copy_95 : decode cX10_copy 95 = .ok (.getfield 311, 3) := by decide +kernel
theorem dX10_copy_98 : decode cX10_copy 98 = .ok (.iload_n 2, 1) := by decide +kernel
theorem dX10_copy_99 : decode cX10_copy 99 = .ok (.aload 7, 2) := by decide +kernel
theorem dX10_copy_101 : decode cX10_copy 101 = .ok (.getfield 311, 3) := by decide +kernel
theorem dX10_copy_104 : decode cX10_copy 104 = .ok (.iload 4, 2) := by decide +kernel
theorem dX10_copy_106 : decode cX10_copy 106 = .ok (.iload 5, 2) := by decide +kernel
theorem dX10_copy_108 : decode cX10_copy 108 = .ok (.invokestatic 315, 3) := by decide +kernel
theorem dX10_copy_111 : decode cX10_copy 111 = .ok (.iload 5, 2) := by decide +kernel
theorem dX10_copy_113 : decode cX10_copy 113 = .ok (.ireturn, 1) := by decide +kernel
theorem dX10_isWithin_0 : decode cX10_isWithin 0 = .ok (.iload_n 0, 1) := by decide +kernel
theorem dX10_isWithin_1 : decode cX10_isWithin 1 = .ok (.iload_n 1, 1) := by decide +kernel
theorem dX10_isWithin_2 : decode cX10_isWithin 2 = .ok (.if_icmp .lt 12, 3) := by decide +kernel
theorem dX10_isWithin_5 : decode cX10_isWithin 5 = .ok (.iload_n 0, 1) := by decide +kernel
theorem dX10_isWithin_6 : decode cX10_isWithin 6 = .ok (.iload_n 2, 1) := by decide +kernel
theorem dX10_isWithin_7 : decode cX10_isWithin 7 = .ok (.if_icmp .gt 7, 3) := by decide +kernel
theorem dX10_isWithin_10 : decode cX10_isWithin 10 = .ok (.iconst 1, 1) := by decide +kernel
theorem dX10_isWithin_11 : decode cX10_isWithin 11 = .ok (.goto 4, 3) := by decide +kernel
theorem dX10_isWithin_14 : decode cX10_isWithin 14 = .ok (.iconst 0, 1) := by decide +kernel
theorem dX10_isWithin_15 : decode cX10_isWithin 15 = .ok (.ireturn, 1) := by decide +kernel
theorem dX10_isFruit_0 : decode cX10_isFruit 0 = .ok (.iload_n 0, 1) := by decide +kernel
theorem dX10_isFruit_1 : decode cX10_isFruit 1 = .ok (.iconst 0, 1) := by decide +kernel
theorem dX10_isFruit_2 : decode cX10_isFruit 2 = .ok (.bipush 9, 2) := by decide +kernel
theorem dX10_isFruit_4 : decode cX10_isFruit 4 = .ok (.invokestatic 76, 3) := by decide +kernel
theorem dX10_isFruit_7 : decode cX10_isFruit 7 = .ok (.ireturn, 1) := by decide +kernel
theorem dX10_isSheet_0 : decode cX10_isSheet 0 = .ok (.iload_n 0, 1) := by decide +kernel
theorem dX10_isSheet_1 : decode cX10_isSheet 1 = .ok (.iconst 0, 1) := by decide +kernel
theorem dX10_isSheet_2 : decode cX10_isSheet 2 = .ok (.iconst 3, 1) := by decide +kernel
theorem dX10_isSheet_3 : decode cX10_isSheet 3 = .ok (.invokestatic 76, 3) := by decide +kernel
theorem dX10_isSheet_6 : decode cX10_isSheet 6 = .ok (.ireturn, 1) := by decide +kernel
theorem dX10_isLane_0 : decode cX10_isLane 0 = .ok (.iload_n 0, 1) := by decide +kernel
theorem dX10_isLane_1 : decode cX10_isLane 1 = .ok (.iconst 0, 1) := by decide +kernel
theorem dX10_isLane_2 : decode cX10_isLane 2 = .ok (.iconst 3, 1) := by decide +kernel
theorem dX10_isLane_3 : decode cX10_isLane 3 = .ok (.invokestatic 76, 3) := by decide +kernel
theorem dX10_isLane_6 : decode cX10_isLane 6 = .ok (.ireturn, 1) := by decide +kernel
theorem dX10_isTrait_0 : decode cX10_isTrait 0 = .ok (.iload_n 0, 1) := by decide +kernel
theorem dX10_isTrait_1 : decode cX10_isTrait 1 = .ok (.tableswitch 51 1 3 #[27, 35, 43], 27) := by decide +kernel
theorem dX10_isTrait_28 : decode cX10_isTrait 28 = .ok (.iload_n 1, 1) := by decide +kernel
theorem dX10_isTrait_29 : decode cX10_isTrait 29 = .ok (.iconst 1, 1) := by decide +kernel
theorem dX10_isTrait_30 : decode cX10_isTrait 30 = .ok (.bipush 9, 2) := by decide +kernel
theorem dX10_isTrait_32 : decode cX10_isTrait 32 = .ok (.invokestatic 76, 3) := by decide +kernel
theorem dX10_isTrait_35 : decode cX10_isTrait 35 = .ok (.ireturn, 1) := by decide +kernel
theorem dX10_isTrait_36 : decode cX10_isTrait 36 = .ok (.iload_n 1, 1) := by decide +kernel
theorem dX10_isTrait_37 : decode cX10_isTrait 37 = .ok (.iconst 0, 1) := by decide +kernel
theorem dX10_isTrait_38 : decode cX10_isTrait 38 = .ok (.bipush 99, 2) := by decide +kernel
theorem dX10_isTrait_40 : decode cX10_isTrait 40 = .ok (.invokestatic 76, 3) := by decide +kernel
theorem dX10_isTrait_43 : decode cX10_isTrait 43 = .ok (.ireturn, 1) := by decide +kernel
theorem dX10_isTrait_44 : decode cX10_isTrait 44 = .ok (.iload_n 1, 1) := by decide +kernel
theorem dX10_isTrait_45 : decode cX10_isTrait 45 = .ok (.iconst 0, 1) := by decide +kernel
theorem dX10_isTrait_46 : decode cX10_isTrait 46 = .ok (.bipush 10, 2) := by decide +kernel
theorem dX10_isTrait_48 : decode cX10_isTrait 48 = .ok (.invokestatic 76, 3) := by decide +kernel
theorem dX10_isTrait_51 : decode cX10_isTrait 51 = .ok (.ireturn, 1) := by decide +kernel
theorem dX10_isTrait_52 : decode cX10_isTrait 52 = .ok (.iconst 0, 1) := by decide +kernel
theorem dX10_isTrait_53 : decode cX10_isTrait 53 = .ok (.ireturn, 1) := by decide +kernel
theorem dX10_isIn_0 : decode cX10_isIn 0 = .ok (.iload_n 0, 1) := by decide +kernel
theorem dX10_isIn_1 : decode cX10_isIn 1 = .ok (.iload_n 1, 1) := by decide +kernel
theorem dX10_isIn_2 : decode cX10_isIn 2 = .ok (.ishr, 1) := by decide +kernel
theorem dX10_isIn_3 : decode cX10_isIn 3 = .ok (.iconst 1, 1) := by decide +kernel
theorem dX10_isIn_4 : decode cX10_isIn 4 = .ok (.iand, 1) := by decide +kernel
theorem dX10_isIn_5 : decode cX10_isIn 5 = .ok (.iconst 1, 1) := by decide +kernel
theorem dX10_isIn_6 : decode cX10_isIn 6 = .ok (.if_icmp .ne 7, 3) := by decide +kernel
theorem dX10_isIn_9 : decode cX10_isIn 9 = .ok (.iconst 1, 1) := by decide +kernel
theorem dX10_isIn_10 : decode cX10_isIn 10 = .ok (.goto 4, 3) := by decide +kernel
theorem dX10_isIn_13 : decode cX10_isIn 13 = .ok (.iconst 0, 1) := by decide +kernel
theorem dX10_isIn_14 : decode cX10_isIn 14 = .ok (.ireturn, 1) := by decide +kernel
theorem dX10_sharedWithTen_0 : decode cX10_sharedWithTen 0 = .ok (.iload_n 0, 1) := by decide +kernel
theorem dX10_sharedWithTen_1 : decode cX10_sharedWithTen 1 = .ok (.iconst 2, 1) := by decide +kernel
theorem dX10_sharedWithTen_2 : decode cX10_sharedWithTen 2 = .ok (.irem, 1) := by decide +kernel
theorem dX10_sharedWithTen_3 : decode cX10_sharedWithTen 3 = .ok (.ifCond .ne 7, 3) := by decide +kernel
theorem dX10_sharedWithTen_6 : decode cX10_sharedWithTen 6 = .ok (.iconst 2, 1) := by decide +kernel
theorem dX10_sharedWithTen_7 : decode cX10_sharedWithTen 7 = .ok (.goto 4, 3) := by decide +kernel
theorem dX10_sharedWithTen_10 : decode cX10_sharedWithTen 10 = .ok (.iconst 1, 1) := by decide +kernel
theorem dX10_sharedWithTen_11 : decode cX10_sharedWithTen 11 = .ok (.iload_n 0, 1) := by decide +kernel
theorem dX10_sharedWithTen_12 : decode cX10_sharedWithTen 12 = .ok (.iconst 5, 1) := by decide +kernel
theorem dX10_sharedWithTen_13 : decode cX10_sharedWithTen 13 = .ok (.irem, 1) := by decide +kernel
theorem dX10_sharedWithTen_14 : decode cX10_sharedWithTen 14 = .ok (.ifCond .ne 7, 3) := by decide +kernel
theorem dX10_sharedWithTen_17 : decode cX10_sharedWithTen 17 = .ok (.iconst 5, 1) := by decide +kernel
theorem dX10_sharedWithTen_18 : decode cX10_sharedWithTen 18 = .ok (.goto 4, 3) := by decide +kernel
theorem dX10_sharedWithTen_21 : decode cX10_sharedWithTen 21 = .ok (.iconst 1, 1) := by decide +kernel
theorem dX10_sharedWithTen_22 : decode cX10_sharedWithTen 22 = .ok (.imul, 1) := by decide +kernel
theorem dX10_sharedWithTen_23 : decode cX10_sharedWithTen 23 = .ok (.ireturn, 1) := by decide +kernel
theorem dX10_faultOf_0 : decode cX10_faultOf 0 = .ok (.aload_n 0, 1) := by decide +kernel
theorem dX10_faultOf_1 : decode cX10_faultOf 1 = .ok (.getfield 28, 3) := by decide +kernel
theorem dX10_faultOf_4 : decode cX10_faultOf 4 = .ok (.iload_n 1, 1) := by decide +kernel
theorem dX10_faultOf_5 : decode cX10_faultOf 5 = .ok (.aaload, 1) := by decide +kernel
theorem dX10_faultOf_6 : decode cX10_faultOf 6 = .ok (.astore 5, 2) := by decide +kernel
theorem dX10_faultOf_8 : decode cX10_faultOf 8 = .ok (.aload 5, 2) := by decide +kernel
theorem dX10_faultOf_10 : decode cX10_faultOf 10 = .ok (.getfield 301, 3) := by decide +kernel
theorem dX10_faultOf_13 : decode cX10_faultOf 13 = .ok (.ifCond .ne 6, 3) := by decide +kernel
theorem dX10_faultOf_16 : decode cX10_faultOf 16 = .ok (.bipush (-11), 2) := by decide +kernel
theorem dX10_faultOf_18 : decode cX10_faultOf 18 = .ok (.ireturn, 1) := by decide +kernel
theorem dX10_faultOf_19 : decode cX10_faultOf 19 = .ok (.aload 5, 2) := by decide +kernel
theorem dX10_faultOf_21 : decode cX10_faultOf 21 = .ok (.getfield 305, 3) := by decide +kernel
theorem dX10_faultOf_24 : decode cX10_faultOf 24 = .ok (.iload_n 2, 1) := by decide +kernel
theorem dX10_faultOf_25 : decode cX10_faultOf 25 = .ok (.if_icmp .eq 6, 3) := by decide +kernel
theorem dX10_faultOf_28 : decode cX10_faultOf 28 = .ok (.bipush (-12), 2) := by decide +kernel
theorem dX10_faultOf_30 : decode cX10_faultOf 30 = .ok (.ireturn, 1) := by decide +kernel
theorem dX10_faultOf_31 : decode cX10_faultOf 31 = .ok (.aload 5, 2) := by decide +kernel
theorem dX10_faultOf_33 : decode cX10_faultOf 33 = .ok (.iload_n 3, 1) := by decide +kernel
theorem dX10_faultOf_34 : decode cX10_faultOf 34 = .ok (.iload 4, 2) := by decide +kernel
theorem dX10_faultOf_36 : decode cX10_faultOf 36 = .ok (.invokevirtual 308, 3) := by decide +kernel
theorem dX10_faultOf_39 : decode cX10_faultOf 39 = .ok (.ifCond .eq 7, 3) := by decide +kernel
theorem dX10_faultOf_42 : decode cX10_faultOf 42 = .ok (.iconst 0, 1) := by decide +kernel
theorem dX10_faultOf_43 : decode cX10_faultOf 43 = .ok (.goto 5, 3) := by decide +kernel
theorem dX10_faultOf_46 : decode cX10_faultOf 46 = .ok (.bipush (-13), 2) := by decide +kernel
theorem dX10_faultOf_48 : decode cX10_faultOf 48 = .ok (.ireturn, 1) := by decide +kernel
theorem dX10_layRota_0 : decode cX10_layRota 0 = .ok (.iload_n 1, 1) := by decide +kernel
theorem dX10_layRota_1 : decode cX10_layRota 1 = .ok (.invokestatic 235, 3) := by decide +kernel
theorem dX10_layRota_4 : decode cX10_layRota 4 = .ok (.ifCond .eq 21, 3) := by decide +kernel
theorem dX10_layRota_7 : decode cX10_layRota 7 = .ok (.iload_n 2, 1) := by decide +kernel
theorem dX10_layRota_8 : decode cX10_layRota 8 = .ok (.invokestatic 238, 3) := by decide +kernel
theorem dX10_layRota_11 : decode cX10_layRota 11 = .ok (.ifCond .eq 14, 3) := by decide +kernel
theorem dX10_layRota_14 : decode cX10_layRota 14 = .ok (.iload 4, 2) := by decide +kernel
theorem dX10_layRota_16 : decode cX10_layRota 16 = .ok (.iconst 1, 1) := by decide +kernel
theorem dX10_layRota_17 : decode cX10_layRota 17 = .ok (.bipush 8, 2) := by decide +kernel
theorem dX10_layRota_19 : decode cX10_layRota 19 = .ok (.invokestatic 76, 3) := by decide +kernel
theorem dX10_layRota_22 : decode cX10_layRota 22 = .ok (.ifCond .ne 5, 3) := by decide +kernel
theorem dX10_layRota_25 : decode cX10_layRota 25 = .ok (.iconst (-1), 1) := by decide +kernel
theorem dX10_layRota_26 : decode cX10_layRota 26 = .ok (.ireturn, 1) := by decide +kernel
theorem dX10_layRota_27 : decode cX10_layRota 27 = .ok (.aload_n 0, 1) := by decide +kernel
theorem dX10_layRota_28 : decode cX10_layRota 28 = .ok (.iload_n 1, 1) := by decide +kernel
theorem dX10_layRota_29 : decode cX10_layRota 29 = .ok (.iload_n 2, 1) := by decide +kernel
theorem dX10_layRota_30 : decode cX10_layRota 30 = .ok (.iload_n 3, 1) := by decide +kernel
theorem dX10_layRota_31 : decode cX10_layRota 31 = .ok (.iload 4, 2) := by decide +kernel
theorem dX10_layRota_33 : decode cX10_layRota 33 = .ok (.invokevirtual 241, 3) := by decide +kernel
theorem dX10_layRota_36 : decode cX10_layRota 36 = .ok (.istore 5, 2) := by decide +kernel
theorem dX10_layRota_38 : decode cX10_layRota 38 = .ok (.iload 5, 2) := by decide +kernel
theorem dX10_layRota_40 : decode cX10_layRota 40 = .ok (.ifCond .eq 6, 3) := by decide +kernel
theorem dX10_layRota_43 : decode cX10_layRota 43 = .ok (.iload 5, 2) := by decide +kernel
theorem dX10_layRota_45 : decode cX10_layRota 45 = .ok (.ireturn, 1) := by decide +kernel
theorem dX10_layRota_46 : decode cX10_layRota 46 = .ok (.aload_n 0, 1) := by decide +kernel
theorem dX10_layRota_47 : decode cX10_layRota 47 = .ok (.getfield 67, 3) := by decide +kernel
theorem dX10_layRota_50 : decode cX10_layRota 50 = .ok (.aload_n 0, 1) := by decide +kernel
theorem dX10_layRota_51 : decode cX10_layRota 51 = .ok (.getfield 28, 3) := by decide +kernel
theorem dX10_layRota_54 : decode cX10_layRota 54 = .ok (.iload_n 1, 1) := by decide +kernel
theorem dX10_layRota_55 : decode cX10_layRota 55 = .ok (.aaload, 1) := by decide +kernel
theorem dX10_layRota_56 : decode cX10_layRota 56 = .ok (.iload_n 3, 1) := by decide +kernel
theorem dX10_layRota_57 : decode cX10_layRota 57 = .ok (.iload 4, 2) := by decide +kernel
theorem dX10_layRota_59 : decode cX10_layRota 59 = .ok (.invokevirtual 321, 3) := by decide +kernel
theorem dX10_layRota_62 : decode cX10_layRota 62 = .ok (.ifCond .eq 7, 3) := by decide +kernel
theorem dX10_layRota_65 : decode cX10_layRota 65 = .ok (.iconst 0, 1) := by decide +kernel
theorem dX10_layRota_66 : decode cX10_layRota 66 = .ok (.goto 5, 3) := by decide +kernel
theorem dX10_layRota_69 : decode cX10_layRota 69 = .ok (.bipush (-2), 2) := by decide +kernel
theorem dX10_layRota_71 : decode cX10_layRota 71 = .ok (.ireturn, 1) := by decide +kernel
theorem dX11_init_0 : decode cX11_init 0 = .ok (.aload_n 0, 1) := by decide +kernel
theorem dX11_init_1 : decode cX11_init 1 = .ok (.invokespecial 1, 3) := by decide +kernel
theorem dX11_init_4 : decode cX11_init 4 = .ok (.aload_n 0, 1) := by decide +kernel
theorem dX11_init_5 : decode cX11_init 5 = .ok (.sipush 154, 3) := by decide +kernel
theorem dX11_init_8 : decode cX11_init 8 = .ok (.newarray .int, 2) := by decide +kernel
theorem dX11_init_10 : decode cX11_init 10 = .ok (.putfield 7, 3) := by decide +kernel
theorem dX11_init_13 : decode cX11_init 13 = .ok (.aload_n 0, 1) := by decide +kernel
theorem dX11_init_14 : decode cX11_init 14 = .ok (.bipush 60, 2) := by decide +kernel
theorem dX11_init_16 : decode cX11_init 16 = .ok (.newarray .int, 2) := by decide +kernel
theorem dX11_init_18 : decode cX11_init 18 = .ok (.putfield 13, 3) := by decide +kernel
theorem dX11_init_21 : decode cX11_init 21 = .ok (.aload_n 0, 1) := by decide +kernel
theorem dX11_init_22 : decode cX11_init 22 = .ok (.bipush 18, 2) := by decide +kernel
theorem dX11_init_24 : decode cX11_init 24 = .ok (.newarray .int, 2) := by decide +kernel
theorem dX11_init_26 : decode cX11_init 26 = .ok (.putfield 16, 3) := by decide +kernel
theorem dX11_init_29 : decode cX11_init 29 = .ok (.aload_n 0, 1) := by decide +kernel
theorem dX11_init_30 : decode cX11_init 30 = .ok (.bipush 6, 2) := by decide +kernel
theorem dX11_init_32 : decode cX11_init 32 = .ok (.newarray .int, 2) := by decide +kernel
theorem dX11_init_34 : decode cX11_init 34 = .ok (.putfield 19, 3) := by decide +kernel
theorem dX11_init_37 : decode cX11_init 37 = .ok (.aload_n 0, 1) := by decide +kernel
theorem dX11_init_38 : decode cX11_init 38 = .ok (.bipush 36, 2) := by decide +kernel
theorem dX11_init_40 : decode cX11_init 40 = .ok (.newarray .int, 2) := by decide +kernel
theorem dX11_init_42 : decode cX11_init 42 = .ok (.putfield 22, 3) := by decide +kernel
theorem dX11_init_45 : decode cX11_init 45 = .ok (.aload_n 0, 1) := by decide +kernel
theorem dX11_init_46 : decode cX11_init 46 = .ok (.sipush 4096, 3) := by decide +kernel
theorem dX11_init_49 : decode cX11_init 49 = .ok (.newarray .int, 2) := by decide +kernel
theorem dX11_init_51 : decode cX11_init 51 = .ok (.putfield 25, 3) := by decide +kernel
theorem dX11_init_54 : decode cX11_init 54 = .ok (.aload_n 0, 1) := by decide +kernel
theorem dX11_init_55 : decode cX11_init 55 = .ok (.sipush 4096, 3) := by decide +kernel
theorem dX11_init_58 : decode cX11_init 58 = .ok (.newarray .boolean, 2) := by decide +kernel
theorem dX11_init_60 : decode cX11_init 60 = .ok (.putfield 28, 3) := by decide +kernel
theorem dX11_init_63 : decode cX11_init 63 = .ok (.aload_n 0, 1) := by decide +kernel
theorem dX11_init_64 : decode cX11_init 64 = .ok (.bipush 16, 2) := by decide +kernel
theorem dX11_init_66 : decode cX11_init 66 = .ok (.newarray .int, 2) := by decide +kernel
theorem dX11_init_68 : decode cX11_init 68 = .ok (.putfield 32, 3) := by decide +kernel
theorem dX11_init_71 : decode cX11_init 71 = .ok (.aload_n 0, 1) := by decide +kernel
theorem dX11_init_72 : decode cX11_init 72 = .ok (.iconst 4, 1) := by decide +kernel
theorem dX11_init_73 : decode cX11_init 73 = .ok (.newarray .int, 2) := by decide +kernel
theorem dX11_init_75 : decode cX11_init 75 = .ok (.putfield 35, 3) := by decide +kernel
theorem dX11_init_78 : decode cX11_init 78 = .ok (.aload_n 0, 1) := by decide +kernel
theorem dX11_init_79 : decode cX11_init 79 = .ok (.iconst 4, 1) := by decide +kernel
theorem dX11_init_80 : decode cX11_init 80 = .ok (.newarray .int, 2) := by decide +kernel
theorem dX11_init_82 : decode cX11_init 82 = .ok (.putfield 38, 3) := by decide +kernel
theorem dX11_init_85 : decode cX11_init 85 = .ok (.aload_n 0, 1) := by decide +kernel
theorem dX11_init_86 : decode cX11_init 86 = .ok (.bipush 64, 2) := by decide +kernel
theorem dX11_init_88 : decode cX11_init 88 = .ok (.newarray .long, 2) := by decide +kernel
theorem dX11_init_90 : decode cX11_init 90 = .ok (.putfield 41, 3) := by decide +kernel
theorem dX11_init_93 : decode cX11_init 93 = .ok (.aload_n 0, 1) := by decide +kernel
theorem dX11_init_94 : decode cX11_init 94 = .ok (.bipush 16, 2) := by decide +kernel
theorem dX11_init_96 : decode cX11_init 96 = .ok (.newarray .long, 2) := by decide +kernel
theorem dX11_init_98 : decode cX11_init 98 = .ok (.putfield 45, 3) := by decide +kernel
theorem dX11_init_101 : decode cX11_init 101 = .ok (.aload_n 0, 1) := by decide +kernel
theorem dX11_init_102 : decode cX11_init 102 = .ok (.sipush 4824, 3) := by decide +kernel
theorem dX11_init_105 : decode cX11_init 105 = .ok (.newarray .int, 2) := by decide +kernel
theorem dX11_init_107 : decode cX11_init 107 = .ok (.putfield 48, 3) := by decide +kernel
theorem dX11_init_110 : decode cX11_init 110 = .ok (.aload_n 0, 1) := by decide +kernel
theorem dX11_init_111 : decode cX11_init 111 = .ok (.getfield 7, 3) := by decide +kernel
theorem dX11_init_114 : decode cX11_init 114 = .ok (.bipush 74, 2) := by decide +kernel
theorem dX11_init_116 : decode cX11_init 116 = .ok (.iconst 1, 1) := by decide +kernel
theorem dX11_init_117 : decode cX11_init 117 = .ok (.iastore, 1) := by decide +kernel
theorem dX11_init_118 : decode cX11_init 118 = .ok (.iconst 0, 1) := by decide +kernel
theorem dX11_init_119 : decode cX11_init 119 = .ok (.istore_n 1, 1) := by decide +kernel
theorem dX11_init_120 : decode cX11_init 120 = .ok (.iload_n 1, 1) := by decide +kernel
theorem dX11_init_121 : decode cX11_init 121 = .ok (.bipush 10, 2) := by decide +kernel
theorem dX11_init_123 : decode cX11_init 123 = .ok (.if_icmp .ge 19, 3) := by decide +kernel
theorem dX11_init_126 : decode cX11_init 126 = .ok (.aload_n 0, 1) := by decide +kernel
theorem dX11_init_127 : decode cX11_init 127 = .ok (.getfield 7, 3) := by decide +kernel
theorem dX11_init_130 : decode cX11_init 130 = .ok (.bipush 64, 2) := by decide +kernel
theorem dX11_init_132 : decode cX11_init 132 = .ok (.iload_n 1, 1) := by decide +kernel
theorem dX11_init_133 : decode cX11_init 133 = .ok (.iadd, 1) := by decide +kernel
theorem dX11_init_134 : decode cX11_init 134 = .ok (.iload_n 1, 1) := by decide +kernel
theorem dX11_init_135 : decode cX11_init 135 = .ok (.iastore, 1) := by decide +kernel
theorem dX11_init_136 : decode cX11_init 136 = .ok (.iinc 1 1, 3) := by decide +kernel
theorem dX11_init_139 : decode cX11_init 139 = .ok (.goto (-19), 3) := by decide +kernel
theorem dX11_init_142 : decode cX11_init 142 = .ok (.iconst 0, 1) := by decide +kernel
theorem dX11_init_143 : decode cX11_init 143 = .ok (.istore_n 1, 1) := by decide +kernel
theorem dX11_init_144 : decode cX11_init 144 = .ok (.iload_n 1, 1) := by decide +kernel
theorem dX11_init_145 : decode cX11_init 145 = .ok (.iconst 4, 1) := by decide +kernel
theorem dX11_init_146 : decode cX11_init 146 = .ok (.if_icmp .ge 16, 3) := by decide +kernel
theorem dX11_init_149 : decode cX11_init 149 = .ok (.aload_n 0, 1) := by decide +kernel
theorem dX11_init_150 : decode cX11_init 150 = .ok (.getfield 35, 3) := by decide +kernel
theorem dX11_init_153 : decode cX11_init 153 = .ok (.iload_n 1, 1) := by decide +kernel
theorem dX11_init_154 : decode cX11_init 154 = .ok (.iconst (-1), 1) := by decide +kernel
theorem dX11_init_155 : decode cX11_init 155 = .ok (.iastore, 1) := by decide +kernel
theorem dX11_init_156 : decode cX11_init 156 = .ok (.iinc 1 1, 3) := by decide +kernel
theorem dX11_init_159 : decode cX11_init 159 = .ok (.goto (-15), 3) := by decide +kernel
theorem dX11_init_162 : decode cX11_init 162 = .ok (.return_, 1) := by decide +kernel
theorem dX11_in_0 : decode cX11_in 0 = .ok (.lload_n 0, 1) := by decide +kernel
theorem dX11_in_1 : decode cX11_in 1 = .ok (.lload_n 2, 1) := by decide +kernel
theorem dX11_in_2 : decode cX11_in 2 = .ok (.lcmp, 1) := by decide +kernel
theorem dX11_in_3 : decode cX11_in 3 = .ok (.ifCond .lt 14, 3) := by decide +kernel
theorem dX11_in_6 : decode cX11_in 6 = .ok (.lload_n 0, 1) := by decide +kernel
theorem dX11_in_7 : decode cX11_in 7 = .ok (.lload 4, 2) := by decide +kernel
theorem dX11_in_9 : decode cX11_in 9 = .ok (.lcmp, 1) := by decide +kernel
theorem dX11_in_10 : decode cX11_in 10 = .ok (.ifCond .gt 7, 3) := by decide +kernel
theorem dX11_in_13 : decode cX11_in 13 = .ok (.iconst 1, 1) := by decide +kernel
theorem dX11_in_14 : decode cX11_in 14 = .ok (.goto 4, 3) := by decide +kernel
theorem dX11_in_17 : decode cX11_in 17 = .ok (.iconst 0, 1) := by decide +kernel
theorem dX11_in_18 : decode cX11_in 18 = .ok (.ireturn, 1) := by decide +kernel
theorem dX11_has_0 : decode cX11_has 0 = .ok (.iload_n 0, 1) := by decide +kernel
theorem dX11_has_1 : decode cX11_has 1 = .ok (.iload_n 1, 1) := by decide +kernel
theorem dX11_has_2 : decode cX11_has 2 = .ok (.ishr, 1) := by decide +kernel
theorem dX11_has_3 : decode cX11_has 3 = .ok (.iconst 1, 1) := by decide +kernel
theorem dX11_has_4 : decode cX11_has 4 = .ok (.iand, 1) := by decide +kernel
theorem dX11_has_5 : decode cX11_has 5 = .ok (.iconst 1, 1) := by decide +kernel
theorem dX11_has_6 : decode cX11_has 6 = .ok (.if_icmp .ne 7, 3) := by decide +kernel
theorem dX11_has_9 : decode cX11_has 9 = .ok (.iconst 1, 1) := by decide +kernel
theorem dX11_has_10 : decode cX11_has 10 = .ok (.goto 4, 3) := by decide +kernel
theorem dX11_has_13 : decode cX11_has 13 = .ok (.iconst 0, 1) := by decide +kernel
theorem dX11_has_14 : decode cX11_has 14 = .ok (.ireturn, 1) := by decide +kernel
theorem dX11_size_0 : decode cX11_size 0 = .ok (.iconst 0, 1) := by decide +kernel
theorem dX11_size_1 : decode cX11_size 1 = .ok (.istore_n 1, 1) := by decide +kernel
theorem dX11_size_2 : decode cX11_size 2 = .ok (.iconst 0, 1) := by decide +kernel
theorem dX11_size_3 : decode cX11_size 3 = .ok (.istore_n 2, 1) := by decide +kernel
theorem dX11_size_4 : decode cX11_size 4 = .ok (.iload_n 2, 1) := by decide +kernel
theorem dX11_size_5 : decode cX11_size 5 = .ok (.bipush 6, 2) := by decide +kernel
theorem dX11_size_7 : decode cX11_size 7 = .ok (.if_icmp .ge 17, 3) := by decide +kernel
theorem dX11_size_10 : decode cX11_size 10 = .ok (.iload_n 1, 1) := by decide +kernel
theorem dX11_size_11 : decode cX11_size 11 = .ok (.iload_n 0, 1) := by decide +kernel
theorem dX11_size_12 : decode cX11_size 12 = .ok (.iload_n 2, 1) := by decide +kernel
theorem dX11_size_13 : decode cX11_size 13 = .ok (.ishr, 1) := by decide +kernel
theorem dX11_size_14 : decode cX11_size 14 = .ok (.iconst 1, 1) := by decide +kernel
theorem dX11_size_15 : decode cX11_size 15 = .ok (.iand, 1) := by decide +kernel
theorem dX11_size_16 : decode cX11_size 16 = .ok (.iadd, 1) := by decide +kernel
theorem dX11_size_17 : decode cX11_size 17 = .ok (.istore_n 1, 1) := by decide +kernel
theorem dX11_size_18 : decode cX11_size 18 = .ok (.iinc 2 1, 3) := by decide +kernel
theorem dX11_size_21 : decode cX11_size 21 = .ok (.goto (-17), 3) := by decide +kernel
theorem dX11_size_24 : decode cX11_size 24 = .ok (.iload_n 1, 1) := by decide +kernel
theorem dX11_size_25 : decode cX11_size 25 = .ok (.ireturn, 1) := by decide +kernel
theorem dX11_isTree_0 : decode cX11_isTree 0 = .ok (.iload_n 1, 1) := by decide +kernel
theorem dX11_isTree_1 : decode cX11_isTree 1 = .ok (.i2l, 1) := by decide +kernel
theorem dX11_isTree_2 : decode cX11_isTree 2 = .ok (.lconst 0, 1) := by decide +kernel
theorem dX11_isTree_3 : decode cX11_isTree 3 = .ok (.aload_n 0, 1) := by decide +kernel
theorem dX11_isTree_4 : decode cX11_isTree 4 = .ok (.getfield 7, 3) := by decide +kernel
theorem dX11_isTree_7 : decode cX11_isTree 7 = .ok (.iconst 0, 1) := by decide +kernel
theorem dX11_isTree_8 : decode cX11_isTree 8 = .ok (.iaload, 1) := by decide +kernel
theorem dX11_isTree_9 : decode cX11_isTree 9 = .ok (.iconst 1, 1) := by decide +kernel
theorem dX11_isTree_10 : decode cX11_isTree 10 = .ok (.isub, 1) := by decide +kernel
theorem dX11_isTree_11 : decode cX11_isTree 11 = .ok (.i2l, 1) := by decide +kernel
theorem dX11_isTree_12 : decode cX11_isTree 12 = .ok (.invokestatic 51, 3) := by decide +kernel
theorem dX11_isTree_15 : decode cX11_isTree 15 = .ok (.ireturn, 1) := by decide +kernel
theorem dX11_isClimber_0 : decode cX11_isClimber 0 = .ok (.iload_n 1, 1) := by decide +kernel
theorem dX11_isClimber_1 : decode cX11_isClimber 1 = .ok (.i2l, 1) := by decide +kernel
theorem dX11_isClimber_2 : decode cX11_isClimber 2 = .ok (.lconst 0, 1) := by decide +kernel
theorem dX11_isClimber_3 : decode cX11_isClimber 3 = .ok (.aload_n 0, 1) := by decide +kernel
theorem dX11_isClimber_4 : decode cX11_isClimber 4 = .ok (.getfield 7, 3) := by decide +kernel
theorem dX11_isClimber_7 : decode cX11_isClimber 7 = .ok (.bipush 43, 2) := by decide +kernel
theorem dX11_isClimber_9 : decode cX11_isClimber 9 = .ok (.iaload, 1) := by decide +kernel
theorem dX11_isClimber_10 : decode cX11_isClimber 10 = .ok (.iconst 1, 1) := by decide +kernel
theorem dX11_isClimber_11 : decode cX11_isClimber 11 = .ok (.isub, 1) := by decide +kernel
theorem dX11_isClimber_12 : decode cX11_isClimber 12 = .ok (.i2l, 1) := by decide +kernel
theorem dX11_isClimber_13 : decode cX11_isClimber 13 = .ok (.invokestatic 51, 3) := by decide +kernel
theorem dX11_isClimber_16 : decode cX11_isClimber 16 = .ok (.ireturn, 1) := by decide +kernel
theorem dX11_add_0 : decode cX11_add 0 = .ok (.aload_n 0, 1) := by decide +kernel
theorem dX11_add_1 : decode cX11_add 1 = .ok (.getfield 7, 3) := by decide +kernel
theorem dX11_add_4 : decode cX11_add 4 = .ok (.iconst 0, 1) := by decide +kernel
theorem dX11_add_5 : decode cX11_add 5 = .ok (.iaload, 1) := by decide +kernel
theorem dX11_add_6 : decode cX11_add 6 = .ok (.istore 6, 2) := by decide +kernel
theorem dX11_add_8 : decode cX11_add 8 = .ok (.aload_n 0, 1) := by decide +kernel
theorem dX11_add_9 : decode cX11_add 9 = .ok (.getfield 7, 3) := by decide +kernel
theorem dX11_add_12 : decode cX11_add 12 = .ok (.iconst 1, 1) := by decide +kernel
theorem dX11_add_13 : decode cX11_add 13 = .ok (.iload 6, 2) := by decide +kernel
theorem dX11_add_15 : decode cX11_add 15 = .ok (.iadd, 1) := by decide +kernel
theorem dX11_add_16 : decode cX11_add 16 = .ok (.iload_n 1, 1) := by decide +kernel
theorem dX11_add_17 : decode cX11_add 17 = .ok (.iastore, 1) := by decide +kernel
theorem dX11_add_18 : decode cX11_add 18 = .ok (.aload_n 0, 1) := by decide +kernel
theorem dX11_add_19 : decode cX11_add 19 = .ok (.getfield 7, 3) := by decide +kernel
theorem dX11_add_22 : decode cX11_add 22 = .ok (.bipush 7, 2) := by decide +kernel
theorem dX11_add_24 : decode cX11_add 24 = .ok (.iload 6, 2) := by decide +kernel
theorem dX11_add_26 : decode cX11_add 26 = .ok (.iadd, 1) := by decide +kernel
theorem dX11_add_27 : decode cX11_add 27 = .ok (.iconst 5, 1) := by decide +kernel
theorem dX11_add_28 : decode cX11_add 28 = .ok (.iastore, 1) := by decide +kernel
theorem dX11_add_29 : decode cX11_add 29 = .ok (.aload_n 0, 1) := by decide +kernel
theorem dX11_add_30 : decode cX11_add 30 = .ok (.getfield 7, 3) := by decide +kernel
theorem dX11_add_33 : decode cX11_add 33 = .ok (.bipush 13, 2) := by decide +kernel
theorem dX11_add_35 : decode cX11_add 35 = .ok (.iload 6, 2) := by decide +kernel
theorem dX11_add_37 : decode cX11_add 37 = .ok (.iadd, 1) := by decide +kernel
theorem dX11_add_38 : decode cX11_add 38 = .ok (.iload_n 2, 1) := by decide +kernel
theorem dX11_add_39 : decode cX11_add 39 = .ok (.iastore, 1) := by decide +kernel
theorem dX11_add_40 : decode cX11_add 40 = .ok (.aload_n 0, 1) := by decide +kernel
theorem dX11_add_41 : decode cX11_add 41 = .ok (.getfield 7, 3) := by decide +kernel
theorem dX11_add_44 : decode cX11_add 44 = .ok (.bipush 19, 2) := by decide +kernel
theorem dX11_add_46 : decode cX11_add 46 = .ok (.iload 6, 2) := by decide +kernel
theorem dX11_add_48 : decode cX11_add 48 = .ok (.iadd, 1) := by decide +kernel
theorem dX11_add_49 : decode cX11_add 49 = .ok (.iload_n 3, 1) := by decide +kernel
theorem dX11_add_50 : decode cX11_add 50 = .ok (.iastore, 1) := by decide +kernel
theorem dX11_add_51 : decode cX11_add 51 = .ok (.aload_n 0, 1) := by decide +kernel
theorem dX11_add_52 : decode cX11_add 52 = .ok (.getfield 7, 3) := by decide +kernel
theorem dX11_add_55 : decode cX11_add 55 = .ok (.bipush 25, 2) := by decide +kernel
theorem dX11_add_57 : decode cX11_add 57 = .ok (.iload 6, 2) := by decide +kernel
theorem dX11_add_59 : decode cX11_add 59 = .ok (.iadd, 1) := by decide +kernel
theorem dX11_add_60 : decode cX11_add 60 = .ok (.iload 4, 2) := by decide +kernel
theorem dX11_add_62 : decode cX11_add 62 = .ok (.iastore, 1) := by decide +kernel
theorem dX11_add_63 : decode cX11_add 63 = .ok (.aload_n 0, 1) := by decide +kernel
theorem dX11_add_64 : decode cX11_add 64 = .ok (.getfield 7, 3) := by decide +kernel
theorem dX11_add_67 : decode cX11_add 67 = .ok (.bipush 31, 2) := by decide +kernel
theorem dX11_add_69 : decode cX11_add 69 = .ok (.iload 6, 2) := by decide +kernel
theorem dX11_add_71 : decode cX11_add 71 = .ok (.iadd, 1) := by decide +kernel
theorem dX11_add_72 : decode cX11_add 72 = .ok (.iload 5, 2) := by decide +kernel
theorem dX11_add_74 : decode cX11_add 74 = .ok (.iastore, 1) := by decide +kernel
theorem dX11_add_75 : decode cX11_add 75 = .ok (.aload_n 0, 1) := by decide +kernel
theorem dX11_add_76 : decode cX11_add 76 = .ok (.getfield 7, 3) := by decide +kernel
theorem dX11_add_79 : decode cX11_add 79 = .ok (.bipush 37, 2) := by decide +kernel
theorem dX11_add_81 : decode cX11_add 81 = .ok (.iload 6, 2) := by decide +kernel
theorem dX11_add_83 : decode cX11_add 83 = .ok (.iadd, 1) := by decide +kernel
theorem dX11_add_84 : decode cX11_add 84 = .ok (.iconst 0, 1) := by decide +kernel
theorem dX11_add_85 : decode cX11_add 85 = .ok (.iastore, 1) := by decide +kernel
theorem dX11_add_86 : decode cX11_add 86 = .ok (.aload_n 0, 1) := by decide +kernel
theorem dX11_add_87 : decode cX11_add 87 = .ok (.getfield 7, 3) := by decide +kernel
theorem dX11_add_90 : decode cX11_add 90 = .ok (.iconst 0, 1) := by decide +kernel
theorem dX11_add_91 : decode cX11_add 91 = .ok (.dup2, 1) := by decide +kernel
theorem dX11_add_92 : decode cX11_add 92 = .ok (.iaload, 1) := by decide +kernel
theorem dX11_add_93 : decode cX11_add 93 = .ok (.iconst 1, 1) := by decide +kernel
theorem dX11_add_94 : decode cX11_add 94 = .ok (.iadd, 1) := by decide +kernel
theorem dX11_add_95 : decode cX11_add 95 = .ok (.iastore, 1) := by decide +kernel
theorem dX11_add_96 : decode cX11_add 96 = .ok (.iload 6, 2) := by decide +kernel
theorem dX11_add_98 : decode cX11_add 98 = .ok (.ireturn, 1) := by decide +kernel
theorem dX11_tree_0 : decode cX11_tree 0 = .ok (.iload_n 1, 1) := by decide +kernel
theorem dX11_tree_1 : decode cX11_tree 1 = .ok (.i2l, 1) := by decide +kernel
theorem dX11_tree_2 : decode cX11_tree 2 = .ok (.lconst 0, 1) := by decide +kernel
theorem dX11_tree_3 : decode cX11_tree 3 = .ok (.ldc2_w 55, 3) := by decide +kernel
theorem dX11_tree_6 : decode cX11_tree 6 = .ok (.invokestatic 51, 3) := by decide +kernel
theorem dX11_tree_9 : decode cX11_tree 9 = .ok (.ifCond .ne 5, 3) := by decide +kernel
theorem dX11_tree_12 : decode cX11_tree 12 = .ok (.iconst (-1), 1) := by decide +kernel
theorem dX11_tree_13 : decode cX11_tree 13 = .ok (.ireturn, 1) := by decide +kernel
theorem dX11_tree_14 : decode cX11_tree 14 = .ok (.aload_n 0, 1) := by decide +kernel
theorem dX11_tree_15 : decode cX11_tree 15 = .ok (.getfield 7, 3) := by decide +kernel
theorem dX11_tree_18 : decode cX11_tree 18 = .ok (.iconst 0, 1) := by decide +kernel
theorem dX11_tree_19 : decode cX11_tree 19 = .ok (.iaload, 1) := by decide +kernel
theorem dX11_tree_20 : decode cX11_tree 20 = .ok (.bipush 6, 2) := by decide +kernel
theorem dX11_tree_22 : decode cX11_tree 22 = .ok (.if_icmp .ne 8, 3) := by decide +kernel
theorem dX11_tree_25 : decode cX11_tree 25 = .ok (.bipush (-3), 2) := by decide +kernel
theorem dX11_tree_27 : decode cX11_tree 27 = .ok (.goto 12, 3) := by decide +kernel
theorem dX11_tree_30 : decode cX11_tree 30 = .ok (.aload_n 0, 1) := by decide +kernel
theorem dX11_tree_31 : decode cX11_tree 31 = .ok (.iload_n 1, 1) := by decide +kernel
theorem dX11_tree_32 : decode cX11_tree 32 = .ok (.iconst 5, 1) := by decide +kernel
theorem dX11_tree_33 : decode cX11_tree 33 = .ok (.iconst 5, 1) := by decide +kernel
theorem dX11_tree_34 : decode cX11_tree 34 = .ok (.iconst 0, 1) := by decide +kernel
theorem dX11_tree_35 : decode cX11_tree 35 = .ok (.iconst 0, 1) := by decide +kernel
theorem dX11_tree_36 : decode cX11_tree 36 = .ok (.invokevirtual 57, 3) := by decide +kernel
theorem dX11_tree_39 : decode cX11_tree 39 = .ok (.ireturn, 1) := by decide +kernel
theorem dX11_cutting_0 : decode cX11_cutting 0 = .ok (.aload_n 0, 1) := by decide +kernel
theorem dX11_cutting_1 : decode cX11_cutting 1 = .ok (.iload_n 1, 1) := by decide +kernel
theorem dX11_cutting_2 : decode cX11_cutting 2 = .ok (.invokevirtual 61, 3) := by decide +kernel
theorem dX11_cutting_5 : decode cX11_cutting 5 = .ok (.ifCond .ne 5, 3) := by decide +kernel
theorem dX11_cutting_8 : decode cX11_cutting 8 = .ok (.iconst (-1), 1) := by decide +kernel
theorem dX11_cutting_9 : decode cX11_cutting 9 = .ok (.ireturn, 1) := by decide +kernel
theorem dX11_cutting_10 : decode cX11_cutting 10 = .ok (.aload_n 0, 1) := by decide +kernel
theorem dX11_cutting_11 : decode cX11_cutting 11 = .ok (.getfield 7, 3) := by decide +kernel
theorem dX11_cutting_14 : decode cX11_cutting 14 = .ok (.iconst 0, 1) := by decide +kernel
theorem dX11_cutting_15 : decode cX11_cutting 15 = .ok (.iaload, 1) := by decide +kernel
theorem dX11_cutting_16 : decode cX11_cutting 16 = .ok (.bipush 6, 2) := by decide +kernel
theorem dX11_cutting_18 : decode cX11_cutting 18 = .ok (.if_icmp .ne 8, 3) := by decide +kernel
theorem dX11_cutting_21 : decode cX11_cutting 21 = .ok (.bipush (-3), 2) := by decide +kernel
theorem dX11_cutting_23 : decode cX11_cutting 23 = .ok (.goto 51, 3) := by decide +kernel
theorem dX11_cutting_26 : decode cX11_cutting 26 = .ok (.aload_n 0, 1) := by decide +kernel
theorem dX11_cutting_27 : decode cX11_cutting 27 = .ok (.aload_n 0, 1) := by decide +kernel
theorem dX11_cutting_28 : decode cX11_cutting 28 = .ok (.getfield 7, 3) := by decide +kernel
theorem dX11_cutting_31 : decode cX11_cutting 31 = .ok (.iconst 1, 1) := by decide +kernel
theorem dX11_cutting_32 : decode cX11_cutting 32 = .ok (.iload_n 1, 1) := by decide +kernel
theorem dX11_cutting_33 : decode cX11_cutting 33 = .ok (.iadd, 1) := by decide +kernel
theorem dX11_cutting_34 : decode cX11_cutting 34 = .ok (.iaload, 1) := by decide +kernel
theorem dX11_cutting_35 : decode cX11_cutting 35 = .ok (.aload_n 0, 1) := by decide +kernel
theorem dX11_cutting_36 : decode cX11_cutting 36 = .ok (.getfield 7, 3) := by decide +kernel
theorem dX11_cutting_39 : decode cX11_cutting 39 = .ok (.bipush 13, 2) := by decide +kernel
theorem dX11_cutting_41 : decode cX11_cutting 41 = .ok (.iload_n 1, 1) := by decide +kernel
theorem dX11_cutting_42 : decode cX11_cutting 42 = .ok (.iadd, 1) := by decide +kernel
theorem dX11_cutting_43 : decode cX11_cutting 43 = .ok (.iaload, 1) := by decide +kernel
theorem dX11_cutting_44 : decode cX11_cutting 44 = .ok (.aload_n 0, 1) := by decide +kernel
theorem dX11_cutting_45 : decode cX11_cutting 45 = .ok (.getfield 7, 3) := by decide +kernel
theorem dX11_cutting_48 : decode cX11_cutting 48 = .ok (.bipush 19, 2) := by decide +kernel
theorem dX11_cutting_50 : decode cX11_cutting 50 = .ok (.iload_n 1, 1) := by decide +kernel
theorem dX11_cutting_51 : decode cX11_cutting 51 = .ok (.iadd, 1) := by decide +kernel
theorem dX11_cutting_52 : decode cX11_cutting 52 = .ok (.iaload, 1) := by decide +kernel
theorem dX11_cutting_53 : decode cX11_cutting 53 = .ok (.aload_n 0, 1) := by decide +kernel
theorem dX11_cutting_54 : decode cX11_cutting 54 = .ok (.getfield 7, 3) := by decide +kernel
theorem dX11_cutting_57 : decode cX11_cutting 57 = .ok (.bipush 25, 2) := by decide +kernel
theorem dX11_cutting_59 : decode cX11_cutting 59 = .ok (.iload_n 1, 1) := by decide +kernel
theorem dX11_cutting_60 : decode cX11_cutting 60 = .ok (.iadd, 1) := by decide +kernel
theorem dX11_cutting_61 : decode cX11_cutting 61 = .ok (.iaload, 1) := by decide +kernel
theorem dX11_cutting_62 : decode cX11_cutting 62 = .ok (.aload_n 0, 1) := by decide +kernel
theorem dX11_cutting_63 : decode cX11_cutting 63 = .ok (.getfield 7, 3) := by decide +kernel
theorem dX11_cutting_66 : decode cX11_cutting 66 = .ok (.bipush 31, 2) := by decide +kernel
theorem dX11_cutting_68 : decode cX11_cutting 68 = .ok (.iload_n 1, 1) := by decide +kernel
theorem dX11_cutting_69 : decode cX11_cutting 69 = .ok (.iadd, 1) := by decide +kernel
theorem dX11_cutting_70 : decode cX11_cutting 70 = .ok (.iaload, 1) := by decide +kernel
theorem dX11_cutting_71 : decode cX11_cutting 71 = .ok (.invokevirtual 57, 3) := by decide +kernel
theorem dX11_cutting_74 : decode cX11_cutting 74 = .ok (.ireturn, 1) := by decide +kernel
theorem dX11_climber_0 : decode cX11_climber 0 = .ok (.iload_n 1, 1) := by decide +kernel
theorem dX11_climber_1 : decode cX11_climber 1 = .ok (.i2l, 1) := by decide +kernel
theorem dX11_climber_2 : decode cX11_climber 2 = .ok (.lconst 0, 1) := by decide +kernel
theorem dX11_climber_3 : decode cX11_climber 3 = .ok (.ldc2_w 55, 3) := by decide +kernel
theorem dX11_climber_6 : decode cX11_climber 6 = .ok (.invokestatic 51, 3) := by decide +kernel
theorem dX11_climber_9 : decode cX11_climber 9 = .ok (.ifCond .eq 40, 3) := by decide +kernel
theorem dX11_climber_12 : decode cX11_climber 12 = .ok (.iload_n 2, 1) := by decide +kernel
theorem dX11_climber_13 : decode cX11_climber 13 = .ok (.i2l, 1) := by decide +kernel
theorem dX11_climber_14 : decode cX11_climber 14 = .ok (.lconst 1, 1) := by decide +kernel
theorem dX11_climber_15 : decode cX11_climber 15 = .ok (.ldc2_w 65, 3) := by decide +kernel
theorem dX11_climber_18 : decode cX11_climber 18 = .ok (.invokestatic 51, 3) := by decide +kernel
theorem dX11_climber_21 : decode cX11_climber 21 = .ok (.ifCond .eq 28, 3) := by decide +kernel
theorem dX11_climber_24 : decode cX11_climber 24 = .ok (.iload_n 3, 1) := by decide +kernel
theorem dX11_climber_25 : decode cX11_climber 25 = .ok (.i2l, 1) := by decide +kernel
theorem dX11_climber_26 : decode cX11_climber 26 = .ok (.lconst 0, 1) := by decide +kernel
theorem dX11_climber_27 : decode cX11_climber 27 = .ok (.ldc2_w 67, 3) := by decide +kernel
theorem dX11_climber_30 : decode cX11_climber 30 = .ok (.invokestatic 51, 3) := by decide +kernel
theorem dX11_climber_33 : decode cX11_climber 33 = .ok (.ifCond .eq 16, 3) := by decide +kernel
theorem dX11_climber_36 : decode cX11_climber 36 = .ok (.iload 4, 2) := by decide +kernel
theorem dX11_climber_38 : decode cX11_climber 38 = .ok (.i2l, 1) := by decide +kernel
theorem dX11_climber_39 : decode cX11_climber 39 = .ok (.lconst 0, 1) := by decide +kernel
theorem dX11_climber_40 : decode cX11_climber 40 = .ok (.ldc2_w 69, 3) := by decide +kernel
theorem dX11_climber_43 : decode cX11_climber 43 = .ok (.invokestatic 51, 3) := by decide +kernel
theorem dX11_climber_46 : decode cX11_climber 46 = .ok (.ifCond .ne 5, 3) := by decide +kernel
theorem dX11_climber_49 : decode cX11_climber 49 = .ok (.iconst (-1), 1) := by decide +kernel
theorem dX11_climber_50 : decode cX11_climber 50 = .ok (.ireturn, 1) := by decide +kernel
theorem dX11_climber_51 : decode cX11_climber 51 = .ok (.aload_n 0, 1) := by decide +kernel
theorem dX11_climber_52 : decode cX11_climber 52 = .ok (.getfield 7, 3) := by decide +kernel
theorem dX11_climber_55 : decode cX11_climber 55 = .ok (.bipush 43, 2) := by decide +kernel
theorem dX11_climber_57 : decode cX11_climber 57 = .ok (.iaload, 1) := by decide +kernel
theorem dX11_climber_58 : decode cX11_climber 58 = .ok (.istore 5, 2) := by decide +kernel
theorem dX11_climber_60 : decode cX11_climber 60 = .ok (.iload 5, 2) := by decide +kernel
theorem dX11_climber_62 : decode cX11_climber 62 = .ok (.iconst 5, 1) := by decide +kernel
theorem dX11_climber_63 : decode cX11_climber 63 = .ok (.if_icmp .ne 6, 3) := by decide +kernel
theorem dX11_climber_66 : decode cX11_climber 66 = .ok (.bipush (-3), 2) := by decide +kernel
theorem dX11_climber_68 : decode cX11_climber 68 = .ok (.ireturn, 1) := by decide +kernel
theorem dX11_climber_69 : decode cX11_climber 69 = .ok (.aload_n 0, 1) := by decide +kernel
theorem dX11_climber_70 : decode cX11_climber 70 = .ok (.getfield 7, 3) := by decide +kernel
theorem dX11_climber_73 : decode cX11_climber 73 = .ok (.bipush 44, 2) := by decide +kernel
theorem dX11_climber_75 : decode cX11_climber 75 = .ok (.iload 5, 2) := by decide +kernel
theorem dX11_climber_77 : decode cX11_climber 77 = .ok (.iadd, 1) := by decide +kernel
theorem dX11_climber_78 : decode cX11_climber 78 = .ok (.iload_n 1, 1) := by decide +kernel
theorem dX11_climber_79 : decode cX11_climber 79 = .ok (.iastore, 1) := by decide +kernel
theorem dX11_climber_80 : decode cX11_climber 80 = .ok (.aload_n 0, 1) := by decide +kernel
theorem dX11_climber_81 : decode cX11_climber 81 = .ok (.getfield 7, 3) := by decide +kernel
theorem dX11_climber_84 : decode cX11_climber 84 = .ok (.bipush 49, 2) := by decide +kernel
theorem dX11_climber_86 : decode cX11_climber 86 = .ok (.iload 5, 2) := by decide +kernel
theorem dX11_climber_88 : decode cX11_climber 88 = .ok (.iadd, 1) := by decide +kernel
theorem dX11_climber_89 : decode cX11_climber 89 = .ok (.iload_n 2, 1) := by decide +kernel
theorem dX11_climber_90 : decode cX11_climber 90 = .ok (.iastore, 1) := by decide +kernel
theorem dX11_climber_91 : decode cX11_climber 91 = .ok (.aload_n 0, 1) := by decide +kernel
theorem dX11_climber_92 : decode cX11_climber 92 = .ok (.getfield 7, 3) := by decide +kernel
theorem dX11_climber_95 : decode cX11_climber 95 = .ok (.bipush 54, 2) := by decide +kernel
theorem dX11_climber_97 : decode cX11_climber 97 = .ok (.iload 5, 2) := by decide +kernel
theorem dX11_climber_99 : decode cX11_climber 99 = .ok (.iadd, 1) := by decide +kernel
theorem dX11_climber_100 : decode cX11_climber 100 = .ok (.iload_n 3, 1) := by decide +kernel
theorem dX11_climber_101 : decode cX11_climber 101 = .ok (.iastore, 1) := by decide +kernel
theorem dX11_climber_102 : decode cX11_climber 102 = .ok (.aload_n 0, 1) := by decide +kernel
theorem dX11_climber_103 : decode cX11_climber 103 = .ok (.getfield 7, 3) := by decide +kernel
theorem dX11_climber_106 : decode cX11_climber 106 = .ok (.bipush 59, 2) := by decide +kernel
theorem dX11_climber_108 : decode cX11_climber 108 = .ok (.iload 5, 2) := by decide +kernel
theorem dX11_climber_110 : decode cX11_climber 110 = .ok (.iadd, 1) := by decide +kernel
theorem dX11_climber_111 : decode cX11_climber 111 = .ok (.iload 4, 2) := by decide +kernel
theorem dX11_climber_113 : decode cX11_climber 113 = .ok (.iastore, 1) := by decide +kernel
theorem dX11_climber_114 : decode cX11_climber 114 = .ok (.aload_n 0, 1) := by decide +kernel
theorem dX11_climber_115 : decode cX11_climber 115 = .ok (.getfield 7, 3) := by decide +kernel
theorem dX11_climber_118 : decode cX11_climber 118 = .ok (.bipush 43, 2) := by decide +kernel
theorem dX11_climber_120 : decode cX11_climber 120 = .ok (.dup2, 1) := by decide +kernel
theorem dX11_climber_121 : decode cX11_climber 121 = .ok (.iaload, 1) := by decide +kernel
theorem dX11_climber_122 : decode cX11_climber 122 = .ok (.iconst 1, 1) := by decide +kernel
theorem dX11_climber_123 : decode cX11_climber 123 = .ok (.iadd, 1) := by decide +kernel
theorem dX11_climber_124 : decode cX11_climber 124 = .ok (.iastore, 1) := by decide +kernel
theorem dX11_climber_125 : decode cX11_climber 125 = .ok (.iload 5, 2) := by decide +kernel
theorem dX11_climber_127 : decode cX11_climber 127 = .ok (.ireturn, 1) := by decide +kernel
theorem dX11_set_0 : decode cX11_set 0 = .ok (.aload_n 0, 1) := by decide +kernel
theorem dX11_set_1 : decode cX11_set 1 = .ok (.iload_n 1, 1) := by decide +kernel
theorem dX11_set_2 : decode cX11_set 2 = .ok (.invokevirtual 71, 3) := by decide +kernel
theorem dX11_set_5 : decode cX11_set 5 = .ok (.ifCond .eq 58, 3) := by decide +kernel
theorem dX11_set_8 : decode cX11_set 8 = .ok (.iload_n 2, 1) := by decide +kernel
theorem dX11_set_9 : decode cX11_set 9 = .ok (.i2l, 1) := by decide +kernel
theorem dX11_set_10 : decode cX11_set 10 = .ok (.lconst 1, 1) := by decide +kernel
theorem dX11_set_11 : decode cX11_set 11 = .ok (.ldc2_w 55, 3) := by decide +kernel
theorem dX11_set_14 : decode cX11_set 14 = .ok (.invokestatic 51, 3) := by decide +kernel
theorem dX11_set_17 : decode cX11_set 17 = .ok (.ifCond .eq 46, 3) := by decide +kernel
theorem dX11_set_20 : decode cX11_set 20 = .ok (.iload_n 3, 1) := by decide +kernel
theorem dX11_set_21 : decode cX11_set 21 = .ok (.i2l, 1) := by decide +kernel
theorem dX11_set_22 : decode cX11_set 22 = .ok (.iload_n 2, 1) := by decide +kernel
theorem dX11_set_23 : decode cX11_set 23 = .ok (.iconst 1, 1) := by decide +kernel
theorem dX11_set_24 : decode cX11_set 24 = .ok (.if_icmp .ne 7, 3) := by decide +kernel
theorem dX11_set_27 : decode cX11_set 27 = .ok (.lconst 1, 1) := by decide +kernel
theorem dX11_set_28 : decode cX11_set 28 = .ok (.goto 4, 3) := by decide +kernel
theorem dX11_set_31 : decode cX11_set 31 = .ok (.lconst 0, 1) := by decide +kernel
theorem dX11_set_32 : decode cX11_set 32 = .ok (.iload_n 2, 1) := by decide +kernel
theorem dX11_set_33 : decode cX11_set 33 = .ok (.iconst 1, 1) := by decide +kernel
theorem dX11_set_34 : decode cX11_set 34 = .ok (.if_icmp .ne 9, 3) := by decide +kernel
theorem dX11_set_37 : decode cX11_set 37 = .ok (.ldc2_w 65, 3) := by decide +kernel
theorem dX11_set_40 : decode cX11_set 40 = .ok (.goto 17, 3) := by decide +kernel
theorem dX11_set_43 : decode cX11_set 43 = .ok (.iload_n 2, 1) := by decide +kernel
theorem dX11_set_44 : decode cX11_set 44 = .ok (.iconst 2, 1) := by decide +kernel
theorem dX11_set_45 : decode cX11_set 45 = .ok (.if_icmp .ne 9, 3) := by decide +kernel
theorem dX11_set_48 : decode cX11_set 48 = .ok (.ldc2_w 67, 3) := by decide +kernel
theorem dX11_set_51 : decode cX11_set 51 = .ok (.goto 6, 3) := by decide +kernel
theorem dX11_set_54 : decode cX11_set 54 = .ok (.ldc2_w 69, 3) := by decide +kernel
theorem dX11_set_57 : decode cX11_set 57 = .ok (.invokestatic 51, 3) := by decide +kernel
theorem dX11_set_60 : decode cX11_set 60 = .ok (.ifCond .ne 5, 3) := by decide +kernel
theorem dX11_set_63 : decode cX11_set 63 = .ok (.iconst (-1), 1) := by decide +kernel
theorem dX11_set_64 : decode cX11_set 64 = .ok (.ireturn, 1) := by decide +kernel
theorem dX11_set_65 : decode cX11_set 65 = .ok (.bipush 44, 2) := by decide +kernel
theorem dX11_set_67 : decode cX11_set 67 = .ok (.iconst 5, 1) := by decide +kernel
theorem dX11_set_68 : decode cX11_set 68 = .ok (.iload_n 2, 1) := by decide +kernel
theorem dX11_set_69 : decode cX11_set 69 = .ok (.imul, 1) := by decide +kernel
theorem dX11_set_70 : decode cX11_set 70 = .ok (.iadd, 1) := by decide +kernel
theorem dX11_set_71 : decode cX11_set 71 = .ok (.iload_n 1, 1) := by decide +kernel
theorem dX11_set_72 : decode cX11_set 72 = .ok (.iadd, 1) := by decide +kernel
theorem dX11_set_73 : decode cX11_set 73 = .ok (.istore 4, 2) := by decide +kernel
theorem dX11_set_75 : decode cX11_set 75 = .ok (.aload_n 0, 1) := by decide +kernel
theorem dX11_set_76 : decode cX11_set 76 = .ok (.getfield 7, 3) := by decide +kernel
theorem dX11_set_79 : decode cX11_set 79 = .ok (.iload 4, 2) := by decide +kernel
end
section
theorem dX11_set_81 : decode cX11_set 81 = .ok (.iaload, 1) := by decide +kernel
theorem dX11_set_82 : decode cX11_set 82 = .ok (.istore 5, 2) := by decide +kernel
theorem dX11_set_84 : decode cX11_set 84 = .ok (.aload_n 0, 1) := by decide +kernel
theorem dX11_set_85 : decode cX11_set 85 = .ok (.getfield 7, 3) := by decide +kernel
theorem dX11_set_88 : decode cX11_set 88 = .ok (.iload 4, 2) := by decide +kernel
theorem dX11_set_90 : decode cX11_set 90 = .ok (.iload_n 3, 1) := by decide +kernel
theorem dX11_set_91 : decode cX11_set 91 = .ok (.iastore, 1) := by decide +kernel
theorem dX11_set_92 : decode cX11_set 92 = .ok (.iload 5, 2) := by decide +kernel
theorem dX11_set_94 : decode cX11_set 94 = .ok (.ireturn, 1) := by decide +kernel
theorem dX11_brings_0 : decode cX11_brings 0 = .ok (.iload_n 1, 1) := by decide +kernel
theorem dX11_brings_1 : decode cX11_brings 1 = .ok (.iconst 5, 1) := by decide +kernel
theorem dX11_brings_2 : decode cX11_brings 2 = .ok (.if_icmp .ne 5, 3) := by decide +kernel
theorem dX11_brings_5 : decode cX11_brings 5 = .ok (.iconst 0, 1) := by decide +kernel
theorem dX11_brings_6 : decode cX11_brings 6 = .ok (.ireturn, 1) := by decide +kernel
theorem dX11_brings_7 : decode cX11_brings 7 = .ok (.aload_n 0, 1) := by decide +kernel
theorem dX11_brings_8 : decode cX11_brings 8 = .ok (.getfield 7, 3) := by decide +kernel
theorem dX11_brings_11 : decode cX11_brings 11 = .ok (.bipush 44, 2) := by decide +kernel
theorem dX11_brings_13 : decode cX11_brings 13 = .ok (.iload_n 1, 1) := by decide +kernel
theorem dX11_brings_14 : decode cX11_brings 14 = .ok (.iadd, 1) := by decide +kernel
theorem dX11_brings_15 : decode cX11_brings 15 = .ok (.iaload, 1) := by decide +kernel
theorem dX11_brings_16 : decode cX11_brings 16 = .ok (.iconst 1, 1) := by decide +kernel
theorem dX11_brings_17 : decode cX11_brings 17 = .ok (.if_icmp .eq 16, 3) := by decide +kernel
theorem dX11_brings_20 : decode cX11_brings 20 = .ok (.aload_n 0, 1) := by decide +kernel
theorem dX11_brings_21 : decode cX11_brings 21 = .ok (.getfield 7, 3) := by decide +kernel
theorem dX11_brings_24 : decode cX11_brings 24 = .ok (.bipush 44, 2) := by decide +kernel
theorem dX11_brings_26 : decode cX11_brings 26 = .ok (.iload_n 1, 1) := by decide +kernel
theorem dX11_brings_27 : decode cX11_brings 27 = .ok (.iadd, 1) := by decide +kernel
theorem dX11_brings_28 : decode cX11_brings 28 = .ok (.iaload, 1) := by decide +kernel
theorem dX11_brings_29 : decode cX11_brings 29 = .ok (.iconst 3, 1) := by decide +kernel
theorem dX11_brings_30 : decode cX11_brings 30 = .ok (.if_icmp .ne 7, 3) := by decide +kernel
theorem dX11_brings_33 : decode cX11_brings 33 = .ok (.iconst 1, 1) := by decide +kernel
theorem dX11_brings_34 : decode cX11_brings 34 = .ok (.goto 4, 3) := by decide +kernel
theorem dX11_brings_37 : decode cX11_brings 37 = .ok (.iconst 0, 1) := by decide +kernel
theorem dX11_brings_38 : decode cX11_brings 38 = .ok (.istore_n 2, 1) := by decide +kernel
theorem dX11_brings_39 : decode cX11_brings 39 = .ok (.iload_n 2, 1) := by decide +kernel
theorem dX11_brings_40 : decode cX11_brings 40 = .ok (.ifCond .eq 18, 3) := by decide +kernel
theorem dX11_brings_43 : decode cX11_brings 43 = .ok (.bipush 10, 2) := by decide +kernel
theorem dX11_brings_45 : decode cX11_brings 45 = .ok (.aload_n 0, 1) := by decide +kernel
theorem dX11_brings_46 : decode cX11_brings 46 = .ok (.getfield 7, 3) := by decide +kernel
theorem dX11_brings_49 : decode cX11_brings 49 = .ok (.bipush 49, 2) := by decide +kernel
theorem dX11_brings_51 : decode cX11_brings 51 = .ok (.iload_n 1, 1) := by decide +kernel
theorem dX11_brings_52 : decode cX11_brings 52 = .ok (.iadd, 1) := by decide +kernel
theorem dX11_brings_53 : decode cX11_brings 53 = .ok (.iaload, 1) := by decide +kernel
theorem dX11_brings_54 : decode cX11_brings 54 = .ok (.isub, 1) := by decide +kernel
theorem dX11_brings_55 : decode cX11_brings 55 = .ok (.goto 12, 3) := by decide +kernel
theorem dX11_brings_58 : decode cX11_brings 58 = .ok (.aload_n 0, 1) := by decide +kernel
theorem dX11_brings_59 : decode cX11_brings 59 = .ok (.getfield 7, 3) := by decide +kernel
theorem dX11_brings_62 : decode cX11_brings 62 = .ok (.bipush 49, 2) := by decide +kernel
theorem dX11_brings_64 : decode cX11_brings 64 = .ok (.iload_n 1, 1) := by decide +kernel
theorem dX11_brings_65 : decode cX11_brings 65 = .ok (.iadd, 1) := by decide +kernel
theorem dX11_brings_66 : decode cX11_brings 66 = .ok (.iaload, 1) := by decide +kernel
theorem dX11_brings_67 : decode cX11_brings 67 = .ok (.ireturn, 1) := by decide +kernel
theorem dX11_told_0 : decode cX11_told 0 = .ok (.aload_n 0, 1) := by decide +kernel
theorem dX11_told_1 : decode cX11_told 1 = .ok (.iload_n 1, 1) := by decide +kernel
theorem dX11_told_2 : decode cX11_told 2 = .ok (.invokevirtual 71, 3) := by decide +kernel
theorem dX11_told_5 : decode cX11_told 5 = .ok (.ifCond .eq 15, 3) := by decide +kernel
theorem dX11_told_8 : decode cX11_told 8 = .ok (.iload_n 2, 1) := by decide +kernel
theorem dX11_told_9 : decode cX11_told 9 = .ok (.i2l, 1) := by decide +kernel
theorem dX11_told_10 : decode cX11_told 10 = .ok (.lconst 0, 1) := by decide +kernel
theorem dX11_told_11 : decode cX11_told 11 = .ok (.ldc2_w 74, 3) := by decide +kernel
theorem dX11_told_14 : decode cX11_told 14 = .ok (.invokestatic 51, 3) := by decide +kernel
theorem dX11_told_17 : decode cX11_told 17 = .ok (.ifCond .ne 5, 3) := by decide +kernel
theorem dX11_told_20 : decode cX11_told 20 = .ok (.iconst (-1), 1) := by decide +kernel
theorem dX11_told_21 : decode cX11_told 21 = .ok (.ireturn, 1) := by decide +kernel
theorem dX11_told_22 : decode cX11_told 22 = .ok (.iload_n 2, 1) := by decide +kernel
theorem dX11_told_23 : decode cX11_told 23 = .ok (.iconst 4, 1) := by decide +kernel
theorem dX11_told_24 : decode cX11_told 24 = .ok (.if_icmp .ne 11, 3) := by decide +kernel
theorem dX11_told_27 : decode cX11_told 27 = .ok (.aload_n 0, 1) := by decide +kernel
theorem dX11_told_28 : decode cX11_told 28 = .ok (.iload_n 1, 1) := by decide +kernel
theorem dX11_told_29 : decode cX11_told 29 = .ok (.invokevirtual 76, 3) := by decide +kernel
theorem dX11_told_32 : decode cX11_told 32 = .ok (.goto 16, 3) := by decide +kernel
theorem dX11_told_35 : decode cX11_told 35 = .ok (.aload_n 0, 1) := by decide +kernel
theorem dX11_told_36 : decode cX11_told 36 = .ok (.getfield 7, 3) := by decide +kernel
theorem dX11_told_39 : decode cX11_told 39 = .ok (.bipush 44, 2) := by decide +kernel
theorem dX11_told_41 : decode cX11_told 41 = .ok (.iconst 5, 1) := by decide +kernel
theorem dX11_told_42 : decode cX11_told 42 = .ok (.iload_n 2, 1) := by decide +kernel
theorem dX11_told_43 : decode cX11_told 43 = .ok (.imul, 1) := by decide +kernel
theorem dX11_told_44 : decode cX11_told 44 = .ok (.iadd, 1) := by decide +kernel
theorem dX11_told_45 : decode cX11_told 45 = .ok (.iload_n 1, 1) := by decide +kernel
theorem dX11_told_46 : decode cX11_told 46 = .ok (.iadd, 1) := by decide +kernel
theorem dX11_told_47 : decode cX11_told 47 = .ok (.iaload, 1) := by decide +kernel
theorem dX11_told_48 : decode cX11_told 48 = .ok (.ireturn, 1) := by decide +kernel
theorem dX11_of_0 : decode cX11_of 0 = .ok (.aload_n 0, 1) := by decide +kernel
theorem dX11_of_1 : decode cX11_of 1 = .ok (.iload_n 1, 1) := by decide +kernel
theorem dX11_of_2 : decode cX11_of 2 = .ok (.invokevirtual 61, 3) := by decide +kernel
theorem dX11_of_5 : decode cX11_of 5 = .ok (.ifCond .eq 31, 3) := by decide +kernel
theorem dX11_of_8 : decode cX11_of 8 = .ok (.iload_n 2, 1) := by decide +kernel
theorem dX11_of_9 : decode cX11_of 9 = .ok (.i2l, 1) := by decide +kernel
theorem dX11_of_10 : decode cX11_of 10 = .ok (.lconst 0, 1) := by decide +kernel
theorem dX11_of_11 : decode cX11_of 11 = .ok (.ldc2_w 80, 3) := by decide +kernel
theorem dX11_of_14 : decode cX11_of 14 = .ok (.invokestatic 51, 3) := by decide +kernel
theorem dX11_of_17 : decode cX11_of 17 = .ok (.ifCond .eq 19, 3) := by decide +kernel
theorem dX11_of_20 : decode cX11_of 20 = .ok (.aload_n 0, 1) := by decide +kernel
theorem dX11_of_21 : decode cX11_of 21 = .ok (.getfield 7, 3) := by decide +kernel
theorem dX11_of_24 : decode cX11_of 24 = .ok (.iconst 1, 1) := by decide +kernel
theorem dX11_of_25 : decode cX11_of 25 = .ok (.bipush 6, 2) := by decide +kernel
theorem dX11_of_27 : decode cX11_of 27 = .ok (.iload_n 2, 1) := by decide +kernel
theorem dX11_of_28 : decode cX11_of 28 = .ok (.imul, 1) := by decide +kernel
theorem dX11_of_29 : decode cX11_of 29 = .ok (.iadd, 1) := by decide +kernel
theorem dX11_of_30 : decode cX11_of 30 = .ok (.iload_n 1, 1) := by decide +kernel
theorem dX11_of_31 : decode cX11_of 31 = .ok (.iadd, 1) := by decide +kernel
theorem dX11_of_32 : decode cX11_of 32 = .ok (.iaload, 1) := by decide +kernel
theorem dX11_of_33 : decode cX11_of 33 = .ok (.goto 4, 3) := by decide +kernel
theorem dX11_of_36 : decode cX11_of 36 = .ok (.iconst (-1), 1) := by decide +kernel
theorem dX11_of_37 : decode cX11_of 37 = .ok (.ireturn, 1) := by decide +kernel
theorem dX11_price_0 : decode cX11_price 0 = .ok (.iload_n 1, 1) := by decide +kernel
theorem dX11_price_1 : decode cX11_price 1 = .ok (.i2l, 1) := by decide +kernel
theorem dX11_price_2 : decode cX11_price 2 = .ok (.lconst 0, 1) := by decide +kernel
theorem dX11_price_3 : decode cX11_price 3 = .ok (.ldc2_w 65, 3) := by decide +kernel
theorem dX11_price_6 : decode cX11_price 6 = .ok (.invokestatic 51, 3) := by decide +kernel
theorem dX11_price_9 : decode cX11_price 9 = .ok (.ifCond .eq 17, 3) := by decide +kernel
theorem dX11_price_12 : decode cX11_price 12 = .ok (.iload_n 2, 1) := by decide +kernel
theorem dX11_price_13 : decode cX11_price 13 = .ok (.i2l, 1) := by decide +kernel
theorem dX11_price_14 : decode cX11_price 14 = .ok (.ldc2_w 82, 3) := by decide +kernel
theorem dX11_price_17 : decode cX11_price 17 = .ok (.ldc2_w 67, 3) := by decide +kernel
theorem dX11_price_20 : decode cX11_price 20 = .ok (.invokestatic 51, 3) := by decide +kernel
theorem dX11_price_23 : decode cX11_price 23 = .ok (.ifCond .ne 6, 3) := by decide +kernel
theorem dX11_price_26 : decode cX11_price 26 = .ok (.ldc 84, 2) := by decide +kernel
theorem dX11_price_28 : decode cX11_price 28 = .ok (.ireturn, 1) := by decide +kernel
theorem dX11_price_29 : decode cX11_price 29 = .ok (.aload_n 0, 1) := by decide +kernel
theorem dX11_price_30 : decode cX11_price 30 = .ok (.getfield 7, 3) := by decide +kernel
theorem dX11_price_33 : decode cX11_price 33 = .ok (.bipush 64, 2) := by decide +kernel
theorem dX11_price_35 : decode cX11_price 35 = .ok (.iload_n 1, 1) := by decide +kernel
theorem dX11_price_36 : decode cX11_price 36 = .ok (.iadd, 1) := by decide +kernel
theorem dX11_price_37 : decode cX11_price 37 = .ok (.iaload, 1) := by decide +kernel
theorem dX11_price_38 : decode cX11_price 38 = .ok (.istore_n 3, 1) := by decide +kernel
theorem dX11_price_39 : decode cX11_price 39 = .ok (.aload_n 0, 1) := by decide +kernel
theorem dX11_price_40 : decode cX11_price 40 = .ok (.getfield 7, 3) := by decide +kernel
theorem dX11_price_43 : decode cX11_price 43 = .ok (.bipush 64, 2) := by decide +kernel
theorem dX11_price_45 : decode cX11_price 45 = .ok (.iload_n 1, 1) := by decide +kernel
theorem dX11_price_46 : decode cX11_price 46 = .ok (.iadd, 1) := by decide +kernel
theorem dX11_price_47 : decode cX11_price 47 = .ok (.iload_n 2, 1) := by decide +kernel
theorem dX11_price_48 : decode cX11_price 48 = .ok (.iastore, 1) := by decide +kernel
theorem dX11_price_49 : decode cX11_price 49 = .ok (.iload_n 3, 1) := by decide +kernel
theorem dX11_price_50 : decode cX11_price 50 = .ok (.ireturn, 1) := by decide +kernel
theorem dX11_isSet_0 : decode cX11_isSet 0 = .ok (.iload_n 1, 1) := by decide +kernel
theorem dX11_isSet_1 : decode cX11_isSet 1 = .ok (.i2l, 1) := by decide +kernel
theorem dX11_isSet_2 : decode cX11_isSet 2 = .ok (.lconst 0, 1) := by decide +kernel
theorem dX11_isSet_3 : decode cX11_isSet 3 = .ok (.iconst 1, 1) := by decide +kernel
theorem dX11_isSet_4 : decode cX11_isSet 4 = .ok (.aload_n 0, 1) := by decide +kernel
theorem dX11_isSet_5 : decode cX11_isSet 5 = .ok (.getfield 7, 3) := by decide +kernel
theorem dX11_isSet_8 : decode cX11_isSet 8 = .ok (.bipush 43, 2) := by decide +kernel
theorem dX11_isSet_10 : decode cX11_isSet 10 = .ok (.iaload, 1) := by decide +kernel
theorem dX11_isSet_11 : decode cX11_isSet 11 = .ok (.ishl, 1) := by decide +kernel
theorem dX11_isSet_12 : decode cX11_isSet 12 = .ok (.iconst 1, 1) := by decide +kernel
theorem dX11_isSet_13 : decode cX11_isSet 13 = .ok (.isub, 1) := by decide +kernel
theorem dX11_isSet_14 : decode cX11_isSet 14 = .ok (.i2l, 1) := by decide +kernel
theorem dX11_isSet_15 : decode cX11_isSet 15 = .ok (.invokestatic 51, 3) := by decide +kernel
theorem dX11_isSet_18 : decode cX11_isSet 18 = .ok (.ireturn, 1) := by decide +kernel
theorem dX11_fence_0 : decode cX11_fence 0 = .ok (.aload_n 0, 1) := by decide +kernel
theorem dX11_fence_1 : decode cX11_fence 1 = .ok (.iload_n 1, 1) := by decide +kernel
theorem dX11_fence_2 : decode cX11_fence 2 = .ok (.invokevirtual 61, 3) := by decide +kernel
theorem dX11_fence_5 : decode cX11_fence 5 = .ok (.ifCond .eq 11, 3) := by decide +kernel
theorem dX11_fence_8 : decode cX11_fence 8 = .ok (.aload_n 0, 1) := by decide +kernel
theorem dX11_fence_9 : decode cX11_fence 9 = .ok (.iload_n 2, 1) := by decide +kernel
theorem dX11_fence_10 : decode cX11_fence 10 = .ok (.invokevirtual 85, 3) := by decide +kernel
theorem dX11_fence_13 : decode cX11_fence 13 = .ok (.ifCond .ne 5, 3) := by decide +kernel
theorem dX11_fence_16 : decode cX11_fence 16 = .ok (.iconst (-1), 1) := by decide +kernel
theorem dX11_fence_17 : decode cX11_fence 17 = .ok (.ireturn, 1) := by decide +kernel
theorem dX11_fence_18 : decode cX11_fence 18 = .ok (.aload_n 0, 1) := by decide +kernel
theorem dX11_fence_19 : decode cX11_fence 19 = .ok (.getfield 7, 3) := by decide +kernel
theorem dX11_fence_22 : decode cX11_fence 22 = .ok (.bipush 7, 2) := by decide +kernel
theorem dX11_fence_24 : decode cX11_fence 24 = .ok (.iload_n 1, 1) := by decide +kernel
theorem dX11_fence_25 : decode cX11_fence 25 = .ok (.iadd, 1) := by decide +kernel
theorem dX11_fence_26 : decode cX11_fence 26 = .ok (.iaload, 1) := by decide +kernel
theorem dX11_fence_27 : decode cX11_fence 27 = .ok (.iconst 5, 1) := by decide +kernel
theorem dX11_fence_28 : decode cX11_fence 28 = .ok (.if_icmp .eq 22, 3) := by decide +kernel
theorem dX11_fence_31 : decode cX11_fence 31 = .ok (.iload_n 2, 1) := by decide +kernel
theorem dX11_fence_32 : decode cX11_fence 32 = .ok (.aload_n 0, 1) := by decide +kernel
theorem dX11_fence_33 : decode cX11_fence 33 = .ok (.getfield 7, 3) := by decide +kernel
theorem dX11_fence_36 : decode cX11_fence 36 = .ok (.bipush 7, 2) := by decide +kernel
theorem dX11_fence_38 : decode cX11_fence 38 = .ok (.iload_n 1, 1) := by decide +kernel
theorem dX11_fence_39 : decode cX11_fence 39 = .ok (.iadd, 1) := by decide +kernel
theorem dX11_fence_40 : decode cX11_fence 40 = .ok (.iaload, 1) := by decide +kernel
theorem dX11_fence_41 : decode cX11_fence 41 = .ok (.invokestatic 88, 3) := by decide +kernel
theorem dX11_fence_44 : decode cX11_fence 44 = .ok (.ifCond .eq 6, 3) := by decide +kernel
theorem dX11_fence_47 : decode cX11_fence 47 = .ok (.bipush (-2), 2) := by decide +kernel
theorem dX11_fence_49 : decode cX11_fence 49 = .ok (.ireturn, 1) := by decide +kernel
theorem dX11_fence_50 : decode cX11_fence 50 = .ok (.aload_n 0, 1) := by decide +kernel
theorem dX11_fence_51 : decode cX11_fence 51 = .ok (.getfield 7, 3) := by decide +kernel
theorem dX11_fence_54 : decode cX11_fence 54 = .ok (.bipush 37, 2) := by decide +kernel
theorem dX11_fence_56 : decode cX11_fence 56 = .ok (.iload_n 1, 1) := by decide +kernel
theorem dX11_fence_57 : decode cX11_fence 57 = .ok (.iadd, 1) := by decide +kernel
theorem dX11_fence_58 : decode cX11_fence 58 = .ok (.iaload, 1) := by decide +kernel
theorem dX11_fence_59 : decode cX11_fence 59 = .ok (.istore_n 3, 1) := by decide +kernel
theorem dX11_fence_60 : decode cX11_fence 60 = .ok (.aload_n 0, 1) := by decide +kernel
theorem dX11_fence_61 : decode cX11_fence 61 = .ok (.getfield 7, 3) := by decide +kernel
theorem dX11_fence_64 : decode cX11_fence 64 = .ok (.bipush 37, 2) := by decide +kernel
theorem dX11_fence_66 : decode cX11_fence 66 = .ok (.iload_n 1, 1) := by decide +kernel
theorem dX11_fence_67 : decode cX11_fence 67 = .ok (.iadd, 1) := by decide +kernel
theorem dX11_fence_68 : decode cX11_fence 68 = .ok (.iload_n 2, 1) := by decide +kernel
theorem dX11_fence_69 : decode cX11_fence 69 = .ok (.iastore, 1) := by decide +kernel
theorem dX11_fence_70 : decode cX11_fence 70 = .ok (.iload_n 3, 1) := by decide +kernel
theorem dX11_fence_71 : decode cX11_fence 71 = .ok (.ireturn, 1) := by decide +kernel
theorem dX11_climb_0 : decode cX11_climb 0 = .ok (.aload_n 0, 1) := by decide +kernel
theorem dX11_climb_1 : decode cX11_climb 1 = .ok (.iload_n 1, 1) := by decide +kernel
theorem dX11_climb_2 : decode cX11_climb 2 = .ok (.invokevirtual 61, 3) := by decide +kernel
theorem dX11_climb_5 : decode cX11_climb 5 = .ok (.ifCond .eq 16, 3) := by decide +kernel
theorem dX11_climb_8 : decode cX11_climb 8 = .ok (.aload_n 0, 1) := by decide +kernel
theorem dX11_climb_9 : decode cX11_climb 9 = .ok (.iload_n 2, 1) := by decide +kernel
theorem dX11_climb_10 : decode cX11_climb 10 = .ok (.invokevirtual 71, 3) := by decide +kernel
theorem dX11_climb_13 : decode cX11_climb 13 = .ok (.ifCond .ne 10, 3) := by decide +kernel
theorem dX11_climb_16 : decode cX11_climb 16 = .ok (.iload_n 2, 1) := by decide +kernel
theorem dX11_climb_17 : decode cX11_climb 17 = .ok (.iconst 5, 1) := by decide +kernel
theorem dX11_climb_18 : decode cX11_climb 18 = .ok (.if_icmp .eq 5, 3) := by decide +kernel
theorem dX11_climb_21 : decode cX11_climb 21 = .ok (.iconst (-1), 1) := by decide +kernel
theorem dX11_climb_22 : decode cX11_climb 22 = .ok (.ireturn, 1) := by decide +kernel
theorem dX11_climb_23 : decode cX11_climb 23 = .ok (.iload_n 2, 1) := by decide +kernel
theorem dX11_climb_24 : decode cX11_climb 24 = .ok (.iconst 5, 1) := by decide +kernel
theorem dX11_climb_25 : decode cX11_climb 25 = .ok (.if_icmp .eq 19, 3) := by decide +kernel
theorem dX11_climb_28 : decode cX11_climb 28 = .ok (.aload_n 0, 1) := by decide +kernel
theorem dX11_climb_29 : decode cX11_climb 29 = .ok (.getfield 7, 3) := by decide +kernel
theorem dX11_climb_32 : decode cX11_climb 32 = .ok (.bipush 37, 2) := by decide +kernel
theorem dX11_climb_34 : decode cX11_climb 34 = .ok (.iload_n 1, 1) := by decide +kernel
theorem dX11_climb_35 : decode cX11_climb 35 = .ok (.iadd, 1) := by decide +kernel
theorem dX11_climb_36 : decode cX11_climb 36 = .ok (.iaload, 1) := by decide +kernel
theorem dX11_climb_37 : decode cX11_climb 37 = .ok (.iload_n 2, 1) := by decide +kernel
theorem dX11_climb_38 : decode cX11_climb 38 = .ok (.invokestatic 88, 3) := by decide +kernel
theorem dX11_climb_41 : decode cX11_climb 41 = .ok (.ifCond .ne 7, 3) := by decide +kernel
theorem dX11_climb_44 : decode cX11_climb 44 = .ok (.iconst 1, 1) := by decide +kernel
theorem dX11_climb_45 : decode cX11_climb 45 = .ok (.goto 4, 3) := by decide +kernel
theorem dX11_climb_48 : decode cX11_climb 48 = .ok (.iconst 0, 1) := by decide +kernel
theorem dX11_climb_49 : decode cX11_climb 49 = .ok (.istore_n 3, 1) := by decide +kernel
theorem dX11_climb_50 : decode cX11_climb 50 = .ok (.iconst 0, 1) := by decide +kernel
theorem dX11_climb_51 : decode cX11_climb 51 = .ok (.istore 4, 2) := by decide +kernel
theorem dX11_climb_53 : decode cX11_climb 53 = .ok (.iload 4, 2) := by decide +kernel
theorem dX11_climb_55 : decode cX11_climb 55 = .ok (.aload_n 0, 1) := by decide +kernel
theorem dX11_climb_56 : decode cX11_climb 56 = .ok (.getfield 7, 3) := by decide +kernel
theorem dX11_climb_59 : decode cX11_climb 59 = .ok (.iconst 0, 1) := by decide +kernel
theorem dX11_climb_60 : decode cX11_climb 60 = .ok (.iaload, 1) := by decide +kernel
theorem dX11_climb_61 : decode cX11_climb 61 = .ok (.if_icmp .ge 57, 3) := by decide +kernel
theorem dX11_climb_64 : decode cX11_climb 64 = .ok (.iload_n 3, 1) := by decide +kernel
theorem dX11_climb_65 : decode cX11_climb 65 = .ok (.ifCond .eq 45, 3) := by decide +kernel
theorem dX11_climb_68 : decode cX11_climb 68 = .ok (.iload_n 2, 1) := by decide +kernel
theorem dX11_climb_69 : decode cX11_climb 69 = .ok (.iconst 5, 1) := by decide +kernel
theorem dX11_climb_70 : decode cX11_climb 70 = .ok (.if_icmp .eq 36, 3) := by decide +kernel
theorem dX11_climb_73 : decode cX11_climb 73 = .ok (.iload 4, 2) := by decide +kernel
theorem dX11_climb_75 : decode cX11_climb 75 = .ok (.iload_n 1, 1) := by decide +kernel
theorem dX11_climb_76 : decode cX11_climb 76 = .ok (.if_icmp .eq 30, 3) := by decide +kernel
theorem dX11_climb_79 : decode cX11_climb 79 = .ok (.aload_n 0, 1) := by decide +kernel
theorem dX11_climb_80 : decode cX11_climb 80 = .ok (.getfield 7, 3) := by decide +kernel
theorem dX11_climb_83 : decode cX11_climb 83 = .ok (.bipush 7, 2) := by decide +kernel
theorem dX11_climb_85 : decode cX11_climb 85 = .ok (.iload 4, 2) := by decide +kernel
theorem dX11_climb_87 : decode cX11_climb 87 = .ok (.iadd, 1) := by decide +kernel
theorem dX11_climb_88 : decode cX11_climb 88 = .ok (.iaload, 1) := by decide +kernel
theorem dX11_climb_89 : decode cX11_climb 89 = .ok (.iload_n 2, 1) := by decide +kernel
theorem dX11_climb_90 : decode cX11_climb 90 = .ok (.if_icmp .ne 16, 3) := by decide +kernel
theorem dX11_climb_93 : decode cX11_climb 93 = .ok (.aload_n 0, 1) := by decide +kernel
theorem dX11_climb_94 : decode cX11_climb 94 = .ok (.getfield 7, 3) := by decide +kernel
theorem dX11_climb_97 : decode cX11_climb 97 = .ok (.bipush 44, 2) := by decide +kernel
theorem dX11_climb_99 : decode cX11_climb 99 = .ok (.iload_n 2, 1) := by decide +kernel
theorem dX11_climb_100 : decode cX11_climb 100 = .ok (.iadd, 1) := by decide +kernel
theorem dX11_climb_101 : decode cX11_climb 101 = .ok (.iaload, 1) := by decide +kernel
theorem dX11_climb_102 : decode cX11_climb 102 = .ok (.iconst 2, 1) := by decide +kernel
theorem dX11_climb_103 : decode cX11_climb 103 = .ok (.if_icmp .ne 7, 3) := by decide +kernel
theorem dX11_climb_106 : decode cX11_climb 106 = .ok (.iconst 1, 1) := by decide +kernel
theorem dX11_climb_107 : decode cX11_climb 107 = .ok (.goto 4, 3) := by decide +kernel
theorem dX11_climb_110 : decode cX11_climb 110 = .ok (.iconst 0, 1) := by decide +kernel
theorem dX11_climb_111 : decode cX11_climb 111 = .ok (.istore_n 3, 1) := by decide +kernel
theorem dX11_climb_112 : decode cX11_climb 112 = .ok (.iinc 4 1, 3) := by decide +kernel
theorem dX11_climb_115 : decode cX11_climb 115 = .ok (.goto (-62), 3) := by decide +kernel
theorem dX11_climb_118 : decode cX11_climb 118 = .ok (.iload_n 3, 1) := by decide +kernel
theorem dX11_climb_119 : decode cX11_climb 119 = .ok (.ifCond .ne 6, 3) := by decide +kernel
theorem dX11_climb_122 : decode cX11_climb 122 = .ok (.bipush (-2), 2) := by decide +kernel
theorem dX11_climb_124 : decode cX11_climb 124 = .ok (.ireturn, 1) := by decide +kernel
theorem dX11_climb_125 : decode cX11_climb 125 = .ok (.aload_n 0, 1) := by decide +kernel
theorem dX11_climb_126 : decode cX11_climb 126 = .ok (.getfield 7, 3) := by decide +kernel
theorem dX11_climb_129 : decode cX11_climb 129 = .ok (.bipush 7, 2) := by decide +kernel
theorem dX11_climb_131 : decode cX11_climb 131 = .ok (.iload_n 1, 1) := by decide +kernel
theorem dX11_climb_132 : decode cX11_climb 132 = .ok (.iadd, 1) := by decide +kernel
theorem dX11_climb_133 : decode cX11_climb 133 = .ok (.iaload, 1) := by decide +kernel
theorem dX11_climb_134 : decode cX11_climb 134 = .ok (.istore 4, 2) := by decide +kernel
theorem dX11_climb_136 : decode cX11_climb 136 = .ok (.aload_n 0, 1) := by decide +kernel
theorem dX11_climb_137 : decode cX11_climb 137 = .ok (.getfield 7, 3) := by decide +kernel
theorem dX11_climb_140 : decode cX11_climb 140 = .ok (.bipush 7, 2) := by decide +kernel
theorem dX11_climb_142 : decode cX11_climb 142 = .ok (.iload_n 1, 1) := by decide +kernel
theorem dX11_climb_143 : decode cX11_climb 143 = .ok (.iadd, 1) := by decide +kernel
theorem dX11_climb_144 : decode cX11_climb 144 = .ok (.iload_n 2, 1) := by decide +kernel
theorem dX11_climb_145 : decode cX11_climb 145 = .ok (.iastore, 1) := by decide +kernel
theorem dX11_climb_146 : decode cX11_climb 146 = .ok (.iload 4, 2) := by decide +kernel
theorem dX11_climb_148 : decode cX11_climb 148 = .ok (.ireturn, 1) := by decide +kernel
theorem dX11_type_0 : decode cX11_type 0 = .ok (.iload_n 1, 1) := by decide +kernel
theorem dX11_type_1 : decode cX11_type 1 = .ok (.i2l, 1) := by decide +kernel
theorem dX11_type_2 : decode cX11_type 2 = .ok (.ldc2_w 92, 3) := by decide +kernel
theorem dX11_type_5 : decode cX11_type 5 = .ok (.ldc2_w 94, 3) := by decide +kernel
theorem dX11_type_8 : decode cX11_type 8 = .ok (.invokestatic 51, 3) := by decide +kernel
theorem dX11_type_11 : decode cX11_type 11 = .ok (.ifCond .ne 5, 3) := by decide +kernel
theorem dX11_type_14 : decode cX11_type 14 = .ok (.iconst (-1), 1) := by decide +kernel
theorem dX11_type_15 : decode cX11_type 15 = .ok (.ireturn, 1) := by decide +kernel
theorem dX11_type_16 : decode cX11_type 16 = .ok (.aload_n 0, 1) := by decide +kernel
theorem dX11_type_17 : decode cX11_type 17 = .ok (.getfield 96, 3) := by decide +kernel
theorem dX11_type_20 : decode cX11_type 20 = .ok (.bipush 60, 2) := by decide +kernel
theorem dX11_type_22 : decode cX11_type 22 = .ok (.if_icmp .ne 6, 3) := by decide +kernel
theorem dX11_type_25 : decode cX11_type 25 = .ok (.bipush (-3), 2) := by decide +kernel
theorem dX11_type_27 : decode cX11_type 27 = .ok (.ireturn, 1) := by decide +kernel
theorem dX11_type_28 : decode cX11_type 28 = .ok (.aload_n 0, 1) := by decide +kernel
theorem dX11_type_29 : decode cX11_type 29 = .ok (.getfield 13, 3) := by decide +kernel
theorem dX11_type_32 : decode cX11_type 32 = .ok (.aload_n 0, 1) := by decide +kernel
theorem dX11_type_33 : decode cX11_type 33 = .ok (.getfield 96, 3) := by decide +kernel
theorem dX11_type_36 : decode cX11_type 36 = .ok (.iload_n 1, 1) := by decide +kernel
theorem dX11_type_37 : decode cX11_type 37 = .ok (.iastore, 1) := by decide +kernel
theorem dX11_type_38 : decode cX11_type 38 = .ok (.aload_n 0, 1) := by decide +kernel
theorem dX11_type_39 : decode cX11_type 39 = .ok (.dup, 1) := by decide +kernel
theorem dX11_type_40 : decode cX11_type 40 = .ok (.getfield 96, 3) := by decide +kernel
theorem dX11_type_43 : decode cX11_type 43 = .ok (.iconst 1, 1) := by decide +kernel
theorem dX11_type_44 : decode cX11_type 44 = .ok (.iadd, 1) := by decide +kernel
theorem dX11_type_45 : decode cX11_type 45 = .ok (.putfield 96, 3) := by decide +kernel
theorem dX11_type_48 : decode cX11_type 48 = .ok (.aload_n 0, 1) := by decide +kernel
theorem dX11_type_49 : decode cX11_type 49 = .ok (.getfield 96, 3) := by decide +kernel
theorem dX11_type_52 : decode cX11_type 52 = .ok (.ireturn, 1) := by decide +kernel
theorem dX11_ahead_0 : decode cX11_ahead 0 = .ok (.aload_n 0, 1) := by decide +kernel
theorem dX11_ahead_1 : decode cX11_ahead 1 = .ok (.getfield 100, 3) := by decide +kernel
theorem dX11_ahead_4 : decode cX11_ahead 4 = .ok (.aload_n 0, 1) := by decide +kernel
theorem dX11_ahead_5 : decode cX11_ahead 5 = .ok (.getfield 96, 3) := by decide +kernel
theorem dX11_ahead_8 : decode cX11_ahead 8 = .ok (.if_icmp .ge 30, 3) := by decide +kernel
theorem dX11_ahead_11 : decode cX11_ahead 11 = .ok (.aload_n 0, 1) := by decide +kernel
theorem dX11_ahead_12 : decode cX11_ahead 12 = .ok (.getfield 13, 3) := by decide +kernel
theorem dX11_ahead_15 : decode cX11_ahead 15 = .ok (.aload_n 0, 1) := by decide +kernel
theorem dX11_ahead_16 : decode cX11_ahead 16 = .ok (.getfield 100, 3) := by decide +kernel
theorem dX11_ahead_19 : decode cX11_ahead 19 = .ok (.iaload, 1) := by decide +kernel
theorem dX11_ahead_20 : decode cX11_ahead 20 = .ok (.bipush 32, 2) := by decide +kernel
theorem dX11_ahead_22 : decode cX11_ahead 22 = .ok (.if_icmp .ne 16, 3) := by decide +kernel
theorem dX11_ahead_25 : decode cX11_ahead 25 = .ok (.aload_n 0, 1) := by decide +kernel
theorem dX11_ahead_26 : decode cX11_ahead 26 = .ok (.dup, 1) := by decide +kernel
theorem dX11_ahead_27 : decode cX11_ahead 27 = .ok (.getfield 100, 3) := by decide +kernel
theorem dX11_ahead_30 : decode cX11_ahead 30 = .ok (.iconst 1, 1) := by decide +kernel
theorem dX11_ahead_31 : decode cX11_ahead 31 = .ok (.iadd, 1) := by decide +kernel
theorem dX11_ahead_32 : decode cX11_ahead 32 = .ok (.putfield 100, 3) := by decide +kernel
theorem dX11_ahead_35 : decode cX11_ahead 35 = .ok (.goto (-35), 3) := by decide +kernel
theorem dX11_ahead_38 : decode cX11_ahead 38 = .ok (.aload_n 0, 1) := by decide +kernel
theorem dX11_ahead_39 : decode cX11_ahead 39 = .ok (.getfield 100, 3) := by decide +kernel
theorem dX11_ahead_42 : decode cX11_ahead 42 = .ok (.aload_n 0, 1) := by decide +kernel
theorem dX11_ahead_43 : decode cX11_ahead 43 = .ok (.getfield 96, 3) := by decide +kernel
theorem dX11_ahead_46 : decode cX11_ahead 46 = .ok (.if_icmp .ge 15, 3) := by decide +kernel
theorem dX11_ahead_49 : decode cX11_ahead 49 = .ok (.aload_n 0, 1) := by decide +kernel
theorem dX11_ahead_50 : decode cX11_ahead 50 = .ok (.getfield 13, 3) := by decide +kernel
theorem dX11_ahead_53 : decode cX11_ahead 53 = .ok (.aload_n 0, 1) := by decide +kernel
theorem dX11_ahead_54 : decode cX11_ahead 54 = .ok (.getfield 100, 3) := by decide +kernel
theorem dX11_ahead_57 : decode cX11_ahead 57 = .ok (.iaload, 1) := by decide +kernel
theorem dX11_ahead_58 : decode cX11_ahead 58 = .ok (.goto 4, 3) := by decide +kernel
theorem dX11_ahead_61 : decode cX11_ahead 61 = .ok (.iconst (-1), 1) := by decide +kernel
theorem dX11_ahead_62 : decode cX11_ahead 62 = .ok (.ireturn, 1) := by decide +kernel
theorem dX11_whoIs_0 : decode cX11_whoIs 0 = .ok (.iload_n 1, 1) := by decide +kernel
theorem dX11_whoIs_1 : decode cX11_whoIs 1 = .ok (.bipush 102, 2) := by decide +kernel
theorem dX11_whoIs_3 : decode cX11_whoIs 3 = .ok (.if_icmp .ne 7, 3) := by decide +kernel
theorem dX11_whoIs_6 : decode cX11_whoIs 6 = .ok (.iconst 5, 1) := by decide +kernel
theorem dX11_whoIs_7 : decode cX11_whoIs 7 = .ok (.goto 36, 3) := by decide +kernel
theorem dX11_whoIs_10 : decode cX11_whoIs 10 = .ok (.iload_n 1, 1) := by decide +kernel
theorem dX11_whoIs_11 : decode cX11_whoIs 11 = .ok (.i2l, 1) := by decide +kernel
theorem dX11_whoIs_12 : decode cX11_whoIs 12 = .ok (.ldc2_w 103, 3) := by decide +kernel
theorem dX11_whoIs_15 : decode cX11_whoIs 15 = .ok (.ldc2_w 105, 3) := by decide +kernel
theorem dX11_whoIs_18 : decode cX11_whoIs 18 = .ok (.invokestatic 51, 3) := by decide +kernel
theorem dX11_whoIs_21 : decode cX11_whoIs 21 = .ok (.ifCond .eq 21, 3) := by decide +kernel
theorem dX11_whoIs_24 : decode cX11_whoIs 24 = .ok (.aload_n 0, 1) := by decide +kernel
theorem dX11_whoIs_25 : decode cX11_whoIs 25 = .ok (.iload_n 1, 1) := by decide +kernel
theorem dX11_whoIs_26 : decode cX11_whoIs 26 = .ok (.bipush 97, 2) := by decide +kernel
theorem dX11_whoIs_28 : decode cX11_whoIs 28 = .ok (.isub, 1) := by decide +kernel
theorem dX11_whoIs_29 : decode cX11_whoIs 29 = .ok (.invokevirtual 71, 3) := by decide +kernel
theorem dX11_whoIs_32 : decode cX11_whoIs 32 = .ok (.ifCond .eq 10, 3) := by decide +kernel
theorem dX11_whoIs_35 : decode cX11_whoIs 35 = .ok (.iload_n 1, 1) := by decide +kernel
theorem dX11_whoIs_36 : decode cX11_whoIs 36 = .ok (.bipush 97, 2) := by decide +kernel
theorem dX11_whoIs_38 : decode cX11_whoIs 38 = .ok (.isub, 1) := by decide +kernel
theorem dX11_whoIs_39 : decode cX11_whoIs 39 = .ok (.goto 4, 3) := by decide +kernel
theorem dX11_whoIs_42 : decode cX11_whoIs 42 = .ok (.iconst (-1), 1) := by decide +kernel
theorem dX11_whoIs_43 : decode cX11_whoIs 43 = .ok (.ireturn, 1) := by decide +kernel
theorem dX11_takesTree_0 : decode cX11_takesTree 0 = .ok (.aload_n 0, 1) := by decide +kernel
theorem dX11_takesTree_1 : decode cX11_takesTree 1 = .ok (.invokevirtual 107, 3) := by decide +kernel
theorem dX11_takesTree_4 : decode cX11_takesTree 4 = .ok (.istore_n 1, 1) := by decide +kernel
theorem dX11_takesTree_5 : decode cX11_takesTree 5 = .ok (.iload_n 1, 1) := by decide +kernel
theorem dX11_takesTree_6 : decode cX11_takesTree 6 = .ok (.bipush 80, 2) := by decide +kernel
theorem dX11_takesTree_8 : decode cX11_takesTree 8 = .ok (.if_icmp .ne 7, 3) := by decide +kernel
theorem dX11_takesTree_11 : decode cX11_takesTree 11 = .ok (.iconst 0, 1) := by decide +kernel
theorem dX11_takesTree_12 : decode cX11_takesTree 12 = .ok (.goto 34, 3) := by decide +kernel
theorem dX11_takesTree_15 : decode cX11_takesTree 15 = .ok (.iload_n 1, 1) := by decide +kernel
theorem dX11_takesTree_16 : decode cX11_takesTree 16 = .ok (.bipush 71, 2) := by decide +kernel
theorem dX11_takesTree_18 : decode cX11_takesTree 18 = .ok (.if_icmp .ne 7, 3) := by decide +kernel
theorem dX11_takesTree_21 : decode cX11_takesTree 21 = .ok (.iconst 1, 1) := by decide +kernel
theorem dX11_takesTree_22 : decode cX11_takesTree 22 = .ok (.goto 24, 3) := by decide +kernel
theorem dX11_takesTree_25 : decode cX11_takesTree 25 = .ok (.iload_n 1, 1) := by decide +kernel
theorem dX11_takesTree_26 : decode cX11_takesTree 26 = .ok (.bipush 68, 2) := by decide +kernel
theorem dX11_takesTree_28 : decode cX11_takesTree 28 = .ok (.if_icmp .ne 7, 3) := by decide +kernel
theorem dX11_takesTree_31 : decode cX11_takesTree 31 = .ok (.iconst 2, 1) := by decide +kernel
theorem dX11_takesTree_32 : decode cX11_takesTree 32 = .ok (.goto 14, 3) := by decide +kernel
theorem dX11_takesTree_35 : decode cX11_takesTree 35 = .ok (.iload_n 1, 1) := by decide +kernel
theorem dX11_takesTree_36 : decode cX11_takesTree 36 = .ok (.bipush 83, 2) := by decide +kernel
theorem dX11_takesTree_38 : decode cX11_takesTree 38 = .ok (.if_icmp .ne 7, 3) := by decide +kernel
theorem dX11_takesTree_41 : decode cX11_takesTree 41 = .ok (.iconst 3, 1) := by decide +kernel
theorem dX11_takesTree_42 : decode cX11_takesTree 42 = .ok (.goto 4, 3) := by decide +kernel
theorem dX11_takesTree_45 : decode cX11_takesTree 45 = .ok (.iconst (-1), 1) := by decide +kernel
theorem dX11_takesTree_46 : decode cX11_takesTree 46 = .ok (.istore_n 2, 1) := by decide +kernel
theorem dX11_takesTree_47 : decode cX11_takesTree 47 = .ok (.iload_n 2, 1) := by decide +kernel
theorem dX11_takesTree_48 : decode cX11_takesTree 48 = .ok (.ifCond .ge 5, 3) := by decide +kernel
theorem dX11_takesTree_51 : decode cX11_takesTree 51 = .ok (.iconst 0, 1) := by decide +kernel
theorem dX11_takesTree_52 : decode cX11_takesTree 52 = .ok (.ireturn, 1) := by decide +kernel
theorem dX11_takesTree_53 : decode cX11_takesTree 53 = .ok (.aload_n 0, 1) := by decide +kernel
theorem dX11_takesTree_54 : decode cX11_takesTree 54 = .ok (.getfield 16, 3) := by decide +kernel
theorem dX11_takesTree_57 : decode cX11_takesTree 57 = .ok (.iconst 3, 1) := by decide +kernel
theorem dX11_takesTree_58 : decode cX11_takesTree 58 = .ok (.aload_n 0, 1) := by decide +kernel
theorem dX11_takesTree_59 : decode cX11_takesTree 59 = .ok (.getfield 111, 3) := by decide +kernel
theorem dX11_takesTree_62 : decode cX11_takesTree 62 = .ok (.imul, 1) := by decide +kernel
theorem dX11_takesTree_63 : decode cX11_takesTree 63 = .ok (.iload_n 2, 1) := by decide +kernel
theorem dX11_takesTree_64 : decode cX11_takesTree 64 = .ok (.iastore, 1) := by decide +kernel
theorem dX11_takesTree_65 : decode cX11_takesTree 65 = .ok (.aload_n 0, 1) := by decide +kernel
theorem dX11_takesTree_66 : decode cX11_takesTree 66 = .ok (.getfield 16, 3) := by decide +kernel
theorem dX11_takesTree_69 : decode cX11_takesTree 69 = .ok (.iconst 3, 1) := by decide +kernel
theorem dX11_takesTree_70 : decode cX11_takesTree 70 = .ok (.aload_n 0, 1) := by decide +kernel
theorem dX11_takesTree_71 : decode cX11_takesTree 71 = .ok (.getfield 111, 3) := by decide +kernel
theorem dX11_takesTree_74 : decode cX11_takesTree 74 = .ok (.imul, 1) := by decide +kernel
theorem dX11_takesTree_75 : decode cX11_takesTree 75 = .ok (.iconst 1, 1) := by decide +kernel
theorem dX11_takesTree_76 : decode cX11_takesTree 76 = .ok (.iadd, 1) := by decide +kernel
theorem dX11_takesTree_77 : decode cX11_takesTree 77 = .ok (.iconst 5, 1) := by decide +kernel
theorem dX11_takesTree_78 : decode cX11_takesTree 78 = .ok (.iastore, 1) := by decide +kernel
theorem dX11_takesTree_79 : decode cX11_takesTree 79 = .ok (.aload_n 0, 1) := by decide +kernel
theorem dX11_takesTree_80 : decode cX11_takesTree 80 = .ok (.getfield 16, 3) := by decide +kernel
theorem dX11_takesTree_83 : decode cX11_takesTree 83 = .ok (.iconst 3, 1) := by decide +kernel
theorem dX11_takesTree_84 : decode cX11_takesTree 84 = .ok (.aload_n 0, 1) := by decide +kernel
theorem dX11_takesTree_85 : decode cX11_takesTree 85 = .ok (.getfield 111, 3) := by decide +kernel
theorem dX11_takesTree_88 : decode cX11_takesTree 88 = .ok (.imul, 1) := by decide +kernel
theorem dX11_takesTree_89 : decode cX11_takesTree 89 = .ok (.iconst 2, 1) := by decide +kernel
theorem dX11_takesTree_90 : decode cX11_takesTree 90 = .ok (.iadd, 1) := by decide +kernel
theorem dX11_takesTree_91 : decode cX11_takesTree 91 = .ok (.iconst 5, 1) := by decide +kernel
theorem dX11_takesTree_92 : decode cX11_takesTree 92 = .ok (.iastore, 1) := by decide +kernel
theorem dX11_takesTree_93 : decode cX11_takesTree 93 = .ok (.aload_n 0, 1) := by decide +kernel
theorem dX11_takesTree_94 : decode cX11_takesTree 94 = .ok (.dup, 1) := by decide +kernel
theorem dX11_takesTree_95 : decode cX11_takesTree 95 = .ok (.getfield 100, 3) := by decide +kernel
theorem dX11_takesTree_98 : decode cX11_takesTree 98 = .ok (.iconst 1, 1) := by decide +kernel
theorem dX11_takesTree_99 : decode cX11_takesTree 99 = .ok (.iadd, 1) := by decide +kernel
theorem dX11_takesTree_100 : decode cX11_takesTree 100 = .ok (.putfield 100, 3) := by decide +kernel
theorem dX11_takesTree_103 : decode cX11_takesTree 103 = .ok (.iconst 1, 1) := by decide +kernel
theorem dX11_takesTree_104 : decode cX11_takesTree 104 = .ok (.istore_n 3, 1) := by decide +kernel
theorem dX11_takesTree_105 : decode cX11_takesTree 105 = .ok (.iload_n 3, 1) := by decide +kernel
theorem dX11_takesTree_106 : decode cX11_takesTree 106 = .ok (.iconst 3, 1) := by decide +kernel
theorem dX11_takesTree_107 : decode cX11_takesTree 107 = .ok (.if_icmp .ge 51, 3) := by decide +kernel
theorem dX11_takesTree_110 : decode cX11_takesTree 110 = .ok (.aload_n 0, 1) := by decide +kernel
theorem dX11_takesTree_111 : decode cX11_takesTree 111 = .ok (.aload_n 0, 1) := by decide +kernel
theorem dX11_takesTree_112 : decode cX11_takesTree 112 = .ok (.invokevirtual 107, 3) := by decide +kernel
theorem dX11_takesTree_115 : decode cX11_takesTree 115 = .ok (.invokevirtual 114, 3) := by decide +kernel
theorem dX11_takesTree_118 : decode cX11_takesTree 118 = .ok (.ifCond .lt 40, 3) := by decide +kernel
theorem dX11_takesTree_121 : decode cX11_takesTree 121 = .ok (.aload_n 0, 1) := by decide +kernel
theorem dX11_takesTree_122 : decode cX11_takesTree 122 = .ok (.getfield 16, 3) := by decide +kernel
theorem dX11_takesTree_125 : decode cX11_takesTree 125 = .ok (.iconst 3, 1) := by decide +kernel
theorem dX11_takesTree_126 : decode cX11_takesTree 126 = .ok (.aload_n 0, 1) := by decide +kernel
theorem dX11_takesTree_127 : decode cX11_takesTree 127 = .ok (.getfield 111, 3) := by decide +kernel
theorem dX11_takesTree_130 : decode cX11_takesTree 130 = .ok (.imul, 1) := by decide +kernel
theorem dX11_takesTree_131 : decode cX11_takesTree 131 = .ok (.iload_n 3, 1) := by decide +kernel
theorem dX11_takesTree_132 : decode cX11_takesTree 132 = .ok (.iadd, 1) := by decide +kernel
theorem dX11_takesTree_133 : decode cX11_takesTree 133 = .ok (.aload_n 0, 1) := by decide +kernel
theorem dX11_takesTree_134 : decode cX11_takesTree 134 = .ok (.aload_n 0, 1) := by decide +kernel
theorem dX11_takesTree_135 : decode cX11_takesTree 135 = .ok (.invokevirtual 107, 3) := by decide +kernel
theorem dX11_takesTree_138 : decode cX11_takesTree 138 = .ok (.invokevirtual 114, 3) := by decide +kernel
theorem dX11_takesTree_141 : decode cX11_takesTree 141 = .ok (.iastore, 1) := by decide +kernel
theorem dX11_takesTree_142 : decode cX11_takesTree 142 = .ok (.aload_n 0, 1) := by decide +kernel
theorem dX11_takesTree_143 : decode cX11_takesTree 143 = .ok (.dup, 1) := by decide +kernel
theorem dX11_takesTree_144 : decode cX11_takesTree 144 = .ok (.getfield 100, 3) := by decide +kernel
theorem dX11_takesTree_147 : decode cX11_takesTree 147 = .ok (.iconst 1, 1) := by decide +kernel
theorem dX11_takesTree_148 : decode cX11_takesTree 148 = .ok (.iadd, 1) := by decide +kernel
theorem dX11_takesTree_149 : decode cX11_takesTree 149 = .ok (.putfield 100, 3) := by decide +kernel
theorem dX11_takesTree_152 : decode cX11_takesTree 152 = .ok (.iinc 3 1, 3) := by decide +kernel
theorem dX11_takesTree_155 : decode cX11_takesTree 155 = .ok (.goto (-50), 3) := by decide +kernel
theorem dX11_takesTree_158 : decode cX11_takesTree 158 = .ok (.aload_n 0, 1) := by decide +kernel
theorem dX11_takesTree_159 : decode cX11_takesTree 159 = .ok (.dup, 1) := by decide +kernel
theorem dX11_takesTree_160 : decode cX11_takesTree 160 = .ok (.getfield 111, 3) := by decide +kernel
theorem dX11_takesTree_163 : decode cX11_takesTree 163 = .ok (.iconst 1, 1) := by decide +kernel
theorem dX11_takesTree_164 : decode cX11_takesTree 164 = .ok (.iadd, 1) := by decide +kernel
theorem dX11_takesTree_165 : decode cX11_takesTree 165 = .ok (.putfield 111, 3) := by decide +kernel
theorem dX11_takesTree_168 : decode cX11_takesTree 168 = .ok (.iconst 1, 1) := by decide +kernel
theorem dX11_takesTree_169 : decode cX11_takesTree 169 = .ok (.ireturn, 1) := by decide +kernel
theorem dX11_isCommons_0 : decode cX11_isCommons 0 = .ok (.aload_n 0, 1) := by decide +kernel
theorem dX11_isCommons_1 : decode cX11_isCommons 1 = .ok (.iconst 0, 1) := by decide +kernel
theorem dX11_isCommons_2 : decode cX11_isCommons 2 = .ok (.putfield 100, 3) := by decide +kernel
theorem dX11_isCommons_5 : decode cX11_isCommons 5 = .ok (.aload_n 0, 1) := by decide +kernel
theorem dX11_isCommons_6 : decode cX11_isCommons 6 = .ok (.iconst 0, 1) := by decide +kernel
theorem dX11_isCommons_7 : decode cX11_isCommons 7 = .ok (.putfield 111, 3) := by decide +kernel
theorem dX11_isCommons_10 : decode cX11_isCommons 10 = .ok (.aload_n 0, 1) := by decide +kernel
theorem dX11_isCommons_11 : decode cX11_isCommons 11 = .ok (.invokevirtual 117, 3) := by decide +kernel
theorem dX11_isCommons_14 : decode cX11_isCommons 14 = .ok (.istore_n 1, 1) := by decide +kernel
theorem dX11_isCommons_15 : decode cX11_isCommons 15 = .ok (.iload_n 1, 1) := by decide +kernel
theorem dX11_isCommons_16 : decode cX11_isCommons 16 = .ok (.ifCond .eq 39, 3) := by decide +kernel
theorem dX11_isCommons_19 : decode cX11_isCommons 19 = .ok (.aload_n 0, 1) := by decide +kernel
theorem dX11_isCommons_20 : decode cX11_isCommons 20 = .ok (.getfield 111, 3) := by decide +kernel
theorem dX11_isCommons_23 : decode cX11_isCommons 23 = .ok (.bipush 6, 2) := by decide +kernel
theorem dX11_isCommons_25 : decode cX11_isCommons 25 = .ok (.if_icmp .ge 30, 3) := by decide +kernel
theorem dX11_isCommons_28 : decode cX11_isCommons 28 = .ok (.aload_n 0, 1) := by decide +kernel
theorem dX11_isCommons_29 : decode cX11_isCommons 29 = .ok (.invokevirtual 107, 3) := by decide +kernel
theorem dX11_isCommons_32 : decode cX11_isCommons 32 = .ok (.bipush 44, 2) := by decide +kernel
theorem dX11_isCommons_34 : decode cX11_isCommons 34 = .ok (.if_icmp .ne 21, 3) := by decide +kernel
theorem dX11_isCommons_37 : decode cX11_isCommons 37 = .ok (.aload_n 0, 1) := by decide +kernel
theorem dX11_isCommons_38 : decode cX11_isCommons 38 = .ok (.dup, 1) := by decide +kernel
theorem dX11_isCommons_39 : decode cX11_isCommons 39 = .ok (.getfield 100, 3) := by decide +kernel
theorem dX11_isCommons_42 : decode cX11_isCommons 42 = .ok (.iconst 1, 1) := by decide +kernel
theorem dX11_isCommons_43 : decode cX11_isCommons 43 = .ok (.iadd, 1) := by decide +kernel
theorem dX11_isCommons_44 : decode cX11_isCommons 44 = .ok (.putfield 100, 3) := by decide +kernel
theorem dX11_isCommons_47 : decode cX11_isCommons 47 = .ok (.aload_n 0, 1) := by decide +kernel
theorem dX11_isCommons_48 : decode cX11_isCommons 48 = .ok (.invokevirtual 117, 3) := by decide +kernel
theorem dX11_isCommons_51 : decode cX11_isCommons 51 = .ok (.istore_n 1, 1) := by decide +kernel
theorem dX11_isCommons_52 : decode cX11_isCommons 52 = .ok (.goto (-37), 3) := by decide +kernel
theorem dX11_isCommons_55 : decode cX11_isCommons 55 = .ok (.iload_n 1, 1) := by decide +kernel
theorem dX11_isCommons_56 : decode cX11_isCommons 56 = .ok (.ifCond .eq 14, 3) := by decide +kernel
theorem dX11_isCommons_59 : decode cX11_isCommons 59 = .ok (.aload_n 0, 1) := by decide +kernel
theorem dX11_isCommons_60 : decode cX11_isCommons 60 = .ok (.invokevirtual 107, 3) := by decide +kernel
theorem dX11_isCommons_63 : decode cX11_isCommons 63 = .ok (.ifCond .ge 7, 3) := by decide +kernel
theorem dX11_isCommons_66 : decode cX11_isCommons 66 = .ok (.iconst 1, 1) := by decide +kernel
theorem dX11_isCommons_67 : decode cX11_isCommons 67 = .ok (.goto 4, 3) := by decide +kernel
theorem dX11_isCommons_70 : decode cX11_isCommons 70 = .ok (.iconst 0, 1) := by decide +kernel
theorem dX11_isCommons_71 : decode cX11_isCommons 71 = .ok (.ireturn, 1) := by decide +kernel
theorem dX11_commons_0 : decode cX11_commons 0 = .ok (.aload_n 0, 1) := by decide +kernel
theorem dX11_commons_1 : decode cX11_commons 1 = .ok (.invokevirtual 121, 3) := by decide +kernel
theorem dX11_commons_4 : decode cX11_commons 4 = .ok (.istore_n 1, 1) := by decide +kernel
theorem dX11_commons_5 : decode cX11_commons 5 = .ok (.aload_n 0, 1) := by decide +kernel
theorem dX11_commons_6 : decode cX11_commons 6 = .ok (.iconst 0, 1) := by decide +kernel
theorem dX11_commons_7 : decode cX11_commons 7 = .ok (.putfield 96, 3) := by decide +kernel
theorem dX11_commons_10 : decode cX11_commons 10 = .ok (.iload_n 1, 1) := by decide +kernel
theorem dX11_commons_11 : decode cX11_commons 11 = .ok (.ifCond .ne 11, 3) := by decide +kernel
theorem dX11_commons_14 : decode cX11_commons 14 = .ok (.bipush (-20), 2) := by decide +kernel
theorem dX11_commons_16 : decode cX11_commons 16 = .ok (.aload_n 0, 1) := by decide +kernel
theorem dX11_commons_17 : decode cX11_commons 17 = .ok (.getfield 100, 3) := by decide +kernel
theorem dX11_commons_20 : decode cX11_commons 20 = .ok (.isub, 1) := by decide +kernel
theorem dX11_commons_21 : decode cX11_commons 21 = .ok (.ireturn, 1) := by decide +kernel
theorem dX11_commons_22 : decode cX11_commons 22 = .ok (.aload_n 0, 1) := by decide +kernel
theorem dX11_commons_23 : decode cX11_commons 23 = .ok (.getfield 7, 3) := by decide +kernel
theorem dX11_commons_26 : decode cX11_commons 26 = .ok (.iconst 0, 1) := by decide +kernel
theorem dX11_commons_27 : decode cX11_commons 27 = .ok (.iconst 0, 1) := by decide +kernel
theorem dX11_commons_28 : decode cX11_commons 28 = .ok (.iastore, 1) := by decide +kernel
theorem dX11_commons_29 : decode cX11_commons 29 = .ok (.iconst (-1), 1) := by decide +kernel
theorem dX11_commons_30 : decode cX11_commons 30 = .ok (.istore_n 2, 1) := by decide +kernel
theorem dX11_commons_31 : decode cX11_commons 31 = .ok (.iconst 0, 1) := by decide +kernel
theorem dX11_commons_32 : decode cX11_commons 32 = .ok (.istore_n 3, 1) := by decide +kernel
theorem dX11_commons_33 : decode cX11_commons 33 = .ok (.iload_n 3, 1) := by decide +kernel
theorem dX11_commons_34 : decode cX11_commons 34 = .ok (.aload_n 0, 1) := by decide +kernel
theorem dX11_commons_35 : decode cX11_commons 35 = .ok (.getfield 111, 3) := by decide +kernel
theorem dX11_commons_38 : decode cX11_commons 38 = .ok (.if_icmp .ge 44, 3) := by decide +kernel
theorem dX11_commons_41 : decode cX11_commons 41 = .ok (.aload_n 0, 1) := by decide +kernel
theorem dX11_commons_42 : decode cX11_commons 42 = .ok (.aload_n 0, 1) := by decide +kernel
theorem dX11_commons_43 : decode cX11_commons 43 = .ok (.getfield 16, 3) := by decide +kernel
theorem dX11_commons_46 : decode cX11_commons 46 = .ok (.iconst 3, 1) := by decide +kernel
theorem dX11_commons_47 : decode cX11_commons 47 = .ok (.iload_n 3, 1) := by decide +kernel
theorem dX11_commons_48 : decode cX11_commons 48 = .ok (.imul, 1) := by decide +kernel
theorem dX11_commons_49 : decode cX11_commons 49 = .ok (.iaload, 1) := by decide +kernel
theorem dX11_commons_50 : decode cX11_commons 50 = .ok (.aload_n 0, 1) := by decide +kernel
theorem dX11_commons_51 : decode cX11_commons 51 = .ok (.getfield 16, 3) := by decide +kernel
theorem dX11_commons_54 : decode cX11_commons 54 = .ok (.iconst 3, 1) := by decide +kernel
theorem dX11_commons_55 : decode cX11_commons 55 = .ok (.iload_n 3, 1) := by decide +kernel
theorem dX11_commons_56 : decode cX11_commons 56 = .ok (.imul, 1) := by decide +kernel
theorem dX11_commons_57 : decode cX11_commons 57 = .ok (.iconst 1, 1) := by decide +kernel
theorem dX11_commons_58 : decode cX11_commons 58 = .ok (.iadd, 1) := by decide +kernel
theorem dX11_commons_59 : decode cX11_commons 59 = .ok (.iaload, 1) := by decide +kernel
theorem dX11_commons_60 : decode cX11_commons 60 = .ok (.aload_n 0, 1) := by decide +kernel
theorem dX11_commons_61 : decode cX11_commons 61 = .ok (.getfield 16, 3) := by decide +kernel
theorem dX11_commons_64 : decode cX11_commons 64 = .ok (.iconst 3, 1) := by decide +kernel
theorem dX11_commons_65 : decode cX11_commons 65 = .ok (.iload_n 3, 1) := by decide +kernel
theorem dX11_commons_66 : decode cX11_commons 66 = .ok (.imul, 1) := by decide +kernel
theorem dX11_commons_67 : decode cX11_commons 67 = .ok (.iconst 2, 1) := by decide +kernel
theorem dX11_commons_68 : decode cX11_commons 68 = .ok (.iadd, 1) := by decide +kernel
theorem dX11_commons_69 : decode cX11_commons 69 = .ok (.iaload, 1) := by decide +kernel
theorem dX11_commons_70 : decode cX11_commons 70 = .ok (.iconst 0, 1) := by decide +kernel
theorem dX11_commons_71 : decode cX11_commons 71 = .ok (.iconst 0, 1) := by decide +kernel
theorem dX11_commons_72 : decode cX11_commons 72 = .ok (.invokevirtual 57, 3) := by decide +kernel
theorem dX11_commons_75 : decode cX11_commons 75 = .ok (.istore_n 2, 1) := by decide +kernel
theorem dX11_commons_76 : decode cX11_commons 76 = .ok (.iinc 3 1, 3) := by decide +kernel
theorem dX11_commons_79 : decode cX11_commons 79 = .ok (.goto (-46), 3) := by decide +kernel
theorem dX11_commons_82 : decode cX11_commons 82 = .ok (.iload_n 2, 1) := by decide +kernel
theorem dX11_commons_83 : decode cX11_commons 83 = .ok (.iconst 1, 1) := by decide +kernel
theorem dX11_commons_84 : decode cX11_commons 84 = .ok (.iadd, 1) := by decide +kernel
theorem dX11_commons_85 : decode cX11_commons 85 = .ok (.ireturn, 1) := by decide +kernel
theorem dX11_nowSet_0 : decode cX11_nowSet 0 = .ok (.iconst 0, 1) := by decide +kernel
theorem dX11_nowSet_1 : decode cX11_nowSet 1 = .ok (.istore_n 1, 1) := by decide +kernel
theorem dX11_nowSet_2 : decode cX11_nowSet 2 = .ok (.iconst 0, 1) := by decide +kernel
theorem dX11_nowSet_3 : decode cX11_nowSet 3 = .ok (.istore_n 2, 1) := by decide +kernel
theorem dX11_nowSet_4 : decode cX11_nowSet 4 = .ok (.iload_n 2, 1) := by decide +kernel
theorem dX11_nowSet_5 : decode cX11_nowSet 5 = .ok (.aload_n 0, 1) := by decide +kernel
theorem dX11_nowSet_6 : decode cX11_nowSet 6 = .ok (.getfield 7, 3) := by decide +kernel
theorem dX11_nowSet_9 : decode cX11_nowSet 9 = .ok (.iconst 0, 1) := by decide +kernel
theorem dX11_nowSet_10 : decode cX11_nowSet 10 = .ok (.iaload, 1) := by decide +kernel
theorem dX11_nowSet_11 : decode cX11_nowSet 11 = .ok (.if_icmp .ge 40, 3) := by decide +kernel
theorem dX11_nowSet_14 : decode cX11_nowSet 14 = .ok (.iload_n 1, 1) := by decide +kernel
theorem dX11_nowSet_15 : decode cX11_nowSet 15 = .ok (.aload_n 0, 1) := by decide +kernel
theorem dX11_nowSet_16 : decode cX11_nowSet 16 = .ok (.getfield 7, 3) := by decide +kernel
theorem dX11_nowSet_19 : decode cX11_nowSet 19 = .ok (.bipush 7, 2) := by decide +kernel
theorem dX11_nowSet_21 : decode cX11_nowSet 21 = .ok (.iload_n 2, 1) := by decide +kernel
theorem dX11_nowSet_22 : decode cX11_nowSet 22 = .ok (.iadd, 1) := by decide +kernel
theorem dX11_nowSet_23 : decode cX11_nowSet 23 = .ok (.iaload, 1) := by decide +kernel
theorem dX11_nowSet_24 : decode cX11_nowSet 24 = .ok (.iconst 5, 1) := by decide +kernel
theorem dX11_nowSet_25 : decode cX11_nowSet 25 = .ok (.if_icmp .ne 7, 3) := by decide +kernel
theorem dX11_nowSet_28 : decode cX11_nowSet 28 = .ok (.iconst 0, 1) := by decide +kernel
theorem dX11_nowSet_29 : decode cX11_nowSet 29 = .ok (.goto 14, 3) := by decide +kernel
theorem dX11_nowSet_32 : decode cX11_nowSet 32 = .ok (.iconst 1, 1) := by decide +kernel
theorem dX11_nowSet_33 : decode cX11_nowSet 33 = .ok (.aload_n 0, 1) := by decide +kernel
theorem dX11_nowSet_34 : decode cX11_nowSet 34 = .ok (.getfield 7, 3) := by decide +kernel
theorem dX11_nowSet_37 : decode cX11_nowSet 37 = .ok (.bipush 7, 2) := by decide +kernel
theorem dX11_nowSet_39 : decode cX11_nowSet 39 = .ok (.iload_n 2, 1) := by decide +kernel
theorem dX11_nowSet_40 : decode cX11_nowSet 40 = .ok (.iadd, 1) := by decide +kernel
theorem dX11_nowSet_41 : decode cX11_nowSet 41 = .ok (.iaload, 1) := by decide +kernel
theorem dX11_nowSet_42 : decode cX11_nowSet 42 = .ok (.ishl, 1) := by decide +kernel
theorem dX11_nowSet_43 : decode cX11_nowSet 43 = .ok (.ior, 1) := by decide +kernel
theorem dX11_nowSet_44 : decode cX11_nowSet 44 = .ok (.istore_n 1, 1) := by decide +kernel
theorem dX11_nowSet_45 : decode cX11_nowSet 45 = .ok (.iinc 2 1, 3) := by decide +kernel
theorem dX11_nowSet_48 : decode cX11_nowSet 48 = .ok (.goto (-44), 3) := by decide +kernel
theorem dX11_nowSet_51 : decode cX11_nowSet 51 = .ok (.iload_n 1, 1) := by decide +kernel
theorem dX11_nowSet_52 : decode cX11_nowSet 52 = .ok (.ireturn, 1) := by decide +kernel
theorem dX11_count_0 : decode cX11_count 0 = .ok (.iload_n 1, 1) := by decide +kernel
theorem dX11_count_1 : decode cX11_count 1 = .ok (.tableswitch 71 0 4 #[35, 42, 50, 58, 66], 35) := by decide +kernel
theorem dX11_count_36 : decode cX11_count 36 = .ok (.aload_n 0, 1) := by decide +kernel
theorem dX11_count_37 : decode cX11_count 37 = .ok (.getfield 7, 3) := by decide +kernel
theorem dX11_count_40 : decode cX11_count 40 = .ok (.iconst 0, 1) := by decide +kernel
theorem dX11_count_41 : decode cX11_count 41 = .ok (.iaload, 1) := by decide +kernel
theorem dX11_count_42 : decode cX11_count 42 = .ok (.ireturn, 1) := by decide +kernel
theorem dX11_count_43 : decode cX11_count 43 = .ok (.aload_n 0, 1) := by decide +kernel
theorem dX11_count_44 : decode cX11_count 44 = .ok (.getfield 7, 3) := by decide +kernel
theorem dX11_count_47 : decode cX11_count 47 = .ok (.bipush 43, 2) := by decide +kernel
theorem dX11_count_49 : decode cX11_count 49 = .ok (.iaload, 1) := by decide +kernel
theorem dX11_count_50 : decode cX11_count 50 = .ok (.ireturn, 1) := by decide +kernel
theorem dX11_count_51 : decode cX11_count 51 = .ok (.aload_n 0, 1) := by decide +kernel
theorem dX11_count_52 : decode cX11_count 52 = .ok (.getfield 7, 3) := by decide +kernel
theorem dX11_count_55 : decode cX11_count 55 = .ok (.bipush 75, 2) := by decide +kernel
theorem dX11_count_57 : decode cX11_count 57 = .ok (.iaload, 1) := by decide +kernel
theorem dX11_count_58 : decode cX11_count 58 = .ok (.ireturn, 1) := by decide +kernel
theorem dX11_count_59 : decode cX11_count 59 = .ok (.aload_n 0, 1) := by decide +kernel
theorem dX11_count_60 : decode cX11_count 60 = .ok (.getfield 7, 3) := by decide +kernel
theorem dX11_count_63 : decode cX11_count 63 = .ok (.bipush 76, 2) := by decide +kernel
theorem dX11_count_65 : decode cX11_count 65 = .ok (.iaload, 1) := by decide +kernel
theorem dX11_count_66 : decode cX11_count 66 = .ok (.ireturn, 1) := by decide +kernel
theorem dX11_count_67 : decode cX11_count 67 = .ok (.aload_n 0, 1) := by decide +kernel
theorem dX11_count_68 : decode cX11_count 68 = .ok (.invokevirtual 124, 3) := by decide +kernel
theorem dX11_count_71 : decode cX11_count 71 = .ok (.ireturn, 1) := by decide +kernel
theorem dX11_count_72 : decode cX11_count 72 = .ok (.iconst (-1), 1) := by decide +kernel
theorem dX11_count_73 : decode cX11_count 73 = .ok (.ireturn, 1) := by decide +kernel
theorem dX11_plain_0 : decode cX11_plain 0 = .ok (.iload_n 0, 1) := by decide +kernel
theorem dX11_plain_1 : decode cX11_plain 1 = .ok (.iconst 1, 1) := by decide +kernel
theorem dX11_plain_2 : decode cX11_plain 2 = .ok (.if_icmp .ne 7, 3) := by decide +kernel
theorem dX11_plain_5 : decode cX11_plain 5 = .ok (.iconst 1, 1) := by decide +kernel
theorem dX11_plain_6 : decode cX11_plain 6 = .ok (.goto 4, 3) := by decide +kernel
theorem dX11_plain_9 : decode cX11_plain 9 = .ok (.iconst 2, 1) := by decide +kernel
theorem dX11_plain_10 : decode cX11_plain 10 = .ok (.ireturn, 1) := by decide +kernel
theorem dX11_borne_0 : decode cX11_borne 0 = .ok (.aload_n 0, 1) := by decide +kernel
theorem dX11_borne_1 : decode cX11_borne 1 = .ok (.iload_n 3, 1) := by decide +kernel
theorem dX11_borne_2 : decode cX11_borne 2 = .ok (.invokevirtual 76, 3) := by decide +kernel
theorem dX11_borne_5 : decode cX11_borne 5 = .ok (.iload_n 2, 1) := by decide +kernel
theorem dX11_borne_6 : decode cX11_borne 6 = .ok (.if_icmp .ne 11, 3) := by decide +kernel
theorem dX11_borne_9 : decode cX11_borne 9 = .ok (.iload 4, 2) := by decide +kernel
theorem dX11_borne_11 : decode cX11_borne 11 = .ok (.invokestatic 127, 3) := by decide +kernel
theorem dX11_borne_14 : decode cX11_borne 14 = .ok (.goto 4, 3) := by decide +kernel
theorem dX11_borne_17 : decode cX11_borne 17 = .ok (.iconst 0, 1) := by decide +kernel
theorem dX11_borne_18 : decode cX11_borne 18 = .ok (.istore 7, 2) := by decide +kernel
theorem dX11_borne_20 : decode cX11_borne 20 = .ok (.aload_n 0, 1) := by decide +kernel
theorem dX11_borne_21 : decode cX11_borne 21 = .ok (.iload 5, 2) := by decide +kernel
theorem dX11_borne_23 : decode cX11_borne 23 = .ok (.invokevirtual 76, 3) := by decide +kernel
theorem dX11_borne_26 : decode cX11_borne 26 = .ok (.iload_n 2, 1) := by decide +kernel
theorem dX11_borne_27 : decode cX11_borne 27 = .ok (.if_icmp .ne 11, 3) := by decide +kernel
theorem dX11_borne_30 : decode cX11_borne 30 = .ok (.iload 6, 2) := by decide +kernel
theorem dX11_borne_32 : decode cX11_borne 32 = .ok (.invokestatic 127, 3) := by decide +kernel
theorem dX11_borne_35 : decode cX11_borne 35 = .ok (.goto 4, 3) := by decide +kernel
theorem dX11_borne_38 : decode cX11_borne 38 = .ok (.iconst 0, 1) := by decide +kernel
theorem dX11_borne_39 : decode cX11_borne 39 = .ok (.istore 8, 2) := by decide +kernel
theorem dX11_borne_41 : decode cX11_borne 41 = .ok (.iload_n 1, 1) := by decide +kernel
theorem dX11_borne_42 : decode cX11_borne 42 = .ok (.iconst 1, 1) := by decide +kernel
theorem dX11_borne_43 : decode cX11_borne 43 = .ok (.if_icmp .ne 15, 3) := by decide +kernel
theorem dX11_borne_46 : decode cX11_borne 46 = .ok (.iload 7, 2) := by decide +kernel
theorem dX11_borne_48 : decode cX11_borne 48 = .ok (.iconst 2, 1) := by decide +kernel
theorem dX11_borne_49 : decode cX11_borne 49 = .ok (.idiv, 1) := by decide +kernel
theorem dX11_borne_50 : decode cX11_borne 50 = .ok (.iload 8, 2) := by decide +kernel
theorem dX11_borne_52 : decode cX11_borne 52 = .ok (.iconst 2, 1) := by decide +kernel
theorem dX11_borne_53 : decode cX11_borne 53 = .ok (.idiv, 1) := by decide +kernel
theorem dX11_borne_54 : decode cX11_borne 54 = .ok (.iadd, 1) := by decide +kernel
theorem dX11_borne_55 : decode cX11_borne 55 = .ok (.goto 27, 3) := by decide +kernel
theorem dX11_borne_58 : decode cX11_borne 58 = .ok (.iload_n 1, 1) := by decide +kernel
theorem dX11_borne_59 : decode cX11_borne 59 = .ok (.iconst 2, 1) := by decide +kernel
theorem dX11_borne_60 : decode cX11_borne 60 = .ok (.if_icmp .ne 10, 3) := by decide +kernel
theorem dX11_borne_63 : decode cX11_borne 63 = .ok (.iconst 2, 1) := by decide +kernel
theorem dX11_borne_64 : decode cX11_borne 64 = .ok (.iload 7, 2) := by decide +kernel
theorem dX11_borne_66 : decode cX11_borne 66 = .ok (.imul, 1) := by decide +kernel
theorem dX11_borne_67 : decode cX11_borne 67 = .ok (.goto 15, 3) := by decide +kernel
theorem dX11_borne_70 : decode cX11_borne 70 = .ok (.iload_n 1, 1) := by decide +kernel
theorem dX11_borne_71 : decode cX11_borne 71 = .ok (.iconst 3, 1) := by decide +kernel
theorem dX11_borne_72 : decode cX11_borne 72 = .ok (.if_icmp .ne 8, 3) := by decide +kernel
theorem dX11_borne_75 : decode cX11_borne 75 = .ok (.iload 8, 2) := by decide +kernel
theorem dX11_borne_77 : decode cX11_borne 77 = .ok (.goto 5, 3) := by decide +kernel
theorem dX11_borne_80 : decode cX11_borne 80 = .ok (.iload 7, 2) := by decide +kernel
theorem dX11_borne_82 : decode cX11_borne 82 = .ok (.ireturn, 1) := by decide +kernel
theorem dX11_bearsNow_0 : decode cX11_bearsNow 0 = .ok (.aload_n 0, 1) := by decide +kernel
theorem dX11_bearsNow_1 : decode cX11_bearsNow 1 = .ok (.aload_n 0, 1) := by decide +kernel
theorem dX11_bearsNow_2 : decode cX11_bearsNow 2 = .ok (.getfield 7, 3) := by decide +kernel
theorem dX11_bearsNow_5 : decode cX11_bearsNow 5 = .ok (.iconst 1, 1) := by decide +kernel
theorem dX11_bearsNow_6 : decode cX11_bearsNow 6 = .ok (.iload_n 1, 1) := by decide +kernel
theorem dX11_bearsNow_7 : decode cX11_bearsNow 7 = .ok (.iadd, 1) := by decide +kernel
theorem dX11_bearsNow_8 : decode cX11_bearsNow 8 = .ok (.iaload, 1) := by decide +kernel
theorem dX11_bearsNow_9 : decode cX11_bearsNow 9 = .ok (.iload_n 2, 1) := by decide +kernel
theorem dX11_bearsNow_10 : decode cX11_bearsNow 10 = .ok (.aload_n 0, 1) := by decide +kernel
theorem dX11_bearsNow_11 : decode cX11_bearsNow 11 = .ok (.getfield 7, 3) := by decide +kernel
theorem dX11_bearsNow_14 : decode cX11_bearsNow 14 = .ok (.bipush 13, 2) := by decide +kernel
theorem dX11_bearsNow_16 : decode cX11_bearsNow 16 = .ok (.iload_n 1, 1) := by decide +kernel
theorem dX11_bearsNow_17 : decode cX11_bearsNow 17 = .ok (.iadd, 1) := by decide +kernel
theorem dX11_bearsNow_18 : decode cX11_bearsNow 18 = .ok (.iaload, 1) := by decide +kernel
theorem dX11_bearsNow_19 : decode cX11_bearsNow 19 = .ok (.aload_n 0, 1) := by decide +kernel
theorem dX11_bearsNow_20 : decode cX11_bearsNow 20 = .ok (.getfield 7, 3) := by decide +kernel
theorem dX11_bearsNow_23 : decode cX11_bearsNow 23 = .ok (.bipush 25, 2) := by decide +kernel
theorem dX11_bearsNow_25 : decode cX11_bearsNow 25 = .ok (.iload_n 1, 1) := by decide +kernel
theorem dX11_bearsNow_26 : decode cX11_bearsNow 26 = .ok (.iadd, 1) := by decide +kernel
theorem dX11_bearsNow_27 : decode cX11_bearsNow 27 = .ok (.iaload, 1) := by decide +kernel
theorem dX11_bearsNow_28 : decode cX11_bearsNow 28 = .ok (.aload_n 0, 1) := by decide +kernel
theorem dX11_bearsNow_29 : decode cX11_bearsNow 29 = .ok (.getfield 7, 3) := by decide +kernel
end
section
theorem dX11_bearsNow_32 : decode cX11_bearsNow 32 = .ok (.bipush 19, 2) := by decide +kernel
theorem dX11_bearsNow_34 : decode cX11_bearsNow 34 = .ok (.iload_n 1, 1) := by decide +kernel
theorem dX11_bearsNow_35 : decode cX11_bearsNow 35 = .ok (.iadd, 1) := by decide +kernel
theorem dX11_bearsNow_36 : decode cX11_bearsNow 36 = .ok (.iaload, 1) := by decide +kernel
theorem dX11_bearsNow_37 : decode cX11_bearsNow 37 = .ok (.aload_n 0, 1) := by decide +kernel
theorem dX11_bearsNow_38 : decode cX11_bearsNow 38 = .ok (.getfield 7, 3) := by decide +kernel
theorem dX11_bearsNow_41 : decode cX11_bearsNow 41 = .ok (.bipush 31, 2) := by decide +kernel
theorem dX11_bearsNow_43 : decode cX11_bearsNow 43 = .ok (.iload_n 1, 1) := by decide +kernel
theorem dX11_bearsNow_44 : decode cX11_bearsNow 44 = .ok (.iadd, 1) := by decide +kernel
theorem dX11_bearsNow_45 : decode cX11_bearsNow 45 = .ok (.iaload, 1) := by decide +kernel
theorem dX11_bearsNow_46 : decode cX11_bearsNow 46 = .ok (.invokevirtual 130, 3) := by decide +kernel
theorem dX11_bearsNow_49 : decode cX11_bearsNow 49 = .ok (.ireturn, 1) := by decide +kernel
theorem dX11_bearsNext_0 : decode cX11_bearsNext 0 = .ok (.aload_n 0, 1) := by decide +kernel
theorem dX11_bearsNext_1 : decode cX11_bearsNext 1 = .ok (.aload_n 0, 1) := by decide +kernel
theorem dX11_bearsNext_2 : decode cX11_bearsNext 2 = .ok (.getfield 7, 3) := by decide +kernel
theorem dX11_bearsNext_5 : decode cX11_bearsNext 5 = .ok (.iconst 1, 1) := by decide +kernel
theorem dX11_bearsNext_6 : decode cX11_bearsNext 6 = .ok (.iload_n 1, 1) := by decide +kernel
theorem dX11_bearsNext_7 : decode cX11_bearsNext 7 = .ok (.iadd, 1) := by decide +kernel
theorem dX11_bearsNext_8 : decode cX11_bearsNext 8 = .ok (.iaload, 1) := by decide +kernel
theorem dX11_bearsNext_9 : decode cX11_bearsNext 9 = .ok (.iload_n 2, 1) := by decide +kernel
theorem dX11_bearsNext_10 : decode cX11_bearsNext 10 = .ok (.iload_n 3, 1) := by decide +kernel
theorem dX11_bearsNext_11 : decode cX11_bearsNext 11 = .ok (.iload 4, 2) := by decide +kernel
theorem dX11_bearsNext_13 : decode cX11_bearsNext 13 = .ok (.aload_n 0, 1) := by decide +kernel
theorem dX11_bearsNext_14 : decode cX11_bearsNext 14 = .ok (.getfield 7, 3) := by decide +kernel
theorem dX11_bearsNext_17 : decode cX11_bearsNext 17 = .ok (.bipush 13, 2) := by decide +kernel
theorem dX11_bearsNext_19 : decode cX11_bearsNext 19 = .ok (.iload_n 1, 1) := by decide +kernel
theorem dX11_bearsNext_20 : decode cX11_bearsNext 20 = .ok (.iadd, 1) := by decide +kernel
theorem dX11_bearsNext_21 : decode cX11_bearsNext 21 = .ok (.iaload, 1) := by decide +kernel
theorem dX11_bearsNext_22 : decode cX11_bearsNext 22 = .ok (.aload_n 0, 1) := by decide +kernel
theorem dX11_bearsNext_23 : decode cX11_bearsNext 23 = .ok (.getfield 7, 3) := by decide +kernel
theorem dX11_bearsNext_26 : decode cX11_bearsNext 26 = .ok (.bipush 25, 2) := by decide +kernel
theorem dX11_bearsNext_28 : decode cX11_bearsNext 28 = .ok (.iload_n 1, 1) := by decide +kernel
theorem dX11_bearsNext_29 : decode cX11_bearsNext 29 = .ok (.iadd, 1) := by decide +kernel
theorem dX11_bearsNext_30 : decode cX11_bearsNext 30 = .ok (.iaload, 1) := by decide +kernel
theorem dX11_bearsNext_31 : decode cX11_bearsNext 31 = .ok (.invokevirtual 130, 3) := by decide +kernel
theorem dX11_bearsNext_34 : decode cX11_bearsNext 34 = .ok (.ireturn, 1) := by decide +kernel
theorem dX11_worthNext_0 : decode cX11_worthNext 0 = .ok (.iconst 0, 1) := by decide +kernel
theorem dX11_worthNext_1 : decode cX11_worthNext 1 = .ok (.istore 4, 2) := by decide +kernel
theorem dX11_worthNext_3 : decode cX11_worthNext 3 = .ok (.iconst 0, 1) := by decide +kernel
theorem dX11_worthNext_4 : decode cX11_worthNext 4 = .ok (.istore 5, 2) := by decide +kernel
theorem dX11_worthNext_6 : decode cX11_worthNext 6 = .ok (.iload 5, 2) := by decide +kernel
theorem dX11_worthNext_8 : decode cX11_worthNext 8 = .ok (.bipush 10, 2) := by decide +kernel
theorem dX11_worthNext_10 : decode cX11_worthNext 10 = .ok (.if_icmp .ge 34, 3) := by decide +kernel
theorem dX11_worthNext_13 : decode cX11_worthNext 13 = .ok (.iload 4, 2) := by decide +kernel
theorem dX11_worthNext_15 : decode cX11_worthNext 15 = .ok (.aload_n 0, 1) := by decide +kernel
theorem dX11_worthNext_16 : decode cX11_worthNext 16 = .ok (.getfield 7, 3) := by decide +kernel
theorem dX11_worthNext_19 : decode cX11_worthNext 19 = .ok (.bipush 64, 2) := by decide +kernel
theorem dX11_worthNext_21 : decode cX11_worthNext 21 = .ok (.iload 5, 2) := by decide +kernel
theorem dX11_worthNext_23 : decode cX11_worthNext 23 = .ok (.iadd, 1) := by decide +kernel
theorem dX11_worthNext_24 : decode cX11_worthNext 24 = .ok (.iaload, 1) := by decide +kernel
theorem dX11_worthNext_25 : decode cX11_worthNext 25 = .ok (.aload_n 0, 1) := by decide +kernel
theorem dX11_worthNext_26 : decode cX11_worthNext 26 = .ok (.iload_n 1, 1) := by decide +kernel
theorem dX11_worthNext_27 : decode cX11_worthNext 27 = .ok (.iload 5, 2) := by decide +kernel
theorem dX11_worthNext_29 : decode cX11_worthNext 29 = .ok (.iload_n 2, 1) := by decide +kernel
theorem dX11_worthNext_30 : decode cX11_worthNext 30 = .ok (.iload_n 3, 1) := by decide +kernel
theorem dX11_worthNext_31 : decode cX11_worthNext 31 = .ok (.invokevirtual 134, 3) := by decide +kernel
theorem dX11_worthNext_34 : decode cX11_worthNext 34 = .ok (.imul, 1) := by decide +kernel
theorem dX11_worthNext_35 : decode cX11_worthNext 35 = .ok (.iadd, 1) := by decide +kernel
theorem dX11_worthNext_36 : decode cX11_worthNext 36 = .ok (.istore 4, 2) := by decide +kernel
theorem dX11_worthNext_38 : decode cX11_worthNext 38 = .ok (.iinc 5 1, 3) := by decide +kernel
theorem dX11_worthNext_41 : decode cX11_worthNext 41 = .ok (.goto (-35), 3) := by decide +kernel
theorem dX11_worthNext_44 : decode cX11_worthNext 44 = .ok (.iload 4, 2) := by decide +kernel
theorem dX11_worthNext_46 : decode cX11_worthNext 46 = .ok (.ireturn, 1) := by decide +kernel
theorem dX11_bears_0 : decode cX11_bears 0 = .ok (.aload_n 0, 1) := by decide +kernel
theorem dX11_bears_1 : decode cX11_bears 1 = .ok (.iload_n 1, 1) := by decide +kernel
theorem dX11_bears_2 : decode cX11_bears 2 = .ok (.invokevirtual 61, 3) := by decide +kernel
theorem dX11_bears_5 : decode cX11_bears 5 = .ok (.ifCond .eq 24, 3) := by decide +kernel
theorem dX11_bears_8 : decode cX11_bears 8 = .ok (.iload_n 2, 1) := by decide +kernel
theorem dX11_bears_9 : decode cX11_bears 9 = .ok (.i2l, 1) := by decide +kernel
theorem dX11_bears_10 : decode cX11_bears 10 = .ok (.lconst 0, 1) := by decide +kernel
theorem dX11_bears_11 : decode cX11_bears 11 = .ok (.ldc2_w 65, 3) := by decide +kernel
theorem dX11_bears_14 : decode cX11_bears 14 = .ok (.invokestatic 51, 3) := by decide +kernel
theorem dX11_bears_17 : decode cX11_bears 17 = .ok (.ifCond .eq 12, 3) := by decide +kernel
theorem dX11_bears_20 : decode cX11_bears 20 = .ok (.aload_n 0, 1) := by decide +kernel
theorem dX11_bears_21 : decode cX11_bears 21 = .ok (.iload_n 1, 1) := by decide +kernel
theorem dX11_bears_22 : decode cX11_bears 22 = .ok (.iload_n 2, 1) := by decide +kernel
theorem dX11_bears_23 : decode cX11_bears 23 = .ok (.invokevirtual 138, 3) := by decide +kernel
theorem dX11_bears_26 : decode cX11_bears 26 = .ok (.goto 4, 3) := by decide +kernel
theorem dX11_bears_29 : decode cX11_bears 29 = .ok (.iconst (-1), 1) := by decide +kernel
theorem dX11_bears_30 : decode cX11_bears 30 = .ok (.ireturn, 1) := by decide +kernel
theorem dX11_basketOf_0 : decode cX11_basketOf 0 = .ok (.iconst 0, 1) := by decide +kernel
theorem dX11_basketOf_1 : decode cX11_basketOf 1 = .ok (.istore_n 3, 1) := by decide +kernel
theorem dX11_basketOf_2 : decode cX11_basketOf 2 = .ok (.iconst 0, 1) := by decide +kernel
theorem dX11_basketOf_3 : decode cX11_basketOf 3 = .ok (.istore 4, 2) := by decide +kernel
theorem dX11_basketOf_5 : decode cX11_basketOf 5 = .ok (.iload 4, 2) := by decide +kernel
theorem dX11_basketOf_7 : decode cX11_basketOf 7 = .ok (.aload_n 0, 1) := by decide +kernel
theorem dX11_basketOf_8 : decode cX11_basketOf 8 = .ok (.getfield 7, 3) := by decide +kernel
theorem dX11_basketOf_11 : decode cX11_basketOf 11 = .ok (.iconst 0, 1) := by decide +kernel
theorem dX11_basketOf_12 : decode cX11_basketOf 12 = .ok (.iaload, 1) := by decide +kernel
theorem dX11_basketOf_13 : decode cX11_basketOf 13 = .ok (.if_icmp .ge 44, 3) := by decide +kernel
theorem dX11_basketOf_16 : decode cX11_basketOf 16 = .ok (.iload_n 3, 1) := by decide +kernel
theorem dX11_basketOf_17 : decode cX11_basketOf 17 = .ok (.iload_n 2, 1) := by decide +kernel
theorem dX11_basketOf_18 : decode cX11_basketOf 18 = .ok (.ifCond .ne 13, 3) := by decide +kernel
theorem dX11_basketOf_21 : decode cX11_basketOf 21 = .ok (.aload_n 0, 1) := by decide +kernel
theorem dX11_basketOf_22 : decode cX11_basketOf 22 = .ok (.iload 4, 2) := by decide +kernel
theorem dX11_basketOf_24 : decode cX11_basketOf 24 = .ok (.iload_n 1, 1) := by decide +kernel
theorem dX11_basketOf_25 : decode cX11_basketOf 25 = .ok (.invokevirtual 138, 3) := by decide +kernel
theorem dX11_basketOf_28 : decode cX11_basketOf 28 = .ok (.goto 21, 3) := by decide +kernel
theorem dX11_basketOf_31 : decode cX11_basketOf 31 = .ok (.aload_n 0, 1) := by decide +kernel
theorem dX11_basketOf_32 : decode cX11_basketOf 32 = .ok (.iload 4, 2) := by decide +kernel
theorem dX11_basketOf_34 : decode cX11_basketOf 34 = .ok (.iload_n 1, 1) := by decide +kernel
theorem dX11_basketOf_35 : decode cX11_basketOf 35 = .ok (.aload_n 0, 1) := by decide +kernel
theorem dX11_basketOf_36 : decode cX11_basketOf 36 = .ok (.getfield 7, 3) := by decide +kernel
theorem dX11_basketOf_39 : decode cX11_basketOf 39 = .ok (.bipush 7, 2) := by decide +kernel
theorem dX11_basketOf_41 : decode cX11_basketOf 41 = .ok (.iload 4, 2) := by decide +kernel
theorem dX11_basketOf_43 : decode cX11_basketOf 43 = .ok (.iadd, 1) := by decide +kernel
theorem dX11_basketOf_44 : decode cX11_basketOf 44 = .ok (.iaload, 1) := by decide +kernel
theorem dX11_basketOf_45 : decode cX11_basketOf 45 = .ok (.iconst 0, 1) := by decide +kernel
theorem dX11_basketOf_46 : decode cX11_basketOf 46 = .ok (.invokevirtual 134, 3) := by decide +kernel
theorem dX11_basketOf_49 : decode cX11_basketOf 49 = .ok (.iadd, 1) := by decide +kernel
theorem dX11_basketOf_50 : decode cX11_basketOf 50 = .ok (.istore_n 3, 1) := by decide +kernel
theorem dX11_basketOf_51 : decode cX11_basketOf 51 = .ok (.iinc 4 1, 3) := by decide +kernel
theorem dX11_basketOf_54 : decode cX11_basketOf 54 = .ok (.goto (-49), 3) := by decide +kernel
theorem dX11_basketOf_57 : decode cX11_basketOf 57 = .ok (.iload_n 3, 1) := by decide +kernel
theorem dX11_basketOf_58 : decode cX11_basketOf 58 = .ok (.ireturn, 1) := by decide +kernel
theorem dX11_basket_0 : decode cX11_basket 0 = .ok (.iload_n 1, 1) := by decide +kernel
theorem dX11_basket_1 : decode cX11_basket 1 = .ok (.i2l, 1) := by decide +kernel
theorem dX11_basket_2 : decode cX11_basket 2 = .ok (.lconst 0, 1) := by decide +kernel
theorem dX11_basket_3 : decode cX11_basket 3 = .ok (.ldc2_w 65, 3) := by decide +kernel
theorem dX11_basket_6 : decode cX11_basket 6 = .ok (.invokestatic 51, 3) := by decide +kernel
theorem dX11_basket_9 : decode cX11_basket 9 = .ok (.ifCond .eq 22, 3) := by decide +kernel
theorem dX11_basket_12 : decode cX11_basket 12 = .ok (.iload_n 2, 1) := by decide +kernel
theorem dX11_basket_13 : decode cX11_basket 13 = .ok (.i2l, 1) := by decide +kernel
theorem dX11_basket_14 : decode cX11_basket 14 = .ok (.lconst 0, 1) := by decide +kernel
theorem dX11_basket_15 : decode cX11_basket 15 = .ok (.lconst 1, 1) := by decide +kernel
theorem dX11_basket_16 : decode cX11_basket 16 = .ok (.invokestatic 51, 3) := by decide +kernel
theorem dX11_basket_19 : decode cX11_basket 19 = .ok (.ifCond .eq 12, 3) := by decide +kernel
theorem dX11_basket_22 : decode cX11_basket 22 = .ok (.aload_n 0, 1) := by decide +kernel
theorem dX11_basket_23 : decode cX11_basket 23 = .ok (.iload_n 1, 1) := by decide +kernel
theorem dX11_basket_24 : decode cX11_basket 24 = .ok (.iload_n 2, 1) := by decide +kernel
theorem dX11_basket_25 : decode cX11_basket 25 = .ok (.invokevirtual 142, 3) := by decide +kernel
theorem dX11_basket_28 : decode cX11_basket 28 = .ok (.goto 4, 3) := by decide +kernel
theorem dX11_basket_31 : decode cX11_basket 31 = .ok (.iconst (-1), 1) := by decide +kernel
theorem dX11_basket_32 : decode cX11_basket 32 = .ok (.ireturn, 1) := by decide +kernel
theorem dX11_valueOf_0 : decode cX11_valueOf 0 = .ok (.iconst 0, 1) := by decide +kernel
theorem dX11_valueOf_1 : decode cX11_valueOf 1 = .ok (.istore_n 2, 1) := by decide +kernel
theorem dX11_valueOf_2 : decode cX11_valueOf 2 = .ok (.iconst 0, 1) := by decide +kernel
theorem dX11_valueOf_3 : decode cX11_valueOf 3 = .ok (.istore_n 3, 1) := by decide +kernel
theorem dX11_valueOf_4 : decode cX11_valueOf 4 = .ok (.iload_n 3, 1) := by decide +kernel
theorem dX11_valueOf_5 : decode cX11_valueOf 5 = .ok (.bipush 10, 2) := by decide +kernel
theorem dX11_valueOf_7 : decode cX11_valueOf 7 = .ok (.if_icmp .ge 28, 3) := by decide +kernel
theorem dX11_valueOf_10 : decode cX11_valueOf 10 = .ok (.iload_n 2, 1) := by decide +kernel
theorem dX11_valueOf_11 : decode cX11_valueOf 11 = .ok (.aload_n 0, 1) := by decide +kernel
theorem dX11_valueOf_12 : decode cX11_valueOf 12 = .ok (.getfield 7, 3) := by decide +kernel
theorem dX11_valueOf_15 : decode cX11_valueOf 15 = .ok (.bipush 64, 2) := by decide +kernel
theorem dX11_valueOf_17 : decode cX11_valueOf 17 = .ok (.iload_n 3, 1) := by decide +kernel
theorem dX11_valueOf_18 : decode cX11_valueOf 18 = .ok (.iadd, 1) := by decide +kernel
theorem dX11_valueOf_19 : decode cX11_valueOf 19 = .ok (.iaload, 1) := by decide +kernel
theorem dX11_valueOf_20 : decode cX11_valueOf 20 = .ok (.aload_n 0, 1) := by decide +kernel
theorem dX11_valueOf_21 : decode cX11_valueOf 21 = .ok (.iload_n 3, 1) := by decide +kernel
theorem dX11_valueOf_22 : decode cX11_valueOf 22 = .ok (.iload_n 1, 1) := by decide +kernel
theorem dX11_valueOf_23 : decode cX11_valueOf 23 = .ok (.invokevirtual 142, 3) := by decide +kernel
theorem dX11_valueOf_26 : decode cX11_valueOf 26 = .ok (.imul, 1) := by decide +kernel
theorem dX11_valueOf_27 : decode cX11_valueOf 27 = .ok (.iadd, 1) := by decide +kernel
theorem dX11_valueOf_28 : decode cX11_valueOf 28 = .ok (.istore_n 2, 1) := by decide +kernel
theorem dX11_valueOf_29 : decode cX11_valueOf 29 = .ok (.iinc 3 1, 3) := by decide +kernel
theorem dX11_valueOf_32 : decode cX11_valueOf 32 = .ok (.goto (-28), 3) := by decide +kernel
theorem dX11_valueOf_35 : decode cX11_valueOf 35 = .ok (.iload_n 2, 1) := by decide +kernel
theorem dX11_valueOf_36 : decode cX11_valueOf 36 = .ok (.ireturn, 1) := by decide +kernel
theorem dX11_value_0 : decode cX11_value 0 = .ok (.iload_n 1, 1) := by decide +kernel
theorem dX11_value_1 : decode cX11_value 1 = .ok (.i2l, 1) := by decide +kernel
theorem dX11_value_2 : decode cX11_value 2 = .ok (.lconst 0, 1) := by decide +kernel
theorem dX11_value_3 : decode cX11_value 3 = .ok (.lconst 1, 1) := by decide +kernel
theorem dX11_value_4 : decode cX11_value 4 = .ok (.invokestatic 51, 3) := by decide +kernel
theorem dX11_value_7 : decode cX11_value 7 = .ok (.ifCond .eq 11, 3) := by decide +kernel
theorem dX11_value_10 : decode cX11_value 10 = .ok (.aload_n 0, 1) := by decide +kernel
theorem dX11_value_11 : decode cX11_value 11 = .ok (.iload_n 1, 1) := by decide +kernel
theorem dX11_value_12 : decode cX11_value 12 = .ok (.invokevirtual 145, 3) := by decide +kernel
theorem dX11_value_15 : decode cX11_value 15 = .ok (.goto 5, 3) := by decide +kernel
theorem dX11_value_18 : decode cX11_value 18 = .ok (.ldc 84, 2) := by decide +kernel
theorem dX11_value_20 : decode cX11_value 20 = .ok (.ireturn, 1) := by decide +kernel
theorem dX11_draw_0 : decode cX11_draw 0 = .ok (.aload_n 0, 1) := by decide +kernel
theorem dX11_draw_1 : decode cX11_draw 1 = .ok (.getfield 7, 3) := by decide +kernel
theorem dX11_draw_4 : decode cX11_draw 4 = .ok (.bipush 74, 2) := by decide +kernel
theorem dX11_draw_6 : decode cX11_draw 6 = .ok (.aload_n 0, 1) := by decide +kernel
theorem dX11_draw_7 : decode cX11_draw 7 = .ok (.getfield 7, 3) := by decide +kernel
theorem dX11_draw_10 : decode cX11_draw 10 = .ok (.bipush 74, 2) := by decide +kernel
theorem dX11_draw_12 : decode cX11_draw 12 = .ok (.iaload, 1) := by decide +kernel
theorem dX11_draw_13 : decode cX11_draw 13 = .ok (.i2l, 1) := by decide +kernel
theorem dX11_draw_14 : decode cX11_draw 14 = .ok (.ldc2_w 148, 3) := by decide +kernel
theorem dX11_draw_17 : decode cX11_draw 17 = .ok (.lmul, 1) := by decide +kernel
theorem dX11_draw_18 : decode cX11_draw 18 = .ok (.ldc2_w 150, 3) := by decide +kernel
theorem dX11_draw_21 : decode cX11_draw 21 = .ok (.ladd, 1) := by decide +kernel
theorem dX11_draw_22 : decode cX11_draw 22 = .ok (.ldc2_w 152, 3) := by decide +kernel
theorem dX11_draw_25 : decode cX11_draw 25 = .ok (.land, 1) := by decide +kernel
theorem dX11_draw_26 : decode cX11_draw 26 = .ok (.l2i, 1) := by decide +kernel
theorem dX11_draw_27 : decode cX11_draw 27 = .ok (.iastore, 1) := by decide +kernel
theorem dX11_draw_28 : decode cX11_draw 28 = .ok (.aload_n 0, 1) := by decide +kernel
theorem dX11_draw_29 : decode cX11_draw 29 = .ok (.getfield 7, 3) := by decide +kernel
theorem dX11_draw_32 : decode cX11_draw 32 = .ok (.bipush 74, 2) := by decide +kernel
theorem dX11_draw_34 : decode cX11_draw 34 = .ok (.iaload, 1) := by decide +kernel
theorem dX11_draw_35 : decode cX11_draw 35 = .ok (.ldc 154, 2) := by decide +kernel
theorem dX11_draw_37 : decode cX11_draw 37 = .ok (.idiv, 1) := by decide +kernel
theorem dX11_draw_38 : decode cX11_draw 38 = .ok (.iload_n 1, 1) := by decide +kernel
theorem dX11_draw_39 : decode cX11_draw 39 = .ok (.irem, 1) := by decide +kernel
theorem dX11_draw_40 : decode cX11_draw 40 = .ok (.ireturn, 1) := by decide +kernel
theorem dX11_turns_0 : decode cX11_turns 0 = .ok (.aload_n 0, 1) := by decide +kernel
theorem dX11_turns_1 : decode cX11_turns 1 = .ok (.getfield 7, 3) := by decide +kernel
theorem dX11_turns_4 : decode cX11_turns 4 = .ok (.bipush 19, 2) := by decide +kernel
theorem dX11_turns_6 : decode cX11_turns 6 = .ok (.iload_n 1, 1) := by decide +kernel
theorem dX11_turns_7 : decode cX11_turns 7 = .ok (.iadd, 1) := by decide +kernel
theorem dX11_turns_8 : decode cX11_turns 8 = .ok (.aload_n 0, 1) := by decide +kernel
theorem dX11_turns_9 : decode cX11_turns 9 = .ok (.getfield 7, 3) := by decide +kernel
theorem dX11_turns_12 : decode cX11_turns 12 = .ok (.bipush 13, 2) := by decide +kernel
theorem dX11_turns_14 : decode cX11_turns 14 = .ok (.iload_n 1, 1) := by decide +kernel
theorem dX11_turns_15 : decode cX11_turns 15 = .ok (.iadd, 1) := by decide +kernel
theorem dX11_turns_16 : decode cX11_turns 16 = .ok (.iaload, 1) := by decide +kernel
theorem dX11_turns_17 : decode cX11_turns 17 = .ok (.iastore, 1) := by decide +kernel
theorem dX11_turns_18 : decode cX11_turns 18 = .ok (.aload_n 0, 1) := by decide +kernel
theorem dX11_turns_19 : decode cX11_turns 19 = .ok (.getfield 7, 3) := by decide +kernel
theorem dX11_turns_22 : decode cX11_turns 22 = .ok (.bipush 31, 2) := by decide +kernel
theorem dX11_turns_24 : decode cX11_turns 24 = .ok (.iload_n 1, 1) := by decide +kernel
theorem dX11_turns_25 : decode cX11_turns 25 = .ok (.iadd, 1) := by decide +kernel
theorem dX11_turns_26 : decode cX11_turns 26 = .ok (.aload_n 0, 1) := by decide +kernel
theorem dX11_turns_27 : decode cX11_turns 27 = .ok (.getfield 7, 3) := by decide +kernel
theorem dX11_turns_30 : decode cX11_turns 30 = .ok (.bipush 25, 2) := by decide +kernel
theorem dX11_turns_32 : decode cX11_turns 32 = .ok (.iload_n 1, 1) := by decide +kernel
theorem dX11_turns_33 : decode cX11_turns 33 = .ok (.iadd, 1) := by decide +kernel
theorem dX11_turns_34 : decode cX11_turns 34 = .ok (.iaload, 1) := by decide +kernel
theorem dX11_turns_35 : decode cX11_turns 35 = .ok (.iastore, 1) := by decide +kernel
theorem dX11_turns_36 : decode cX11_turns 36 = .ok (.aload_n 0, 1) := by decide +kernel
theorem dX11_turns_37 : decode cX11_turns 37 = .ok (.getfield 7, 3) := by decide +kernel
theorem dX11_turns_40 : decode cX11_turns 40 = .ok (.bipush 13, 2) := by decide +kernel
theorem dX11_turns_42 : decode cX11_turns 42 = .ok (.iload_n 1, 1) := by decide +kernel
theorem dX11_turns_43 : decode cX11_turns 43 = .ok (.iadd, 1) := by decide +kernel
theorem dX11_turns_44 : decode cX11_turns 44 = .ok (.aload_n 0, 1) := by decide +kernel
theorem dX11_turns_45 : decode cX11_turns 45 = .ok (.getfield 7, 3) := by decide +kernel
theorem dX11_turns_48 : decode cX11_turns 48 = .ok (.bipush 7, 2) := by decide +kernel
theorem dX11_turns_50 : decode cX11_turns 50 = .ok (.iload_n 1, 1) := by decide +kernel
theorem dX11_turns_51 : decode cX11_turns 51 = .ok (.iadd, 1) := by decide +kernel
theorem dX11_turns_52 : decode cX11_turns 52 = .ok (.iaload, 1) := by decide +kernel
theorem dX11_turns_53 : decode cX11_turns 53 = .ok (.iastore, 1) := by decide +kernel
theorem dX11_turns_54 : decode cX11_turns 54 = .ok (.aload_n 0, 1) := by decide +kernel
theorem dX11_turns_55 : decode cX11_turns 55 = .ok (.getfield 7, 3) := by decide +kernel
theorem dX11_turns_58 : decode cX11_turns 58 = .ok (.bipush 25, 2) := by decide +kernel
theorem dX11_turns_60 : decode cX11_turns 60 = .ok (.iload_n 1, 1) := by decide +kernel
theorem dX11_turns_61 : decode cX11_turns 61 = .ok (.iadd, 1) := by decide +kernel
theorem dX11_turns_62 : decode cX11_turns 62 = .ok (.iload_n 2, 1) := by decide +kernel
theorem dX11_turns_63 : decode cX11_turns 63 = .ok (.iastore, 1) := by decide +kernel
theorem dX11_turns_64 : decode cX11_turns 64 = .ok (.aload_n 0, 1) := by decide +kernel
theorem dX11_turns_65 : decode cX11_turns 65 = .ok (.getfield 7, 3) := by decide +kernel
theorem dX11_turns_68 : decode cX11_turns 68 = .ok (.bipush 7, 2) := by decide +kernel
theorem dX11_turns_70 : decode cX11_turns 70 = .ok (.iload_n 1, 1) := by decide +kernel
theorem dX11_turns_71 : decode cX11_turns 71 = .ok (.iadd, 1) := by decide +kernel
theorem dX11_turns_72 : decode cX11_turns 72 = .ok (.iconst 5, 1) := by decide +kernel
theorem dX11_turns_73 : decode cX11_turns 73 = .ok (.iastore, 1) := by decide +kernel
theorem dX11_turns_74 : decode cX11_turns 74 = .ok (.return_, 1) := by decide +kernel
theorem dX11_year_0 : decode cX11_year 0 = .ok (.aload_n 0, 1) := by decide +kernel
theorem dX11_year_1 : decode cX11_year 1 = .ok (.getfield 7, 3) := by decide +kernel
theorem dX11_year_4 : decode cX11_year 4 = .ok (.bipush 75, 2) := by decide +kernel
theorem dX11_year_6 : decode cX11_year 6 = .ok (.iaload, 1) := by decide +kernel
theorem dX11_year_7 : decode cX11_year 7 = .ok (.sipush 9999, 3) := by decide +kernel
theorem dX11_year_10 : decode cX11_year 10 = .ok (.if_icmp .ne 6, 3) := by decide +kernel
theorem dX11_year_13 : decode cX11_year 13 = .ok (.bipush (-3), 2) := by decide +kernel
theorem dX11_year_15 : decode cX11_year 15 = .ok (.ireturn, 1) := by decide +kernel
theorem dX11_year_16 : decode cX11_year 16 = .ok (.aload_n 0, 1) := by decide +kernel
theorem dX11_year_17 : decode cX11_year 17 = .ok (.getfield 7, 3) := by decide +kernel
theorem dX11_year_20 : decode cX11_year 20 = .ok (.bipush 76, 2) := by decide +kernel
theorem dX11_year_22 : decode cX11_year 22 = .ok (.iconst 0, 1) := by decide +kernel
theorem dX11_year_23 : decode cX11_year 23 = .ok (.iastore, 1) := by decide +kernel
theorem dX11_year_24 : decode cX11_year 24 = .ok (.iconst 0, 1) := by decide +kernel
theorem dX11_year_25 : decode cX11_year 25 = .ok (.istore_n 1, 1) := by decide +kernel
theorem dX11_year_26 : decode cX11_year 26 = .ok (.iload_n 1, 1) := by decide +kernel
theorem dX11_year_27 : decode cX11_year 27 = .ok (.aload_n 0, 1) := by decide +kernel
theorem dX11_year_28 : decode cX11_year 28 = .ok (.getfield 7, 3) := by decide +kernel
theorem dX11_year_31 : decode cX11_year 31 = .ok (.iconst 0, 1) := by decide +kernel
theorem dX11_year_32 : decode cX11_year 32 = .ok (.iaload, 1) := by decide +kernel
theorem dX11_year_33 : decode cX11_year 33 = .ok (.if_icmp .ge 84, 3) := by decide +kernel
theorem dX11_year_36 : decode cX11_year 36 = .ok (.aload_n 0, 1) := by decide +kernel
theorem dX11_year_37 : decode cX11_year 37 = .ok (.getfield 7, 3) := by decide +kernel
theorem dX11_year_40 : decode cX11_year 40 = .ok (.bipush 7, 2) := by decide +kernel
theorem dX11_year_42 : decode cX11_year 42 = .ok (.iload_n 1, 1) := by decide +kernel
theorem dX11_year_43 : decode cX11_year 43 = .ok (.iadd, 1) := by decide +kernel
theorem dX11_year_44 : decode cX11_year 44 = .ok (.iaload, 1) := by decide +kernel
theorem dX11_year_45 : decode cX11_year 45 = .ok (.istore_n 2, 1) := by decide +kernel
theorem dX11_year_46 : decode cX11_year 46 = .ok (.iconst 0, 1) := by decide +kernel
theorem dX11_year_47 : decode cX11_year 47 = .ok (.istore_n 3, 1) := by decide +kernel
theorem dX11_year_48 : decode cX11_year 48 = .ok (.iload_n 2, 1) := by decide +kernel
theorem dX11_year_49 : decode cX11_year 49 = .ok (.iconst 5, 1) := by decide +kernel
theorem dX11_year_50 : decode cX11_year 50 = .ok (.if_icmp .eq 44, 3) := by decide +kernel
theorem dX11_year_53 : decode cX11_year 53 = .ok (.aload_n 0, 1) := by decide +kernel
theorem dX11_year_54 : decode cX11_year 54 = .ok (.bipush 10, 2) := by decide +kernel
theorem dX11_year_56 : decode cX11_year 56 = .ok (.invokevirtual 155, 3) := by decide +kernel
theorem dX11_year_59 : decode cX11_year 59 = .ok (.istore 4, 2) := by decide +kernel
theorem dX11_year_61 : decode cX11_year 61 = .ok (.iload 4, 2) := by decide +kernel
theorem dX11_year_63 : decode cX11_year 63 = .ok (.aload_n 0, 1) := by decide +kernel
theorem dX11_year_64 : decode cX11_year 64 = .ok (.getfield 7, 3) := by decide +kernel
theorem dX11_year_67 : decode cX11_year 67 = .ok (.bipush 59, 2) := by decide +kernel
theorem dX11_year_69 : decode cX11_year 69 = .ok (.iload_n 2, 1) := by decide +kernel
theorem dX11_year_70 : decode cX11_year 70 = .ok (.iadd, 1) := by decide +kernel
theorem dX11_year_71 : decode cX11_year 71 = .ok (.iaload, 1) := by decide +kernel
theorem dX11_year_72 : decode cX11_year 72 = .ok (.if_icmp .ge 20, 3) := by decide +kernel
theorem dX11_year_75 : decode cX11_year 75 = .ok (.aload_n 0, 1) := by decide +kernel
theorem dX11_year_76 : decode cX11_year 76 = .ok (.getfield 7, 3) := by decide +kernel
theorem dX11_year_79 : decode cX11_year 79 = .ok (.bipush 44, 2) := by decide +kernel
theorem dX11_year_81 : decode cX11_year 81 = .ok (.iload_n 2, 1) := by decide +kernel
theorem dX11_year_82 : decode cX11_year 82 = .ok (.iadd, 1) := by decide +kernel
theorem dX11_year_83 : decode cX11_year 83 = .ok (.iaload, 1) := by decide +kernel
theorem dX11_year_84 : decode cX11_year 84 = .ok (.iconst 3, 1) := by decide +kernel
theorem dX11_year_85 : decode cX11_year 85 = .ok (.if_icmp .eq 7, 3) := by decide +kernel
theorem dX11_year_88 : decode cX11_year 88 = .ok (.iconst 1, 1) := by decide +kernel
theorem dX11_year_89 : decode cX11_year 89 = .ok (.goto 4, 3) := by decide +kernel
theorem dX11_year_92 : decode cX11_year 92 = .ok (.iconst 0, 1) := by decide +kernel
theorem dX11_year_93 : decode cX11_year 93 = .ok (.istore_n 3, 1) := by decide +kernel
theorem dX11_year_94 : decode cX11_year 94 = .ok (.aload_n 0, 1) := by decide +kernel
theorem dX11_year_95 : decode cX11_year 95 = .ok (.getfield 7, 3) := by decide +kernel
theorem dX11_year_98 : decode cX11_year 98 = .ok (.bipush 76, 2) := by decide +kernel
theorem dX11_year_100 : decode cX11_year 100 = .ok (.dup2, 1) := by decide +kernel
theorem dX11_year_101 : decode cX11_year 101 = .ok (.iaload, 1) := by decide +kernel
theorem dX11_year_102 : decode cX11_year 102 = .ok (.iload_n 3, 1) := by decide +kernel
theorem dX11_year_103 : decode cX11_year 103 = .ok (.iadd, 1) := by decide +kernel
theorem dX11_year_104 : decode cX11_year 104 = .ok (.iastore, 1) := by decide +kernel
theorem dX11_year_105 : decode cX11_year 105 = .ok (.aload_n 0, 1) := by decide +kernel
theorem dX11_year_106 : decode cX11_year 106 = .ok (.iload_n 1, 1) := by decide +kernel
theorem dX11_year_107 : decode cX11_year 107 = .ok (.iload_n 3, 1) := by decide +kernel
theorem dX11_year_108 : decode cX11_year 108 = .ok (.invokevirtual 158, 3) := by decide +kernel
theorem dX11_year_111 : decode cX11_year 111 = .ok (.iinc 1 1, 3) := by decide +kernel
theorem dX11_year_114 : decode cX11_year 114 = .ok (.goto (-88), 3) := by decide +kernel
theorem dX11_year_117 : decode cX11_year 117 = .ok (.aload_n 0, 1) := by decide +kernel
theorem dX11_year_118 : decode cX11_year 118 = .ok (.getfield 7, 3) := by decide +kernel
theorem dX11_year_121 : decode cX11_year 121 = .ok (.bipush 75, 2) := by decide +kernel
theorem dX11_year_123 : decode cX11_year 123 = .ok (.dup2, 1) := by decide +kernel
theorem dX11_year_124 : decode cX11_year 124 = .ok (.iaload, 1) := by decide +kernel
theorem dX11_year_125 : decode cX11_year 125 = .ok (.iconst 1, 1) := by decide +kernel
theorem dX11_year_126 : decode cX11_year 126 = .ok (.iadd, 1) := by decide +kernel
theorem dX11_year_127 : decode cX11_year 127 = .ok (.iastore, 1) := by decide +kernel
theorem dX11_year_128 : decode cX11_year 128 = .ok (.aload_n 0, 1) := by decide +kernel
theorem dX11_year_129 : decode cX11_year 129 = .ok (.getfield 7, 3) := by decide +kernel
theorem dX11_year_132 : decode cX11_year 132 = .ok (.bipush 76, 2) := by decide +kernel
theorem dX11_year_134 : decode cX11_year 134 = .ok (.iaload, 1) := by decide +kernel
theorem dX11_year_135 : decode cX11_year 135 = .ok (.ireturn, 1) := by decide +kernel
theorem dX11_seed_0 : decode cX11_seed 0 = .ok (.iload_n 1, 1) := by decide +kernel
theorem dX11_seed_1 : decode cX11_seed 1 = .ok (.ifCond .ge 5, 3) := by decide +kernel
theorem dX11_seed_4 : decode cX11_seed 4 = .ok (.iconst (-1), 1) := by decide +kernel
theorem dX11_seed_5 : decode cX11_seed 5 = .ok (.ireturn, 1) := by decide +kernel
theorem dX11_seed_6 : decode cX11_seed 6 = .ok (.aload_n 0, 1) := by decide +kernel
theorem dX11_seed_7 : decode cX11_seed 7 = .ok (.getfield 7, 3) := by decide +kernel
theorem dX11_seed_10 : decode cX11_seed 10 = .ok (.bipush 74, 2) := by decide +kernel
theorem dX11_seed_12 : decode cX11_seed 12 = .ok (.iaload, 1) := by decide +kernel
theorem dX11_seed_13 : decode cX11_seed 13 = .ok (.istore_n 2, 1) := by decide +kernel
theorem dX11_seed_14 : decode cX11_seed 14 = .ok (.aload_n 0, 1) := by decide +kernel
theorem dX11_seed_15 : decode cX11_seed 15 = .ok (.getfield 7, 3) := by decide +kernel
theorem dX11_seed_18 : decode cX11_seed 18 = .ok (.bipush 74, 2) := by decide +kernel
theorem dX11_seed_20 : decode cX11_seed 20 = .ok (.iload_n 1, 1) := by decide +kernel
theorem dX11_seed_21 : decode cX11_seed 21 = .ok (.iastore, 1) := by decide +kernel
theorem dX11_seed_22 : decode cX11_seed 22 = .ok (.iload_n 2, 1) := by decide +kernel
theorem dX11_seed_23 : decode cX11_seed 23 = .ok (.ireturn, 1) := by decide +kernel
theorem dX11_orders_0 : decode cX11_orders 0 = .ok (.iconst 1, 1) := by decide +kernel
theorem dX11_orders_1 : decode cX11_orders 1 = .ok (.istore_n 1, 1) := by decide +kernel
theorem dX11_orders_2 : decode cX11_orders 2 = .ok (.iconst 0, 1) := by decide +kernel
theorem dX11_orders_3 : decode cX11_orders 3 = .ok (.istore_n 2, 1) := by decide +kernel
theorem dX11_orders_4 : decode cX11_orders 4 = .ok (.iload_n 2, 1) := by decide +kernel
theorem dX11_orders_5 : decode cX11_orders 5 = .ok (.aload_n 0, 1) := by decide +kernel
theorem dX11_orders_6 : decode cX11_orders 6 = .ok (.getfield 7, 3) := by decide +kernel
theorem dX11_orders_9 : decode cX11_orders 9 = .ok (.iconst 0, 1) := by decide +kernel
theorem dX11_orders_10 : decode cX11_orders 10 = .ok (.iaload, 1) := by decide +kernel
theorem dX11_orders_11 : decode cX11_orders 11 = .ok (.if_icmp .ge 14, 3) := by decide +kernel
theorem dX11_orders_14 : decode cX11_orders 14 = .ok (.iload_n 1, 1) := by decide +kernel
theorem dX11_orders_15 : decode cX11_orders 15 = .ok (.bipush 6, 2) := by decide +kernel
theorem dX11_orders_17 : decode cX11_orders 17 = .ok (.imul, 1) := by decide +kernel
theorem dX11_orders_18 : decode cX11_orders 18 = .ok (.istore_n 1, 1) := by decide +kernel
theorem dX11_orders_19 : decode cX11_orders 19 = .ok (.iinc 2 1, 3) := by decide +kernel
theorem dX11_orders_22 : decode cX11_orders 22 = .ok (.goto (-18), 3) := by decide +kernel
theorem dX11_orders_25 : decode cX11_orders 25 = .ok (.iload_n 1, 1) := by decide +kernel
theorem dX11_orders_26 : decode cX11_orders 26 = .ok (.ireturn, 1) := by decide +kernel
theorem dX11_layOrder_0 : decode cX11_layOrder 0 = .ok (.iload_n 1, 1) := by decide +kernel
theorem dX11_layOrder_1 : decode cX11_layOrder 1 = .ok (.istore 4, 2) := by decide +kernel
theorem dX11_layOrder_3 : decode cX11_layOrder 3 = .ok (.iconst 0, 1) := by decide +kernel
theorem dX11_layOrder_4 : decode cX11_layOrder 4 = .ok (.istore 5, 2) := by decide +kernel
theorem dX11_layOrder_6 : decode cX11_layOrder 6 = .ok (.aload_n 0, 1) := by decide +kernel
theorem dX11_layOrder_7 : decode cX11_layOrder 7 = .ok (.getfield 7, 3) := by decide +kernel
theorem dX11_layOrder_10 : decode cX11_layOrder 10 = .ok (.iconst 0, 1) := by decide +kernel
theorem dX11_layOrder_11 : decode cX11_layOrder 11 = .ok (.iaload, 1) := by decide +kernel
theorem dX11_layOrder_12 : decode cX11_layOrder 12 = .ok (.iconst 1, 1) := by decide +kernel
theorem dX11_layOrder_13 : decode cX11_layOrder 13 = .ok (.isub, 1) := by decide +kernel
theorem dX11_layOrder_14 : decode cX11_layOrder 14 = .ok (.istore 6, 2) := by decide +kernel
theorem dX11_layOrder_16 : decode cX11_layOrder 16 = .ok (.iload 6, 2) := by decide +kernel
theorem dX11_layOrder_18 : decode cX11_layOrder 18 = .ok (.ifCond .lt 130, 3) := by decide +kernel
theorem dX11_layOrder_21 : decode cX11_layOrder 21 = .ok (.iload 4, 2) := by decide +kernel
theorem dX11_layOrder_23 : decode cX11_layOrder 23 = .ok (.bipush 6, 2) := by decide +kernel
theorem dX11_layOrder_25 : decode cX11_layOrder 25 = .ok (.irem, 1) := by decide +kernel
theorem dX11_layOrder_26 : decode cX11_layOrder 26 = .ok (.istore 7, 2) := by decide +kernel
theorem dX11_layOrder_28 : decode cX11_layOrder 28 = .ok (.iload 4, 2) := by decide +kernel
theorem dX11_layOrder_30 : decode cX11_layOrder 30 = .ok (.bipush 6, 2) := by decide +kernel
theorem dX11_layOrder_32 : decode cX11_layOrder 32 = .ok (.idiv, 1) := by decide +kernel
theorem dX11_layOrder_33 : decode cX11_layOrder 33 = .ok (.istore 4, 2) := by decide +kernel
theorem dX11_layOrder_35 : decode cX11_layOrder 35 = .ok (.aload_n 0, 1) := by decide +kernel
theorem dX11_layOrder_36 : decode cX11_layOrder 36 = .ok (.getfield 19, 3) := by decide +kernel
theorem dX11_layOrder_39 : decode cX11_layOrder 39 = .ok (.iload 6, 2) := by decide +kernel
theorem dX11_layOrder_41 : decode cX11_layOrder 41 = .ok (.iload 7, 2) := by decide +kernel
theorem dX11_layOrder_43 : decode cX11_layOrder 43 = .ok (.iastore, 1) := by decide +kernel
theorem dX11_layOrder_44 : decode cX11_layOrder 44 = .ok (.iload 7, 2) := by decide +kernel
theorem dX11_layOrder_46 : decode cX11_layOrder 46 = .ok (.iconst 5, 1) := by decide +kernel
theorem dX11_layOrder_47 : decode cX11_layOrder 47 = .ok (.if_icmp .eq 95, 3) := by decide +kernel
theorem dX11_layOrder_50 : decode cX11_layOrder 50 = .ok (.aload_n 0, 1) := by decide +kernel
theorem dX11_layOrder_51 : decode cX11_layOrder 51 = .ok (.iload 7, 2) := by decide +kernel
theorem dX11_layOrder_53 : decode cX11_layOrder 53 = .ok (.invokevirtual 71, 3) := by decide +kernel
theorem dX11_layOrder_56 : decode cX11_layOrder 56 = .ok (.ifCond .eq 67, 3) := by decide +kernel
theorem dX11_layOrder_59 : decode cX11_layOrder 59 = .ok (.iload_n 2, 1) := by decide +kernel
theorem dX11_layOrder_60 : decode cX11_layOrder 60 = .ok (.iload 7, 2) := by decide +kernel
theorem dX11_layOrder_62 : decode cX11_layOrder 62 = .ok (.invokestatic 88, 3) := by decide +kernel
theorem dX11_layOrder_65 : decode cX11_layOrder 65 = .ok (.ifCond .eq 58, 3) := by decide +kernel
theorem dX11_layOrder_68 : decode cX11_layOrder 68 = .ok (.aload_n 0, 1) := by decide +kernel
theorem dX11_layOrder_69 : decode cX11_layOrder 69 = .ok (.getfield 7, 3) := by decide +kernel
theorem dX11_layOrder_72 : decode cX11_layOrder 72 = .ok (.bipush 37, 2) := by decide +kernel
theorem dX11_layOrder_74 : decode cX11_layOrder 74 = .ok (.iload 6, 2) := by decide +kernel
theorem dX11_layOrder_76 : decode cX11_layOrder 76 = .ok (.iadd, 1) := by decide +kernel
theorem dX11_layOrder_77 : decode cX11_layOrder 77 = .ok (.iaload, 1) := by decide +kernel
theorem dX11_layOrder_78 : decode cX11_layOrder 78 = .ok (.iload 7, 2) := by decide +kernel
theorem dX11_layOrder_80 : decode cX11_layOrder 80 = .ok (.invokestatic 88, 3) := by decide +kernel
theorem dX11_layOrder_83 : decode cX11_layOrder 83 = .ok (.ifCond .ne 40, 3) := by decide +kernel
theorem dX11_layOrder_86 : decode cX11_layOrder 86 = .ok (.iload_n 3, 1) := by decide +kernel
theorem dX11_layOrder_87 : decode cX11_layOrder 87 = .ok (.iload 6, 2) := by decide +kernel
theorem dX11_layOrder_89 : decode cX11_layOrder 89 = .ok (.invokestatic 88, 3) := by decide +kernel
theorem dX11_layOrder_92 : decode cX11_layOrder 92 = .ok (.ifCond .ne 31, 3) := by decide +kernel
theorem dX11_layOrder_95 : decode cX11_layOrder 95 = .ok (.iload 5, 2) := by decide +kernel
theorem dX11_layOrder_97 : decode cX11_layOrder 97 = .ok (.iload 7, 2) := by decide +kernel
theorem dX11_layOrder_99 : decode cX11_layOrder 99 = .ok (.invokestatic 88, 3) := by decide +kernel
theorem dX11_layOrder_102 : decode cX11_layOrder 102 = .ok (.ifCond .eq 17, 3) := by decide +kernel
theorem dX11_layOrder_105 : decode cX11_layOrder 105 = .ok (.aload_n 0, 1) := by decide +kernel
theorem dX11_layOrder_106 : decode cX11_layOrder 106 = .ok (.getfield 7, 3) := by decide +kernel
theorem dX11_layOrder_109 : decode cX11_layOrder 109 = .ok (.bipush 44, 2) := by decide +kernel
theorem dX11_layOrder_111 : decode cX11_layOrder 111 = .ok (.iload 7, 2) := by decide +kernel
theorem dX11_layOrder_113 : decode cX11_layOrder 113 = .ok (.iadd, 1) := by decide +kernel
theorem dX11_layOrder_114 : decode cX11_layOrder 114 = .ok (.iaload, 1) := by decide +kernel
theorem dX11_layOrder_115 : decode cX11_layOrder 115 = .ok (.iconst 2, 1) := by decide +kernel
theorem dX11_layOrder_116 : decode cX11_layOrder 116 = .ok (.if_icmp .ne 7, 3) := by decide +kernel
theorem dX11_layOrder_119 : decode cX11_layOrder 119 = .ok (.iconst 1, 1) := by decide +kernel
theorem dX11_layOrder_120 : decode cX11_layOrder 120 = .ok (.goto 4, 3) := by decide +kernel
theorem dX11_layOrder_123 : decode cX11_layOrder 123 = .ok (.iconst 0, 1) := by decide +kernel
theorem dX11_layOrder_124 : decode cX11_layOrder 124 = .ok (.istore 8, 2) := by decide +kernel
theorem dX11_layOrder_126 : decode cX11_layOrder 126 = .ok (.iload 8, 2) := by decide +kernel
theorem dX11_layOrder_128 : decode cX11_layOrder 128 = .ok (.ifCond .ne 5, 3) := by decide +kernel
theorem dX11_layOrder_131 : decode cX11_layOrder 131 = .ok (.iconst (-1), 1) := by decide +kernel
theorem dX11_layOrder_132 : decode cX11_layOrder 132 = .ok (.ireturn, 1) := by decide +kernel
theorem dX11_layOrder_133 : decode cX11_layOrder 133 = .ok (.iload 5, 2) := by decide +kernel
theorem dX11_layOrder_135 : decode cX11_layOrder 135 = .ok (.iconst 1, 1) := by decide +kernel
theorem dX11_layOrder_136 : decode cX11_layOrder 136 = .ok (.iload 7, 2) := by decide +kernel
theorem dX11_layOrder_138 : decode cX11_layOrder 138 = .ok (.ishl, 1) := by decide +kernel
theorem dX11_layOrder_139 : decode cX11_layOrder 139 = .ok (.ior, 1) := by decide +kernel
theorem dX11_layOrder_140 : decode cX11_layOrder 140 = .ok (.istore 5, 2) := by decide +kernel
theorem dX11_layOrder_142 : decode cX11_layOrder 142 = .ok (.iinc 6 (-1), 3) := by decide +kernel
theorem dX11_layOrder_145 : decode cX11_layOrder 145 = .ok (.goto (-129), 3) := by decide +kernel
theorem dX11_layOrder_148 : decode cX11_layOrder 148 = .ok (.iload 5, 2) := by decide +kernel
theorem dX11_layOrder_150 : decode cX11_layOrder 150 = .ok (.ireturn, 1) := by decide +kernel
theorem dX11_wagesOf_0 : decode cX11_wagesOf 0 = .ok (.iconst 0, 1) := by decide +kernel
theorem dX11_wagesOf_1 : decode cX11_wagesOf 1 = .ok (.istore_n 2, 1) := by decide +kernel
theorem dX11_wagesOf_2 : decode cX11_wagesOf 2 = .ok (.iconst 0, 1) := by decide +kernel
theorem dX11_wagesOf_3 : decode cX11_wagesOf 3 = .ok (.istore_n 3, 1) := by decide +kernel
theorem dX11_wagesOf_4 : decode cX11_wagesOf 4 = .ok (.iload_n 3, 1) := by decide +kernel
theorem dX11_wagesOf_5 : decode cX11_wagesOf 5 = .ok (.aload_n 0, 1) := by decide +kernel
theorem dX11_wagesOf_6 : decode cX11_wagesOf 6 = .ok (.getfield 7, 3) := by decide +kernel
theorem dX11_wagesOf_9 : decode cX11_wagesOf 9 = .ok (.bipush 43, 2) := by decide +kernel
theorem dX11_wagesOf_11 : decode cX11_wagesOf 11 = .ok (.iaload, 1) := by decide +kernel
theorem dX11_wagesOf_12 : decode cX11_wagesOf 12 = .ok (.if_icmp .ge 33, 3) := by decide +kernel
theorem dX11_wagesOf_15 : decode cX11_wagesOf 15 = .ok (.iload_n 2, 1) := by decide +kernel
theorem dX11_wagesOf_16 : decode cX11_wagesOf 16 = .ok (.iload_n 1, 1) := by decide +kernel
theorem dX11_wagesOf_17 : decode cX11_wagesOf 17 = .ok (.iload_n 3, 1) := by decide +kernel
theorem dX11_wagesOf_18 : decode cX11_wagesOf 18 = .ok (.invokestatic 88, 3) := by decide +kernel
theorem dX11_wagesOf_21 : decode cX11_wagesOf 21 = .ok (.ifCond .eq 15, 3) := by decide +kernel
theorem dX11_wagesOf_24 : decode cX11_wagesOf 24 = .ok (.aload_n 0, 1) := by decide +kernel
theorem dX11_wagesOf_25 : decode cX11_wagesOf 25 = .ok (.getfield 7, 3) := by decide +kernel
theorem dX11_wagesOf_28 : decode cX11_wagesOf 28 = .ok (.bipush 54, 2) := by decide +kernel
theorem dX11_wagesOf_30 : decode cX11_wagesOf 30 = .ok (.iload_n 3, 1) := by decide +kernel
theorem dX11_wagesOf_31 : decode cX11_wagesOf 31 = .ok (.iadd, 1) := by decide +kernel
theorem dX11_wagesOf_32 : decode cX11_wagesOf 32 = .ok (.iaload, 1) := by decide +kernel
theorem dX11_wagesOf_33 : decode cX11_wagesOf 33 = .ok (.goto 4, 3) := by decide +kernel
theorem dX11_wagesOf_36 : decode cX11_wagesOf 36 = .ok (.iconst 0, 1) := by decide +kernel
theorem dX11_wagesOf_37 : decode cX11_wagesOf 37 = .ok (.iadd, 1) := by decide +kernel
theorem dX11_wagesOf_38 : decode cX11_wagesOf 38 = .ok (.istore_n 2, 1) := by decide +kernel
theorem dX11_wagesOf_39 : decode cX11_wagesOf 39 = .ok (.iinc 3 1, 3) := by decide +kernel
theorem dX11_wagesOf_42 : decode cX11_wagesOf 42 = .ok (.goto (-38), 3) := by decide +kernel
theorem dX11_wagesOf_45 : decode cX11_wagesOf 45 = .ok (.iload_n 2, 1) := by decide +kernel
theorem dX11_wagesOf_46 : decode cX11_wagesOf 46 = .ok (.ireturn, 1) := by decide +kernel
theorem dX11_layWorths_0 : decode cX11_layWorths 0 = .ok (.iconst 0, 1) := by decide +kernel
theorem dX11_layWorths_1 : decode cX11_layWorths 1 = .ok (.istore_n 1, 1) := by decide +kernel
theorem dX11_layWorths_2 : decode cX11_layWorths 2 = .ok (.iload_n 1, 1) := by decide +kernel
theorem dX11_layWorths_3 : decode cX11_layWorths 3 = .ok (.aload_n 0, 1) := by decide +kernel
theorem dX11_layWorths_4 : decode cX11_layWorths 4 = .ok (.getfield 7, 3) := by decide +kernel
theorem dX11_layWorths_7 : decode cX11_layWorths 7 = .ok (.iconst 0, 1) := by decide +kernel
theorem dX11_layWorths_8 : decode cX11_layWorths 8 = .ok (.iaload, 1) := by decide +kernel
theorem dX11_layWorths_9 : decode cX11_layWorths 9 = .ok (.if_icmp .ge 58, 3) := by decide +kernel
theorem dX11_layWorths_12 : decode cX11_layWorths 12 = .ok (.iconst 0, 1) := by decide +kernel
theorem dX11_layWorths_13 : decode cX11_layWorths 13 = .ok (.istore_n 2, 1) := by decide +kernel
theorem dX11_layWorths_14 : decode cX11_layWorths 14 = .ok (.iload_n 2, 1) := by decide +kernel
theorem dX11_layWorths_15 : decode cX11_layWorths 15 = .ok (.bipush 6, 2) := by decide +kernel
theorem dX11_layWorths_17 : decode cX11_layWorths 17 = .ok (.if_icmp .ge 44, 3) := by decide +kernel
theorem dX11_layWorths_20 : decode cX11_layWorths 20 = .ok (.aload_n 0, 1) := by decide +kernel
theorem dX11_layWorths_21 : decode cX11_layWorths 21 = .ok (.getfield 22, 3) := by decide +kernel
theorem dX11_layWorths_24 : decode cX11_layWorths 24 = .ok (.bipush 6, 2) := by decide +kernel
theorem dX11_layWorths_26 : decode cX11_layWorths 26 = .ok (.iload_n 1, 1) := by decide +kernel
theorem dX11_layWorths_27 : decode cX11_layWorths 27 = .ok (.imul, 1) := by decide +kernel
theorem dX11_layWorths_28 : decode cX11_layWorths 28 = .ok (.iload_n 2, 1) := by decide +kernel
theorem dX11_layWorths_29 : decode cX11_layWorths 29 = .ok (.iadd, 1) := by decide +kernel
theorem dX11_layWorths_30 : decode cX11_layWorths 30 = .ok (.iload_n 2, 1) := by decide +kernel
theorem dX11_layWorths_31 : decode cX11_layWorths 31 = .ok (.iconst 5, 1) := by decide +kernel
theorem dX11_layWorths_32 : decode cX11_layWorths 32 = .ok (.if_icmp .eq 11, 3) := by decide +kernel
theorem dX11_layWorths_35 : decode cX11_layWorths 35 = .ok (.aload_n 0, 1) := by decide +kernel
theorem dX11_layWorths_36 : decode cX11_layWorths 36 = .ok (.iload_n 2, 1) := by decide +kernel
theorem dX11_layWorths_37 : decode cX11_layWorths 37 = .ok (.invokevirtual 71, 3) := by decide +kernel
theorem dX11_layWorths_40 : decode cX11_layWorths 40 = .ok (.ifCond .eq 13, 3) := by decide +kernel
theorem dX11_layWorths_43 : decode cX11_layWorths 43 = .ok (.aload_n 0, 1) := by decide +kernel
theorem dX11_layWorths_44 : decode cX11_layWorths 44 = .ok (.iload_n 1, 1) := by decide +kernel
theorem dX11_layWorths_45 : decode cX11_layWorths 45 = .ok (.iload_n 2, 1) := by decide +kernel
theorem dX11_layWorths_46 : decode cX11_layWorths 46 = .ok (.iconst 0, 1) := by decide +kernel
theorem dX11_layWorths_47 : decode cX11_layWorths 47 = .ok (.invokevirtual 162, 3) := by decide +kernel
theorem dX11_layWorths_50 : decode cX11_layWorths 50 = .ok (.goto 4, 3) := by decide +kernel
theorem dX11_layWorths_53 : decode cX11_layWorths 53 = .ok (.iconst 0, 1) := by decide +kernel
theorem dX11_layWorths_54 : decode cX11_layWorths 54 = .ok (.iastore, 1) := by decide +kernel
theorem dX11_layWorths_55 : decode cX11_layWorths 55 = .ok (.iinc 2 1, 3) := by decide +kernel
theorem dX11_layWorths_58 : decode cX11_layWorths 58 = .ok (.goto (-44), 3) := by decide +kernel
theorem dX11_layWorths_61 : decode cX11_layWorths 61 = .ok (.iinc 1 1, 3) := by decide +kernel
theorem dX11_layWorths_64 : decode cX11_layWorths 64 = .ok (.goto (-62), 3) := by decide +kernel
theorem dX11_layWorths_67 : decode cX11_layWorths 67 = .ok (.return_, 1) := by decide +kernel
theorem dX11_bestOf_0 : decode cX11_bestOf 0 = .ok (.aload_n 0, 1) := by decide +kernel
theorem dX11_bestOf_1 : decode cX11_bestOf 1 = .ok (.invokevirtual 166, 3) := by decide +kernel
theorem dX11_bestOf_4 : decode cX11_bestOf 4 = .ok (.ldc 169, 2) := by decide +kernel
theorem dX11_bestOf_6 : decode cX11_bestOf 6 = .ok (.istore_n 3, 1) := by decide +kernel
theorem dX11_bestOf_7 : decode cX11_bestOf 7 = .ok (.aload_n 0, 1) := by decide +kernel
theorem dX11_bestOf_8 : decode cX11_bestOf 8 = .ok (.iconst 0, 1) := by decide +kernel
theorem dX11_bestOf_9 : decode cX11_bestOf 9 = .ok (.putfield 170, 3) := by decide +kernel
theorem dX11_bestOf_12 : decode cX11_bestOf 12 = .ok (.iconst 0, 1) := by decide +kernel
theorem dX11_bestOf_13 : decode cX11_bestOf 13 = .ok (.istore 4, 2) := by decide +kernel
theorem dX11_bestOf_15 : decode cX11_bestOf 15 = .ok (.iload 4, 2) := by decide +kernel
theorem dX11_bestOf_17 : decode cX11_bestOf 17 = .ok (.aload_n 0, 1) := by decide +kernel
theorem dX11_bestOf_18 : decode cX11_bestOf 18 = .ok (.invokevirtual 173, 3) := by decide +kernel
theorem dX11_bestOf_21 : decode cX11_bestOf 21 = .ok (.if_icmp .ge 108, 3) := by decide +kernel
theorem dX11_bestOf_24 : decode cX11_bestOf 24 = .ok (.aload_n 0, 1) := by decide +kernel
theorem dX11_bestOf_25 : decode cX11_bestOf 25 = .ok (.iload 4, 2) := by decide +kernel
theorem dX11_bestOf_27 : decode cX11_bestOf 27 = .ok (.iload_n 1, 1) := by decide +kernel
theorem dX11_bestOf_28 : decode cX11_bestOf 28 = .ok (.iload_n 2, 1) := by decide +kernel
theorem dX11_bestOf_29 : decode cX11_bestOf 29 = .ok (.invokevirtual 176, 3) := by decide +kernel
theorem dX11_bestOf_32 : decode cX11_bestOf 32 = .ok (.istore 5, 2) := by decide +kernel
theorem dX11_bestOf_34 : decode cX11_bestOf 34 = .ok (.iload 5, 2) := by decide +kernel
theorem dX11_bestOf_36 : decode cX11_bestOf 36 = .ok (.ifCond .lt 87, 3) := by decide +kernel
theorem dX11_bestOf_39 : decode cX11_bestOf 39 = .ok (.aload_n 0, 1) := by decide +kernel
theorem dX11_bestOf_40 : decode cX11_bestOf 40 = .ok (.iload 5, 2) := by decide +kernel
theorem dX11_bestOf_42 : decode cX11_bestOf 42 = .ok (.invokevirtual 179, 3) := by decide +kernel
theorem dX11_bestOf_45 : decode cX11_bestOf 45 = .ok (.ineg, 1) := by decide +kernel
theorem dX11_bestOf_46 : decode cX11_bestOf 46 = .ok (.istore 6, 2) := by decide +kernel
theorem dX11_bestOf_48 : decode cX11_bestOf 48 = .ok (.iconst 0, 1) := by decide +kernel
theorem dX11_bestOf_49 : decode cX11_bestOf 49 = .ok (.istore 7, 2) := by decide +kernel
theorem dX11_bestOf_51 : decode cX11_bestOf 51 = .ok (.iload 7, 2) := by decide +kernel
theorem dX11_bestOf_53 : decode cX11_bestOf 53 = .ok (.aload_n 0, 1) := by decide +kernel
theorem dX11_bestOf_54 : decode cX11_bestOf 54 = .ok (.getfield 7, 3) := by decide +kernel
theorem dX11_bestOf_57 : decode cX11_bestOf 57 = .ok (.iconst 0, 1) := by decide +kernel
theorem dX11_bestOf_58 : decode cX11_bestOf 58 = .ok (.iaload, 1) := by decide +kernel
theorem dX11_bestOf_59 : decode cX11_bestOf 59 = .ok (.if_icmp .ge 32, 3) := by decide +kernel
theorem dX11_bestOf_62 : decode cX11_bestOf 62 = .ok (.iload 6, 2) := by decide +kernel
theorem dX11_bestOf_64 : decode cX11_bestOf 64 = .ok (.aload_n 0, 1) := by decide +kernel
theorem dX11_bestOf_65 : decode cX11_bestOf 65 = .ok (.getfield 22, 3) := by decide +kernel
theorem dX11_bestOf_68 : decode cX11_bestOf 68 = .ok (.bipush 6, 2) := by decide +kernel
theorem dX11_bestOf_70 : decode cX11_bestOf 70 = .ok (.iload 7, 2) := by decide +kernel
theorem dX11_bestOf_72 : decode cX11_bestOf 72 = .ok (.imul, 1) := by decide +kernel
theorem dX11_bestOf_73 : decode cX11_bestOf 73 = .ok (.aload_n 0, 1) := by decide +kernel
theorem dX11_bestOf_74 : decode cX11_bestOf 74 = .ok (.getfield 19, 3) := by decide +kernel
theorem dX11_bestOf_77 : decode cX11_bestOf 77 = .ok (.iload 7, 2) := by decide +kernel
theorem dX11_bestOf_79 : decode cX11_bestOf 79 = .ok (.iaload, 1) := by decide +kernel
theorem dX11_bestOf_80 : decode cX11_bestOf 80 = .ok (.iadd, 1) := by decide +kernel
theorem dX11_bestOf_81 : decode cX11_bestOf 81 = .ok (.iaload, 1) := by decide +kernel
theorem dX11_bestOf_82 : decode cX11_bestOf 82 = .ok (.iadd, 1) := by decide +kernel
theorem dX11_bestOf_83 : decode cX11_bestOf 83 = .ok (.istore 6, 2) := by decide +kernel
theorem dX11_bestOf_85 : decode cX11_bestOf 85 = .ok (.iinc 7 1, 3) := by decide +kernel
theorem dX11_bestOf_88 : decode cX11_bestOf 88 = .ok (.goto (-37), 3) := by decide +kernel
theorem dX11_bestOf_91 : decode cX11_bestOf 91 = .ok (.aload_n 0, 1) := by decide +kernel
theorem dX11_bestOf_92 : decode cX11_bestOf 92 = .ok (.iload 6, 2) := by decide +kernel
theorem dX11_bestOf_94 : decode cX11_bestOf 94 = .ok (.iload_n 3, 1) := by decide +kernel
theorem dX11_bestOf_95 : decode cX11_bestOf 95 = .ok (.if_icmp .le 8, 3) := by decide +kernel
theorem dX11_bestOf_98 : decode cX11_bestOf 98 = .ok (.iload 4, 2) := by decide +kernel
theorem dX11_bestOf_100 : decode cX11_bestOf 100 = .ok (.goto 7, 3) := by decide +kernel
theorem dX11_bestOf_103 : decode cX11_bestOf 103 = .ok (.aload_n 0, 1) := by decide +kernel
theorem dX11_bestOf_104 : decode cX11_bestOf 104 = .ok (.getfield 170, 3) := by decide +kernel
theorem dX11_bestOf_107 : decode cX11_bestOf 107 = .ok (.putfield 170, 3) := by decide +kernel
theorem dX11_bestOf_110 : decode cX11_bestOf 110 = .ok (.iload 6, 2) := by decide +kernel
theorem dX11_bestOf_112 : decode cX11_bestOf 112 = .ok (.iload_n 3, 1) := by decide +kernel
theorem dX11_bestOf_113 : decode cX11_bestOf 113 = .ok (.if_icmp .le 8, 3) := by decide +kernel
theorem dX11_bestOf_116 : decode cX11_bestOf 116 = .ok (.iload 6, 2) := by decide +kernel
theorem dX11_bestOf_118 : decode cX11_bestOf 118 = .ok (.goto 4, 3) := by decide +kernel
theorem dX11_bestOf_121 : decode cX11_bestOf 121 = .ok (.iload_n 3, 1) := by decide +kernel
theorem dX11_bestOf_122 : decode cX11_bestOf 122 = .ok (.istore_n 3, 1) := by decide +kernel
theorem dX11_bestOf_123 : decode cX11_bestOf 123 = .ok (.iinc 4 1, 3) := by decide +kernel
theorem dX11_bestOf_126 : decode cX11_bestOf 126 = .ok (.goto (-111), 3) := by decide +kernel
theorem dX11_bestOf_129 : decode cX11_bestOf 129 = .ok (.iload_n 3, 1) := by decide +kernel
theorem dX11_bestOf_130 : decode cX11_bestOf 130 = .ok (.ireturn, 1) := by decide +kernel
theorem dX11_everybody_0 : decode cX11_everybody 0 = .ok (.iconst 1, 1) := by decide +kernel
theorem dX11_everybody_1 : decode cX11_everybody 1 = .ok (.aload_n 0, 1) := by decide +kernel
theorem dX11_everybody_2 : decode cX11_everybody 2 = .ok (.getfield 7, 3) := by decide +kernel
theorem dX11_everybody_5 : decode cX11_everybody 5 = .ok (.bipush 43, 2) := by decide +kernel
theorem dX11_everybody_7 : decode cX11_everybody 7 = .ok (.iaload, 1) := by decide +kernel
theorem dX11_everybody_8 : decode cX11_everybody 8 = .ok (.ishl, 1) := by decide +kernel
theorem dX11_everybody_9 : decode cX11_everybody 9 = .ok (.iconst 1, 1) := by decide +kernel
theorem dX11_everybody_10 : decode cX11_everybody 10 = .ok (.isub, 1) := by decide +kernel
theorem dX11_everybody_11 : decode cX11_everybody 11 = .ok (.ireturn, 1) := by decide +kernel
theorem dX11_best_0 : decode cX11_best 0 = .ok (.iload_n 1, 1) := by decide +kernel
theorem dX11_best_1 : decode cX11_best 1 = .ok (.i2l, 1) := by decide +kernel
theorem dX11_best_2 : decode cX11_best 2 = .ok (.ldc2_w 182, 3) := by decide +kernel
theorem dX11_best_5 : decode cX11_best 5 = .ok (.aload_n 0, 1) := by decide +kernel
theorem dX11_best_6 : decode cX11_best 6 = .ok (.getfield 7, 3) := by decide +kernel
theorem dX11_best_9 : decode cX11_best 9 = .ok (.iconst 0, 1) := by decide +kernel
theorem dX11_best_10 : decode cX11_best 10 = .ok (.iaload, 1) := by decide +kernel
theorem dX11_best_11 : decode cX11_best 11 = .ok (.iconst 1, 1) := by decide +kernel
theorem dX11_best_12 : decode cX11_best 12 = .ok (.isub, 1) := by decide +kernel
theorem dX11_best_13 : decode cX11_best 13 = .ok (.i2l, 1) := by decide +kernel
theorem dX11_best_14 : decode cX11_best 14 = .ok (.invokestatic 51, 3) := by decide +kernel
theorem dX11_best_17 : decode cX11_best 17 = .ok (.ifCond .ne 6, 3) := by decide +kernel
theorem dX11_best_20 : decode cX11_best 20 = .ok (.ldc 84, 2) := by decide +kernel
theorem dX11_best_22 : decode cX11_best 22 = .ok (.ireturn, 1) := by decide +kernel
theorem dX11_best_23 : decode cX11_best 23 = .ok (.aload_n 0, 1) := by decide +kernel
theorem dX11_best_24 : decode cX11_best 24 = .ok (.aload_n 0, 1) := by decide +kernel
theorem dX11_best_25 : decode cX11_best 25 = .ok (.invokevirtual 184, 3) := by decide +kernel
theorem dX11_best_28 : decode cX11_best 28 = .ok (.iconst 0, 1) := by decide +kernel
theorem dX11_best_29 : decode cX11_best 29 = .ok (.invokevirtual 187, 3) := by decide +kernel
theorem dX11_best_32 : decode cX11_best 32 = .ok (.istore_n 2, 1) := by decide +kernel
theorem dX11_best_33 : decode cX11_best 33 = .ok (.aload_n 0, 1) := by decide +kernel
theorem dX11_best_34 : decode cX11_best 34 = .ok (.aload_n 0, 1) := by decide +kernel
theorem dX11_best_35 : decode cX11_best 35 = .ok (.getfield 170, 3) := by decide +kernel
theorem dX11_best_38 : decode cX11_best 38 = .ok (.aload_n 0, 1) := by decide +kernel
theorem dX11_best_39 : decode cX11_best 39 = .ok (.invokevirtual 184, 3) := by decide +kernel
theorem dX11_best_42 : decode cX11_best 42 = .ok (.iconst 0, 1) := by decide +kernel
theorem dX11_best_43 : decode cX11_best 43 = .ok (.invokevirtual 176, 3) := by decide +kernel
theorem dX11_best_46 : decode cX11_best 46 = .ok (.pop, 1) := by decide +kernel
theorem dX11_best_47 : decode cX11_best 47 = .ok (.iload_n 1, 1) := by decide +kernel
theorem dX11_best_48 : decode cX11_best 48 = .ok (.ifCond .ge 7, 3) := by decide +kernel
theorem dX11_best_51 : decode cX11_best 51 = .ok (.iload_n 2, 1) := by decide +kernel
theorem dX11_best_52 : decode cX11_best 52 = .ok (.goto 9, 3) := by decide +kernel
theorem dX11_best_55 : decode cX11_best 55 = .ok (.aload_n 0, 1) := by decide +kernel
theorem dX11_best_56 : decode cX11_best 56 = .ok (.getfield 19, 3) := by decide +kernel
theorem dX11_best_59 : decode cX11_best 59 = .ok (.iload_n 1, 1) := by decide +kernel
theorem dX11_best_60 : decode cX11_best 60 = .ok (.iaload, 1) := by decide +kernel
theorem dX11_best_61 : decode cX11_best 61 = .ok (.ireturn, 1) := by decide +kernel
theorem dX11_worth_0 : decode cX11_worth 0 = .ok (.aload_n 0, 1) := by decide +kernel
theorem dX11_worth_1 : decode cX11_worth 1 = .ok (.iload_n 1, 1) := by decide +kernel
theorem dX11_worth_2 : decode cX11_worth 2 = .ok (.invokevirtual 71, 3) := by decide +kernel
theorem dX11_worth_5 : decode cX11_worth 5 = .ok (.ifCond .ne 6, 3) := by decide +kernel
theorem dX11_worth_8 : decode cX11_worth 8 = .ok (.ldc 84, 2) := by decide +kernel
theorem dX11_worth_10 : decode cX11_worth 10 = .ok (.ireturn, 1) := by decide +kernel
theorem dX11_worth_11 : decode cX11_worth 11 = .ok (.aload_n 0, 1) := by decide +kernel
theorem dX11_worth_12 : decode cX11_worth 12 = .ok (.aload_n 0, 1) := by decide +kernel
theorem dX11_worth_13 : decode cX11_worth 13 = .ok (.invokevirtual 184, 3) := by decide +kernel
theorem dX11_worth_16 : decode cX11_worth 16 = .ok (.iconst 0, 1) := by decide +kernel
theorem dX11_worth_17 : decode cX11_worth 17 = .ok (.invokevirtual 187, 3) := by decide +kernel
theorem dX11_worth_20 : decode cX11_worth 20 = .ok (.aload_n 0, 1) := by decide +kernel
theorem dX11_worth_21 : decode cX11_worth 21 = .ok (.aload_n 0, 1) := by decide +kernel
theorem dX11_worth_22 : decode cX11_worth 22 = .ok (.invokevirtual 184, 3) := by decide +kernel
theorem dX11_worth_25 : decode cX11_worth 25 = .ok (.iconst 1, 1) := by decide +kernel
theorem dX11_worth_26 : decode cX11_worth 26 = .ok (.iload_n 1, 1) := by decide +kernel
theorem dX11_worth_27 : decode cX11_worth 27 = .ok (.ishl, 1) := by decide +kernel
theorem dX11_worth_28 : decode cX11_worth 28 = .ok (.iconst (-1), 1) := by decide +kernel
theorem dX11_worth_29 : decode cX11_worth 29 = .ok (.ixor, 1) := by decide +kernel
theorem dX11_worth_30 : decode cX11_worth 30 = .ok (.iand, 1) := by decide +kernel
theorem dX11_worth_31 : decode cX11_worth 31 = .ok (.iconst 0, 1) := by decide +kernel
theorem dX11_worth_32 : decode cX11_worth 32 = .ok (.invokevirtual 187, 3) := by decide +kernel
theorem dX11_worth_35 : decode cX11_worth 35 = .ok (.isub, 1) := by decide +kernel
theorem dX11_worth_36 : decode cX11_worth 36 = .ok (.ireturn, 1) := by decide +kernel
theorem dX11_send_0 : decode cX11_send 0 = .ok (.aload_n 0, 1) := by decide +kernel
theorem dX11_send_1 : decode cX11_send 1 = .ok (.aload_n 0, 1) := by decide +kernel
theorem dX11_send_2 : decode cX11_send 2 = .ok (.invokevirtual 184, 3) := by decide +kernel
theorem dX11_send_5 : decode cX11_send 5 = .ok (.iconst 0, 1) := by decide +kernel
theorem dX11_send_6 : decode cX11_send 6 = .ok (.invokevirtual 187, 3) := by decide +kernel
theorem dX11_send_9 : decode cX11_send 9 = .ok (.istore_n 1, 1) := by decide +kernel
theorem dX11_send_10 : decode cX11_send 10 = .ok (.aload_n 0, 1) := by decide +kernel
theorem dX11_send_11 : decode cX11_send 11 = .ok (.aload_n 0, 1) := by decide +kernel
theorem dX11_send_12 : decode cX11_send 12 = .ok (.getfield 170, 3) := by decide +kernel
theorem dX11_send_15 : decode cX11_send 15 = .ok (.aload_n 0, 1) := by decide +kernel
theorem dX11_send_16 : decode cX11_send 16 = .ok (.invokevirtual 184, 3) := by decide +kernel
theorem dX11_send_19 : decode cX11_send 19 = .ok (.iconst 0, 1) := by decide +kernel
theorem dX11_send_20 : decode cX11_send 20 = .ok (.invokevirtual 176, 3) := by decide +kernel
theorem dX11_send_23 : decode cX11_send 23 = .ok (.pop, 1) := by decide +kernel
theorem dX11_send_24 : decode cX11_send 24 = .ok (.iconst 0, 1) := by decide +kernel
theorem dX11_send_25 : decode cX11_send 25 = .ok (.istore_n 2, 1) := by decide +kernel
theorem dX11_send_26 : decode cX11_send 26 = .ok (.iload_n 2, 1) := by decide +kernel
theorem dX11_send_27 : decode cX11_send 27 = .ok (.aload_n 0, 1) := by decide +kernel
theorem dX11_send_28 : decode cX11_send 28 = .ok (.getfield 7, 3) := by decide +kernel
theorem dX11_send_31 : decode cX11_send 31 = .ok (.iconst 0, 1) := by decide +kernel
theorem dX11_send_32 : decode cX11_send 32 = .ok (.iaload, 1) := by decide +kernel
theorem dX11_send_33 : decode cX11_send 33 = .ok (.if_icmp .ge 24, 3) := by decide +kernel
theorem dX11_send_36 : decode cX11_send 36 = .ok (.aload_n 0, 1) := by decide +kernel
theorem dX11_send_37 : decode cX11_send 37 = .ok (.getfield 7, 3) := by decide +kernel
theorem dX11_send_40 : decode cX11_send 40 = .ok (.bipush 7, 2) := by decide +kernel
theorem dX11_send_42 : decode cX11_send 42 = .ok (.iload_n 2, 1) := by decide +kernel
theorem dX11_send_43 : decode cX11_send 43 = .ok (.iadd, 1) := by decide +kernel
theorem dX11_send_44 : decode cX11_send 44 = .ok (.aload_n 0, 1) := by decide +kernel
theorem dX11_send_45 : decode cX11_send 45 = .ok (.getfield 19, 3) := by decide +kernel
theorem dX11_send_48 : decode cX11_send 48 = .ok (.iload_n 2, 1) := by decide +kernel
theorem dX11_send_49 : decode cX11_send 49 = .ok (.iaload, 1) := by decide +kernel
theorem dX11_send_50 : decode cX11_send 50 = .ok (.iastore, 1) := by decide +kernel
theorem dX11_send_51 : decode cX11_send 51 = .ok (.iinc 2 1, 3) := by decide +kernel
theorem dX11_send_54 : decode cX11_send 54 = .ok (.goto (-28), 3) := by decide +kernel
theorem dX11_send_57 : decode cX11_send 57 = .ok (.iload_n 1, 1) := by decide +kernel
theorem dX11_send_58 : decode cX11_send 58 = .ok (.ireturn, 1) := by decide +kernel
theorem dX11_takenOf_0 : decode cX11_takenOf 0 = .ok (.iload_n 0, 1) := by decide +kernel
theorem dX11_takenOf_1 : decode cX11_takenOf 1 = .ok (.bipush 63, 2) := by decide +kernel
theorem dX11_takenOf_3 : decode cX11_takenOf 3 = .ok (.iand, 1) := by decide +kernel
theorem dX11_takenOf_4 : decode cX11_takenOf 4 = .ok (.ireturn, 1) := by decide +kernel
theorem dX11_usedOf_0 : decode cX11_usedOf 0 = .ok (.iload_n 0, 1) := by decide +kernel
theorem dX11_usedOf_1 : decode cX11_usedOf 1 = .ok (.bipush 6, 2) := by decide +kernel
theorem dX11_usedOf_3 : decode cX11_usedOf 3 = .ok (.ishr, 1) := by decide +kernel
theorem dX11_usedOf_4 : decode cX11_usedOf 4 = .ok (.bipush 31, 2) := by decide +kernel
theorem dX11_usedOf_6 : decode cX11_usedOf 6 = .ok (.iand, 1) := by decide +kernel
theorem dX11_usedOf_7 : decode cX11_usedOf 7 = .ok (.ireturn, 1) := by decide +kernel
end
section
theorem dX11_canSend_0 : decode cX11_canSend 0 = .ok (.iload_n 3, 1) := by decide +kernel
theorem dX11_canSend_1 : decode cX11_canSend 1 = .ok (.iconst 5, 1) := by decide +kernel
theorem dX11_canSend_2 : decode cX11_canSend 2 = .ok (.idiv, 1) := by decide +kernel
theorem dX11_canSend_3 : decode cX11_canSend 3 = .ok (.istore 4, 2) := by decide +kernel
theorem dX11_canSend_5 : decode cX11_canSend 5 = .ok (.iload_n 3, 1) := by decide +kernel
theorem dX11_canSend_6 : decode cX11_canSend 6 = .ok (.iconst 5, 1) := by decide +kernel
theorem dX11_canSend_7 : decode cX11_canSend 7 = .ok (.irem, 1) := by decide +kernel
theorem dX11_canSend_8 : decode cX11_canSend 8 = .ok (.istore 5, 2) := by decide +kernel
theorem dX11_canSend_10 : decode cX11_canSend 10 = .ok (.aload_n 0, 1) := by decide +kernel
theorem dX11_canSend_11 : decode cX11_canSend 11 = .ok (.iload 5, 2) := by decide +kernel
theorem dX11_canSend_13 : decode cX11_canSend 13 = .ok (.invokevirtual 71, 3) := by decide +kernel
theorem dX11_canSend_16 : decode cX11_canSend 16 = .ok (.ifCond .eq 28, 3) := by decide +kernel
theorem dX11_canSend_19 : decode cX11_canSend 19 = .ok (.iload_n 2, 1) := by decide +kernel
theorem dX11_canSend_20 : decode cX11_canSend 20 = .ok (.iload 5, 2) := by decide +kernel
theorem dX11_canSend_22 : decode cX11_canSend 22 = .ok (.invokestatic 88, 3) := by decide +kernel
theorem dX11_canSend_25 : decode cX11_canSend 25 = .ok (.iload_n 1, 1) := by decide +kernel
theorem dX11_canSend_26 : decode cX11_canSend 26 = .ok (.sipush 2048, 3) := by decide +kernel
theorem dX11_canSend_29 : decode cX11_canSend 29 = .ok (.if_icmp .ge 7, 3) := by decide +kernel
theorem dX11_canSend_32 : decode cX11_canSend 32 = .ok (.iconst 1, 1) := by decide +kernel
theorem dX11_canSend_33 : decode cX11_canSend 33 = .ok (.goto 4, 3) := by decide +kernel
theorem dX11_canSend_36 : decode cX11_canSend 36 = .ok (.iconst 0, 1) := by decide +kernel
theorem dX11_canSend_37 : decode cX11_canSend 37 = .ok (.if_icmp .ne 7, 3) := by decide +kernel
theorem dX11_canSend_40 : decode cX11_canSend 40 = .ok (.iconst 1, 1) := by decide +kernel
theorem dX11_canSend_41 : decode cX11_canSend 41 = .ok (.goto 4, 3) := by decide +kernel
theorem dX11_canSend_44 : decode cX11_canSend 44 = .ok (.iconst 0, 1) := by decide +kernel
theorem dX11_canSend_45 : decode cX11_canSend 45 = .ok (.istore 6, 2) := by decide +kernel
theorem dX11_canSend_47 : decode cX11_canSend 47 = .ok (.iload 6, 2) := by decide +kernel
theorem dX11_canSend_49 : decode cX11_canSend 49 = .ok (.ifCond .eq 74, 3) := by decide +kernel
theorem dX11_canSend_52 : decode cX11_canSend 52 = .ok (.iload 4, 2) := by decide +kernel
theorem dX11_canSend_54 : decode cX11_canSend 54 = .ok (.aload_n 0, 1) := by decide +kernel
theorem dX11_canSend_55 : decode cX11_canSend 55 = .ok (.getfield 7, 3) := by decide +kernel
theorem dX11_canSend_58 : decode cX11_canSend 58 = .ok (.iconst 0, 1) := by decide +kernel
theorem dX11_canSend_59 : decode cX11_canSend 59 = .ok (.iaload, 1) := by decide +kernel
theorem dX11_canSend_60 : decode cX11_canSend 60 = .ok (.if_icmp .ge 63, 3) := by decide +kernel
theorem dX11_canSend_63 : decode cX11_canSend 63 = .ok (.iload_n 1, 1) := by decide +kernel
theorem dX11_canSend_64 : decode cX11_canSend 64 = .ok (.invokestatic 190, 3) := by decide +kernel
theorem dX11_canSend_67 : decode cX11_canSend 67 = .ok (.iload 4, 2) := by decide +kernel
theorem dX11_canSend_69 : decode cX11_canSend 69 = .ok (.invokestatic 88, 3) := by decide +kernel
theorem dX11_canSend_72 : decode cX11_canSend 72 = .ok (.ifCond .ne 51, 3) := by decide +kernel
theorem dX11_canSend_75 : decode cX11_canSend 75 = .ok (.aload_n 0, 1) := by decide +kernel
theorem dX11_canSend_76 : decode cX11_canSend 76 = .ok (.getfield 7, 3) := by decide +kernel
theorem dX11_canSend_79 : decode cX11_canSend 79 = .ok (.bipush 37, 2) := by decide +kernel
theorem dX11_canSend_81 : decode cX11_canSend 81 = .ok (.iload 4, 2) := by decide +kernel
theorem dX11_canSend_83 : decode cX11_canSend 83 = .ok (.iadd, 1) := by decide +kernel
theorem dX11_canSend_84 : decode cX11_canSend 84 = .ok (.iaload, 1) := by decide +kernel
theorem dX11_canSend_85 : decode cX11_canSend 85 = .ok (.iload 5, 2) := by decide +kernel
theorem dX11_canSend_87 : decode cX11_canSend 87 = .ok (.invokestatic 88, 3) := by decide +kernel
theorem dX11_canSend_90 : decode cX11_canSend 90 = .ok (.ifCond .ne 33, 3) := by decide +kernel
theorem dX11_canSend_93 : decode cX11_canSend 93 = .ok (.aload_n 0, 1) := by decide +kernel
theorem dX11_canSend_94 : decode cX11_canSend 94 = .ok (.getfield 7, 3) := by decide +kernel
theorem dX11_canSend_97 : decode cX11_canSend 97 = .ok (.bipush 44, 2) := by decide +kernel
theorem dX11_canSend_99 : decode cX11_canSend 99 = .ok (.iload 5, 2) := by decide +kernel
theorem dX11_canSend_101 : decode cX11_canSend 101 = .ok (.iadd, 1) := by decide +kernel
theorem dX11_canSend_102 : decode cX11_canSend 102 = .ok (.iaload, 1) := by decide +kernel
theorem dX11_canSend_103 : decode cX11_canSend 103 = .ok (.iconst 2, 1) := by decide +kernel
theorem dX11_canSend_104 : decode cX11_canSend 104 = .ok (.if_icmp .eq 15, 3) := by decide +kernel
theorem dX11_canSend_107 : decode cX11_canSend 107 = .ok (.iload_n 1, 1) := by decide +kernel
theorem dX11_canSend_108 : decode cX11_canSend 108 = .ok (.invokestatic 193, 3) := by decide +kernel
theorem dX11_canSend_111 : decode cX11_canSend 111 = .ok (.iload 5, 2) := by decide +kernel
theorem dX11_canSend_113 : decode cX11_canSend 113 = .ok (.invokestatic 88, 3) := by decide +kernel
theorem dX11_canSend_116 : decode cX11_canSend 116 = .ok (.ifCond .ne 7, 3) := by decide +kernel
theorem dX11_canSend_119 : decode cX11_canSend 119 = .ok (.iconst 1, 1) := by decide +kernel
theorem dX11_canSend_120 : decode cX11_canSend 120 = .ok (.goto 4, 3) := by decide +kernel
theorem dX11_canSend_123 : decode cX11_canSend 123 = .ok (.iconst 0, 1) := by decide +kernel
theorem dX11_canSend_124 : decode cX11_canSend 124 = .ok (.ireturn, 1) := by decide +kernel
theorem dX11_canAny_0 : decode cX11_canAny 0 = .ok (.iconst 0, 1) := by decide +kernel
theorem dX11_canAny_1 : decode cX11_canAny 1 = .ok (.istore_n 3, 1) := by decide +kernel
theorem dX11_canAny_2 : decode cX11_canAny 2 = .ok (.iconst 0, 1) := by decide +kernel
theorem dX11_canAny_3 : decode cX11_canAny 3 = .ok (.istore 4, 2) := by decide +kernel
theorem dX11_canAny_5 : decode cX11_canAny 5 = .ok (.iload 4, 2) := by decide +kernel
theorem dX11_canAny_7 : decode cX11_canAny 7 = .ok (.bipush 30, 2) := by decide +kernel
theorem dX11_canAny_9 : decode cX11_canAny 9 = .ok (.if_icmp .ge 30, 3) := by decide +kernel
theorem dX11_canAny_12 : decode cX11_canAny 12 = .ok (.iload_n 3, 1) := by decide +kernel
theorem dX11_canAny_13 : decode cX11_canAny 13 = .ok (.ifCond .ne 14, 3) := by decide +kernel
theorem dX11_canAny_16 : decode cX11_canAny 16 = .ok (.aload_n 0, 1) := by decide +kernel
theorem dX11_canAny_17 : decode cX11_canAny 17 = .ok (.iload_n 1, 1) := by decide +kernel
theorem dX11_canAny_18 : decode cX11_canAny 18 = .ok (.iload_n 2, 1) := by decide +kernel
theorem dX11_canAny_19 : decode cX11_canAny 19 = .ok (.iload 4, 2) := by decide +kernel
theorem dX11_canAny_21 : decode cX11_canAny 21 = .ok (.invokevirtual 196, 3) := by decide +kernel
theorem dX11_canAny_24 : decode cX11_canAny 24 = .ok (.ifCond .eq 7, 3) := by decide +kernel
theorem dX11_canAny_27 : decode cX11_canAny 27 = .ok (.iconst 1, 1) := by decide +kernel
theorem dX11_canAny_28 : decode cX11_canAny 28 = .ok (.goto 4, 3) := by decide +kernel
theorem dX11_canAny_31 : decode cX11_canAny 31 = .ok (.iconst 0, 1) := by decide +kernel
theorem dX11_canAny_32 : decode cX11_canAny 32 = .ok (.istore_n 3, 1) := by decide +kernel
theorem dX11_canAny_33 : decode cX11_canAny 33 = .ok (.iinc 4 1, 3) := by decide +kernel
theorem dX11_canAny_36 : decode cX11_canAny 36 = .ok (.goto (-31), 3) := by decide +kernel
theorem dX11_canAny_39 : decode cX11_canAny 39 = .ok (.iload_n 3, 1) := by decide +kernel
theorem dX11_canAny_40 : decode cX11_canAny 40 = .ok (.ireturn, 1) := by decide +kernel
theorem dX11_behind_0 : decode cX11_behind 0 = .ok (.iload_n 0, 1) := by decide +kernel
theorem dX11_behind_1 : decode cX11_behind 1 = .ok (.sipush 2048, 3) := by decide +kernel
theorem dX11_behind_4 : decode cX11_behind 4 = .ok (.ixor, 1) := by decide +kernel
theorem dX11_behind_5 : decode cX11_behind 5 = .ok (.istore_n 2, 1) := by decide +kernel
theorem dX11_behind_6 : decode cX11_behind 6 = .ok (.iload_n 1, 1) := by decide +kernel
theorem dX11_behind_7 : decode cX11_behind 7 = .ok (.bipush 30, 2) := by decide +kernel
theorem dX11_behind_9 : decode cX11_behind 9 = .ok (.if_icmp .ne 7, 3) := by decide +kernel
theorem dX11_behind_12 : decode cX11_behind 12 = .ok (.iload_n 2, 1) := by decide +kernel
theorem dX11_behind_13 : decode cX11_behind 13 = .ok (.goto 17, 3) := by decide +kernel
theorem dX11_behind_16 : decode cX11_behind 16 = .ok (.iload_n 2, 1) := by decide +kernel
theorem dX11_behind_17 : decode cX11_behind 17 = .ok (.iconst 1, 1) := by decide +kernel
theorem dX11_behind_18 : decode cX11_behind 18 = .ok (.iload_n 1, 1) := by decide +kernel
theorem dX11_behind_19 : decode cX11_behind 19 = .ok (.iconst 5, 1) := by decide +kernel
theorem dX11_behind_20 : decode cX11_behind 20 = .ok (.idiv, 1) := by decide +kernel
theorem dX11_behind_21 : decode cX11_behind 21 = .ok (.ishl, 1) := by decide +kernel
theorem dX11_behind_22 : decode cX11_behind 22 = .ok (.ior, 1) := by decide +kernel
theorem dX11_behind_23 : decode cX11_behind 23 = .ok (.bipush 64, 2) := by decide +kernel
theorem dX11_behind_25 : decode cX11_behind 25 = .ok (.iload_n 1, 1) := by decide +kernel
theorem dX11_behind_26 : decode cX11_behind 26 = .ok (.iconst 5, 1) := by decide +kernel
theorem dX11_behind_27 : decode cX11_behind 27 = .ok (.irem, 1) := by decide +kernel
theorem dX11_behind_28 : decode cX11_behind 28 = .ok (.ishl, 1) := by decide +kernel
theorem dX11_behind_29 : decode cX11_behind 29 = .ok (.ior, 1) := by decide +kernel
theorem dX11_behind_30 : decode cX11_behind 30 = .ok (.ireturn, 1) := by decide +kernel
theorem dX11_sentFor_0 : decode cX11_sentFor 0 = .ok (.aload_n 0, 1) := by decide +kernel
theorem dX11_sentFor_1 : decode cX11_sentFor 1 = .ok (.getfield 22, 3) := by decide +kernel
theorem dX11_sentFor_4 : decode cX11_sentFor 4 = .ok (.bipush 6, 2) := by decide +kernel
theorem dX11_sentFor_6 : decode cX11_sentFor 6 = .ok (.iload_n 2, 1) := by decide +kernel
theorem dX11_sentFor_7 : decode cX11_sentFor 7 = .ok (.iconst 5, 1) := by decide +kernel
theorem dX11_sentFor_8 : decode cX11_sentFor 8 = .ok (.idiv, 1) := by decide +kernel
theorem dX11_sentFor_9 : decode cX11_sentFor 9 = .ok (.imul, 1) := by decide +kernel
theorem dX11_sentFor_10 : decode cX11_sentFor 10 = .ok (.iload_n 2, 1) := by decide +kernel
theorem dX11_sentFor_11 : decode cX11_sentFor 11 = .ok (.iconst 5, 1) := by decide +kernel
theorem dX11_sentFor_12 : decode cX11_sentFor 12 = .ok (.irem, 1) := by decide +kernel
theorem dX11_sentFor_13 : decode cX11_sentFor 13 = .ok (.iadd, 1) := by decide +kernel
theorem dX11_sentFor_14 : decode cX11_sentFor 14 = .ok (.iaload, 1) := by decide +kernel
theorem dX11_sentFor_15 : decode cX11_sentFor 15 = .ok (.istore_n 3, 1) := by decide +kernel
theorem dX11_sentFor_16 : decode cX11_sentFor 16 = .ok (.iload_n 1, 1) := by decide +kernel
theorem dX11_sentFor_17 : decode cX11_sentFor 17 = .ok (.sipush 2048, 3) := by decide +kernel
theorem dX11_sentFor_20 : decode cX11_sentFor 20 = .ok (.if_icmp .ge 7, 3) := by decide +kernel
theorem dX11_sentFor_23 : decode cX11_sentFor 23 = .ok (.iload_n 3, 1) := by decide +kernel
theorem dX11_sentFor_24 : decode cX11_sentFor 24 = .ok (.goto 5, 3) := by decide +kernel
theorem dX11_sentFor_27 : decode cX11_sentFor 27 = .ok (.iload_n 3, 1) := by decide +kernel
theorem dX11_sentFor_28 : decode cX11_sentFor 28 = .ok (.ineg, 1) := by decide +kernel
theorem dX11_sentFor_29 : decode cX11_sentFor 29 = .ok (.ireturn, 1) := by decide +kernel
theorem dX11_knows_0 : decode cX11_knows 0 = .ok (.iload_n 1, 1) := by decide +kernel
theorem dX11_knows_1 : decode cX11_knows 1 = .ok (.sipush 2048, 3) := by decide +kernel
theorem dX11_knows_4 : decode cX11_knows 4 = .ok (.if_icmp .ge 8, 3) := by decide +kernel
theorem dX11_knows_7 : decode cX11_knows 7 = .ok (.ldc 169, 2) := by decide +kernel
theorem dX11_knows_9 : decode cX11_knows 9 = .ok (.goto 5, 3) := by decide +kernel
theorem dX11_knows_12 : decode cX11_knows 12 = .ok (.ldc 200, 2) := by decide +kernel
theorem dX11_knows_14 : decode cX11_knows 14 = .ok (.istore_n 3, 1) := by decide +kernel
theorem dX11_knows_15 : decode cX11_knows 15 = .ok (.aload_n 0, 1) := by decide +kernel
theorem dX11_knows_16 : decode cX11_knows 16 = .ok (.iload_n 1, 1) := by decide +kernel
theorem dX11_knows_17 : decode cX11_knows 17 = .ok (.iload_n 2, 1) := by decide +kernel
theorem dX11_knows_18 : decode cX11_knows 18 = .ok (.invokevirtual 201, 3) := by decide +kernel
theorem dX11_knows_21 : decode cX11_knows 21 = .ok (.istore 4, 2) := by decide +kernel
theorem dX11_knows_23 : decode cX11_knows 23 = .ok (.iconst 0, 1) := by decide +kernel
theorem dX11_knows_24 : decode cX11_knows 24 = .ok (.istore 5, 2) := by decide +kernel
theorem dX11_knows_26 : decode cX11_knows 26 = .ok (.iload 5, 2) := by decide +kernel
theorem dX11_knows_28 : decode cX11_knows 28 = .ok (.bipush 30, 2) := by decide +kernel
theorem dX11_knows_30 : decode cX11_knows 30 = .ok (.if_icmp .ge 98, 3) := by decide +kernel
theorem dX11_knows_33 : decode cX11_knows 33 = .ok (.iload 4, 2) := by decide +kernel
theorem dX11_knows_35 : decode cX11_knows 35 = .ok (.ifCond .eq 93, 3) := by decide +kernel
theorem dX11_knows_38 : decode cX11_knows 38 = .ok (.aload_n 0, 1) := by decide +kernel
theorem dX11_knows_39 : decode cX11_knows 39 = .ok (.iload_n 1, 1) := by decide +kernel
theorem dX11_knows_40 : decode cX11_knows 40 = .ok (.iload_n 2, 1) := by decide +kernel
theorem dX11_knows_41 : decode cX11_knows 41 = .ok (.iload 5, 2) := by decide +kernel
theorem dX11_knows_43 : decode cX11_knows 43 = .ok (.invokevirtual 196, 3) := by decide +kernel
theorem dX11_knows_46 : decode cX11_knows 46 = .ok (.ifCond .eq 76, 3) := by decide +kernel
theorem dX11_knows_49 : decode cX11_knows 49 = .ok (.iload_n 1, 1) := by decide +kernel
theorem dX11_knows_50 : decode cX11_knows 50 = .ok (.iload 5, 2) := by decide +kernel
theorem dX11_knows_52 : decode cX11_knows 52 = .ok (.invokestatic 204, 3) := by decide +kernel
theorem dX11_knows_55 : decode cX11_knows 55 = .ok (.istore 6, 2) := by decide +kernel
theorem dX11_knows_57 : decode cX11_knows 57 = .ok (.aload_n 0, 1) := by decide +kernel
theorem dX11_knows_58 : decode cX11_knows 58 = .ok (.getfield 28, 3) := by decide +kernel
theorem dX11_knows_61 : decode cX11_knows 61 = .ok (.iload 6, 2) := by decide +kernel
theorem dX11_knows_63 : decode cX11_knows 63 = .ok (.baload, 1) := by decide +kernel
theorem dX11_knows_64 : decode cX11_knows 64 = .ok (.ifCond .ne 6, 3) := by decide +kernel
theorem dX11_knows_67 : decode cX11_knows 67 = .ok (.iload 6, 2) := by decide +kernel
theorem dX11_knows_69 : decode cX11_knows 69 = .ok (.ireturn, 1) := by decide +kernel
theorem dX11_knows_70 : decode cX11_knows 70 = .ok (.aload_n 0, 1) := by decide +kernel
theorem dX11_knows_71 : decode cX11_knows 71 = .ok (.iload_n 1, 1) := by decide +kernel
theorem dX11_knows_72 : decode cX11_knows 72 = .ok (.iload 5, 2) := by decide +kernel
theorem dX11_knows_74 : decode cX11_knows 74 = .ok (.invokevirtual 207, 3) := by decide +kernel
theorem dX11_knows_77 : decode cX11_knows 77 = .ok (.aload_n 0, 1) := by decide +kernel
theorem dX11_knows_78 : decode cX11_knows 78 = .ok (.getfield 25, 3) := by decide +kernel
theorem dX11_knows_81 : decode cX11_knows 81 = .ok (.iload 6, 2) := by decide +kernel
theorem dX11_knows_83 : decode cX11_knows 83 = .ok (.iaload, 1) := by decide +kernel
theorem dX11_knows_84 : decode cX11_knows 84 = .ok (.iadd, 1) := by decide +kernel
theorem dX11_knows_85 : decode cX11_knows 85 = .ok (.istore 7, 2) := by decide +kernel
theorem dX11_knows_87 : decode cX11_knows 87 = .ok (.iload_n 1, 1) := by decide +kernel
theorem dX11_knows_88 : decode cX11_knows 88 = .ok (.sipush 2048, 3) := by decide +kernel
theorem dX11_knows_91 : decode cX11_knows 91 = .ok (.if_icmp .ge 18, 3) := by decide +kernel
theorem dX11_knows_94 : decode cX11_knows 94 = .ok (.iload 7, 2) := by decide +kernel
theorem dX11_knows_96 : decode cX11_knows 96 = .ok (.iload_n 3, 1) := by decide +kernel
theorem dX11_knows_97 : decode cX11_knows 97 = .ok (.if_icmp .le 8, 3) := by decide +kernel
theorem dX11_knows_100 : decode cX11_knows 100 = .ok (.iload 7, 2) := by decide +kernel
theorem dX11_knows_102 : decode cX11_knows 102 = .ok (.goto 19, 3) := by decide +kernel
theorem dX11_knows_105 : decode cX11_knows 105 = .ok (.iload_n 3, 1) := by decide +kernel
theorem dX11_knows_106 : decode cX11_knows 106 = .ok (.goto 15, 3) := by decide +kernel
theorem dX11_knows_109 : decode cX11_knows 109 = .ok (.iload 7, 2) := by decide +kernel
theorem dX11_knows_111 : decode cX11_knows 111 = .ok (.iload_n 3, 1) := by decide +kernel
theorem dX11_knows_112 : decode cX11_knows 112 = .ok (.if_icmp .ge 8, 3) := by decide +kernel
theorem dX11_knows_115 : decode cX11_knows 115 = .ok (.iload 7, 2) := by decide +kernel
theorem dX11_knows_117 : decode cX11_knows 117 = .ok (.goto 4, 3) := by decide +kernel
theorem dX11_knows_120 : decode cX11_knows 120 = .ok (.iload_n 3, 1) := by decide +kernel
theorem dX11_knows_121 : decode cX11_knows 121 = .ok (.istore_n 3, 1) := by decide +kernel
theorem dX11_knows_122 : decode cX11_knows 122 = .ok (.iinc 5 1, 3) := by decide +kernel
theorem dX11_knows_125 : decode cX11_knows 125 = .ok (.goto (-99), 3) := by decide +kernel
theorem dX11_knows_128 : decode cX11_knows 128 = .ok (.iload_n 1, 1) := by decide +kernel
theorem dX11_knows_129 : decode cX11_knows 129 = .ok (.bipush 30, 2) := by decide +kernel
theorem dX11_knows_131 : decode cX11_knows 131 = .ok (.invokestatic 204, 3) := by decide +kernel
theorem dX11_knows_134 : decode cX11_knows 134 = .ok (.istore 5, 2) := by decide +kernel
theorem dX11_knows_136 : decode cX11_knows 136 = .ok (.iload 4, 2) := by decide +kernel
theorem dX11_knows_138 : decode cX11_knows 138 = .ok (.ifCond .ne 37, 3) := by decide +kernel
theorem dX11_knows_141 : decode cX11_knows 141 = .ok (.aload_n 0, 1) := by decide +kernel
theorem dX11_knows_142 : decode cX11_knows 142 = .ok (.iload 5, 2) := by decide +kernel
theorem dX11_knows_144 : decode cX11_knows 144 = .ok (.iload_n 2, 1) := by decide +kernel
theorem dX11_knows_145 : decode cX11_knows 145 = .ok (.invokevirtual 201, 3) := by decide +kernel
theorem dX11_knows_148 : decode cX11_knows 148 = .ok (.ifCond .eq 27, 3) := by decide +kernel
theorem dX11_knows_151 : decode cX11_knows 151 = .ok (.aload_n 0, 1) := by decide +kernel
theorem dX11_knows_152 : decode cX11_knows 152 = .ok (.getfield 28, 3) := by decide +kernel
theorem dX11_knows_155 : decode cX11_knows 155 = .ok (.iload 5, 2) := by decide +kernel
theorem dX11_knows_157 : decode cX11_knows 157 = .ok (.baload, 1) := by decide +kernel
theorem dX11_knows_158 : decode cX11_knows 158 = .ok (.ifCond .ne 6, 3) := by decide +kernel
theorem dX11_knows_161 : decode cX11_knows 161 = .ok (.iload 5, 2) := by decide +kernel
theorem dX11_knows_163 : decode cX11_knows 163 = .ok (.ireturn, 1) := by decide +kernel
theorem dX11_knows_164 : decode cX11_knows 164 = .ok (.aload_n 0, 1) := by decide +kernel
theorem dX11_knows_165 : decode cX11_knows 165 = .ok (.getfield 25, 3) := by decide +kernel
theorem dX11_knows_168 : decode cX11_knows 168 = .ok (.iload 5, 2) := by decide +kernel
theorem dX11_knows_170 : decode cX11_knows 170 = .ok (.iaload, 1) := by decide +kernel
theorem dX11_knows_171 : decode cX11_knows 171 = .ok (.istore_n 3, 1) := by decide +kernel
theorem dX11_knows_172 : decode cX11_knows 172 = .ok (.goto 10, 3) := by decide +kernel
theorem dX11_knows_175 : decode cX11_knows 175 = .ok (.iload 4, 2) := by decide +kernel
theorem dX11_knows_177 : decode cX11_knows 177 = .ok (.ifCond .ne 5, 3) := by decide +kernel
theorem dX11_knows_180 : decode cX11_knows 180 = .ok (.iconst 0, 1) := by decide +kernel
theorem dX11_knows_181 : decode cX11_knows 181 = .ok (.istore_n 3, 1) := by decide +kernel
theorem dX11_knows_182 : decode cX11_knows 182 = .ok (.aload_n 0, 1) := by decide +kernel
theorem dX11_knows_183 : decode cX11_knows 183 = .ok (.getfield 25, 3) := by decide +kernel
theorem dX11_knows_186 : decode cX11_knows 186 = .ok (.iload_n 1, 1) := by decide +kernel
theorem dX11_knows_187 : decode cX11_knows 187 = .ok (.iload_n 3, 1) := by decide +kernel
theorem dX11_knows_188 : decode cX11_knows 188 = .ok (.iastore, 1) := by decide +kernel
theorem dX11_knows_189 : decode cX11_knows 189 = .ok (.aload_n 0, 1) := by decide +kernel
theorem dX11_knows_190 : decode cX11_knows 190 = .ok (.getfield 28, 3) := by decide +kernel
theorem dX11_knows_193 : decode cX11_knows 193 = .ok (.iload_n 1, 1) := by decide +kernel
theorem dX11_knows_194 : decode cX11_knows 194 = .ok (.iconst 1, 1) := by decide +kernel
theorem dX11_knows_195 : decode cX11_knows 195 = .ok (.bastore, 1) := by decide +kernel
theorem dX11_knows_196 : decode cX11_knows 196 = .ok (.iconst (-1), 1) := by decide +kernel
theorem dX11_knows_197 : decode cX11_knows 197 = .ok (.ireturn, 1) := by decide +kernel
theorem dX11_gameOf_0 : decode cX11_gameOf 0 = .ok (.aload_n 0, 1) := by decide +kernel
theorem dX11_gameOf_1 : decode cX11_gameOf 1 = .ok (.invokevirtual 166, 3) := by decide +kernel
theorem dX11_gameOf_4 : decode cX11_gameOf 4 = .ok (.iconst 0, 1) := by decide +kernel
theorem dX11_gameOf_5 : decode cX11_gameOf 5 = .ok (.istore_n 2, 1) := by decide +kernel
theorem dX11_gameOf_6 : decode cX11_gameOf 6 = .ok (.iload_n 2, 1) := by decide +kernel
theorem dX11_gameOf_7 : decode cX11_gameOf 7 = .ok (.sipush 4096, 3) := by decide +kernel
theorem dX11_gameOf_10 : decode cX11_gameOf 10 = .ok (.if_icmp .ge 16, 3) := by decide +kernel
theorem dX11_gameOf_13 : decode cX11_gameOf 13 = .ok (.aload_n 0, 1) := by decide +kernel
theorem dX11_gameOf_14 : decode cX11_gameOf 14 = .ok (.getfield 28, 3) := by decide +kernel
theorem dX11_gameOf_17 : decode cX11_gameOf 17 = .ok (.iload_n 2, 1) := by decide +kernel
theorem dX11_gameOf_18 : decode cX11_gameOf 18 = .ok (.iconst 0, 1) := by decide +kernel
theorem dX11_gameOf_19 : decode cX11_gameOf 19 = .ok (.bastore, 1) := by decide +kernel
theorem dX11_gameOf_20 : decode cX11_gameOf 20 = .ok (.iinc 2 1, 3) := by decide +kernel
theorem dX11_gameOf_23 : decode cX11_gameOf 23 = .ok (.goto (-17), 3) := by decide +kernel
theorem dX11_gameOf_26 : decode cX11_gameOf 26 = .ok (.aload_n 0, 1) := by decide +kernel
theorem dX11_gameOf_27 : decode cX11_gameOf 27 = .ok (.getfield 32, 3) := by decide +kernel
theorem dX11_gameOf_30 : decode cX11_gameOf 30 = .ok (.iconst 0, 1) := by decide +kernel
theorem dX11_gameOf_31 : decode cX11_gameOf 31 = .ok (.iconst 0, 1) := by decide +kernel
theorem dX11_gameOf_32 : decode cX11_gameOf 32 = .ok (.iastore, 1) := by decide +kernel
theorem dX11_gameOf_33 : decode cX11_gameOf 33 = .ok (.iconst 0, 1) := by decide +kernel
theorem dX11_gameOf_34 : decode cX11_gameOf 34 = .ok (.istore_n 2, 1) := by decide +kernel
theorem dX11_gameOf_35 : decode cX11_gameOf 35 = .ok (.iload_n 2, 1) := by decide +kernel
theorem dX11_gameOf_36 : decode cX11_gameOf 36 = .ok (.ifCond .lt 41, 3) := by decide +kernel
theorem dX11_gameOf_39 : decode cX11_gameOf 39 = .ok (.aload_n 0, 1) := by decide +kernel
theorem dX11_gameOf_40 : decode cX11_gameOf 40 = .ok (.aload_n 0, 1) := by decide +kernel
theorem dX11_gameOf_41 : decode cX11_gameOf 41 = .ok (.getfield 32, 3) := by decide +kernel
theorem dX11_gameOf_44 : decode cX11_gameOf 44 = .ok (.iload_n 2, 1) := by decide +kernel
theorem dX11_gameOf_45 : decode cX11_gameOf 45 = .ok (.iaload, 1) := by decide +kernel
theorem dX11_gameOf_46 : decode cX11_gameOf 46 = .ok (.iload_n 1, 1) := by decide +kernel
theorem dX11_gameOf_47 : decode cX11_gameOf 47 = .ok (.invokevirtual 210, 3) := by decide +kernel
theorem dX11_gameOf_50 : decode cX11_gameOf 50 = .ok (.istore_n 3, 1) := by decide +kernel
theorem dX11_gameOf_51 : decode cX11_gameOf 51 = .ok (.iload_n 2, 1) := by decide +kernel
theorem dX11_gameOf_52 : decode cX11_gameOf 52 = .ok (.iload_n 3, 1) := by decide +kernel
theorem dX11_gameOf_53 : decode cX11_gameOf 53 = .ok (.ifCond .ge 7, 3) := by decide +kernel
theorem dX11_gameOf_56 : decode cX11_gameOf 56 = .ok (.iconst (-1), 1) := by decide +kernel
theorem dX11_gameOf_57 : decode cX11_gameOf 57 = .ok (.goto 4, 3) := by decide +kernel
theorem dX11_gameOf_60 : decode cX11_gameOf 60 = .ok (.iconst 1, 1) := by decide +kernel
theorem dX11_gameOf_61 : decode cX11_gameOf 61 = .ok (.iadd, 1) := by decide +kernel
theorem dX11_gameOf_62 : decode cX11_gameOf 62 = .ok (.istore_n 2, 1) := by decide +kernel
theorem dX11_gameOf_63 : decode cX11_gameOf 63 = .ok (.iload_n 3, 1) := by decide +kernel
theorem dX11_gameOf_64 : decode cX11_gameOf 64 = .ok (.ifCond .lt 10, 3) := by decide +kernel
theorem dX11_gameOf_67 : decode cX11_gameOf 67 = .ok (.aload_n 0, 1) := by decide +kernel
theorem dX11_gameOf_68 : decode cX11_gameOf 68 = .ok (.getfield 32, 3) := by decide +kernel
theorem dX11_gameOf_71 : decode cX11_gameOf 71 = .ok (.iload_n 2, 1) := by decide +kernel
theorem dX11_gameOf_72 : decode cX11_gameOf 72 = .ok (.iload_n 3, 1) := by decide +kernel
theorem dX11_gameOf_73 : decode cX11_gameOf 73 = .ok (.iastore, 1) := by decide +kernel
theorem dX11_gameOf_74 : decode cX11_gameOf 74 = .ok (.goto (-39), 3) := by decide +kernel
theorem dX11_gameOf_77 : decode cX11_gameOf 77 = .ok (.aload_n 0, 1) := by decide +kernel
theorem dX11_gameOf_78 : decode cX11_gameOf 78 = .ok (.getfield 25, 3) := by decide +kernel
theorem dX11_gameOf_81 : decode cX11_gameOf 81 = .ok (.iconst 0, 1) := by decide +kernel
theorem dX11_gameOf_82 : decode cX11_gameOf 82 = .ok (.iaload, 1) := by decide +kernel
theorem dX11_gameOf_83 : decode cX11_gameOf 83 = .ok (.ireturn, 1) := by decide +kernel
theorem dX11_game_0 : decode cX11_game 0 = .ok (.aload_n 0, 1) := by decide +kernel
theorem dX11_game_1 : decode cX11_game 1 = .ok (.iload_n 1, 1) := by decide +kernel
theorem dX11_game_2 : decode cX11_game 2 = .ok (.invokevirtual 85, 3) := by decide +kernel
theorem dX11_game_5 : decode cX11_game 5 = .ok (.ifCond .eq 11, 3) := by decide +kernel
theorem dX11_game_8 : decode cX11_game 8 = .ok (.aload_n 0, 1) := by decide +kernel
theorem dX11_game_9 : decode cX11_game 9 = .ok (.iload_n 1, 1) := by decide +kernel
theorem dX11_game_10 : decode cX11_game 10 = .ok (.invokevirtual 213, 3) := by decide +kernel
theorem dX11_game_13 : decode cX11_game 13 = .ok (.goto 5, 3) := by decide +kernel
theorem dX11_game_16 : decode cX11_game 16 = .ok (.ldc 84, 2) := by decide +kernel
theorem dX11_game_18 : decode cX11_game 18 = .ok (.ireturn, 1) := by decide +kernel
theorem dX11_fences_0 : decode cX11_fences 0 = .ok (.aload_n 0, 1) := by decide +kernel
theorem dX11_fences_1 : decode cX11_fences 1 = .ok (.iload_n 1, 1) := by decide +kernel
theorem dX11_fences_2 : decode cX11_fences 2 = .ok (.invokevirtual 85, 3) := by decide +kernel
theorem dX11_fences_5 : decode cX11_fences 5 = .ok (.ifCond .eq 17, 3) := by decide +kernel
theorem dX11_fences_8 : decode cX11_fences 8 = .ok (.iload_n 2, 1) := by decide +kernel
theorem dX11_fences_9 : decode cX11_fences 9 = .ok (.i2l, 1) := by decide +kernel
theorem dX11_fences_10 : decode cX11_fences 10 = .ok (.ldc2_w 216, 3) := by decide +kernel
theorem dX11_fences_13 : decode cX11_fences 13 = .ok (.ldc2_w 218, 3) := by decide +kernel
theorem dX11_fences_16 : decode cX11_fences 16 = .ok (.invokestatic 51, 3) := by decide +kernel
theorem dX11_fences_19 : decode cX11_fences 19 = .ok (.ifCond .ne 5, 3) := by decide +kernel
theorem dX11_fences_22 : decode cX11_fences 22 = .ok (.iconst (-1), 1) := by decide +kernel
theorem dX11_fences_23 : decode cX11_fences 23 = .ok (.ireturn, 1) := by decide +kernel
theorem dX11_fences_24 : decode cX11_fences 24 = .ok (.bipush (-4), 2) := by decide +kernel
theorem dX11_fences_26 : decode cX11_fences 26 = .ok (.istore_n 3, 1) := by decide +kernel
theorem dX11_fences_27 : decode cX11_fences 27 = .ok (.iconst 0, 1) := by decide +kernel
theorem dX11_fences_28 : decode cX11_fences 28 = .ok (.istore 4, 2) := by decide +kernel
theorem dX11_fences_30 : decode cX11_fences 30 = .ok (.iload 4, 2) := by decide +kernel
theorem dX11_fences_32 : decode cX11_fences 32 = .ok (.iconst 1, 1) := by decide +kernel
theorem dX11_fences_33 : decode cX11_fences 33 = .ok (.aload_n 0, 1) := by decide +kernel
theorem dX11_fences_34 : decode cX11_fences 34 = .ok (.getfield 7, 3) := by decide +kernel
theorem dX11_fences_37 : decode cX11_fences 37 = .ok (.iconst 0, 1) := by decide +kernel
theorem dX11_fences_38 : decode cX11_fences 38 = .ok (.iaload, 1) := by decide +kernel
theorem dX11_fences_39 : decode cX11_fences 39 = .ok (.ishl, 1) := by decide +kernel
theorem dX11_fences_40 : decode cX11_fences 40 = .ok (.if_icmp .ge 57, 3) := by decide +kernel
theorem dX11_fences_43 : decode cX11_fences 43 = .ok (.iload_n 3, 1) := by decide +kernel
theorem dX11_fences_44 : decode cX11_fences 44 = .ok (.bipush (-4), 2) := by decide +kernel
theorem dX11_fences_46 : decode cX11_fences 46 = .ok (.if_icmp .eq 15, 3) := by decide +kernel
theorem dX11_fences_49 : decode cX11_fences 49 = .ok (.iload 4, 2) := by decide +kernel
theorem dX11_fences_51 : decode cX11_fences 51 = .ok (.invokestatic 220, 3) := by decide +kernel
theorem dX11_fences_54 : decode cX11_fences 54 = .ok (.iload_n 3, 1) := by decide +kernel
theorem dX11_fences_55 : decode cX11_fences 55 = .ok (.invokestatic 220, 3) := by decide +kernel
theorem dX11_fences_58 : decode cX11_fences 58 = .ok (.if_icmp .ge 7, 3) := by decide +kernel
theorem dX11_fences_61 : decode cX11_fences 61 = .ok (.iconst 1, 1) := by decide +kernel
theorem dX11_fences_62 : decode cX11_fences 62 = .ok (.goto 4, 3) := by decide +kernel
theorem dX11_fences_65 : decode cX11_fences 65 = .ok (.iconst 0, 1) := by decide +kernel
theorem dX11_fences_66 : decode cX11_fences 66 = .ok (.istore 5, 2) := by decide +kernel
theorem dX11_fences_68 : decode cX11_fences 68 = .ok (.iload 5, 2) := by decide +kernel
theorem dX11_fences_70 : decode cX11_fences 70 = .ok (.ifCond .eq 19, 3) := by decide +kernel
theorem dX11_fences_73 : decode cX11_fences 73 = .ok (.aload_n 0, 1) := by decide +kernel
theorem dX11_fences_74 : decode cX11_fences 74 = .ok (.iload_n 1, 1) := by decide +kernel
theorem dX11_fences_75 : decode cX11_fences 75 = .ok (.iload 4, 2) := by decide +kernel
theorem dX11_fences_77 : decode cX11_fences 77 = .ok (.invokevirtual 187, 3) := by decide +kernel
theorem dX11_fences_80 : decode cX11_fences 80 = .ok (.iload_n 2, 1) := by decide +kernel
theorem dX11_fences_81 : decode cX11_fences 81 = .ok (.if_icmp .gt 8, 3) := by decide +kernel
theorem dX11_fences_84 : decode cX11_fences 84 = .ok (.iload 4, 2) := by decide +kernel
theorem dX11_fences_86 : decode cX11_fences 86 = .ok (.goto 4, 3) := by decide +kernel
theorem dX11_fences_89 : decode cX11_fences 89 = .ok (.iload_n 3, 1) := by decide +kernel
theorem dX11_fences_90 : decode cX11_fences 90 = .ok (.istore_n 3, 1) := by decide +kernel
theorem dX11_fences_91 : decode cX11_fences 91 = .ok (.iinc 4 1, 3) := by decide +kernel
theorem dX11_fences_94 : decode cX11_fences 94 = .ok (.goto (-64), 3) := by decide +kernel
theorem dX11_fences_97 : decode cX11_fences 97 = .ok (.iload_n 3, 1) := by decide +kernel
theorem dX11_fences_98 : decode cX11_fences 98 = .ok (.ireturn, 1) := by decide +kernel
theorem dX11_common_0 : decode cX11_common 0 = .ok (.iload_n 0, 1) := by decide +kernel
theorem dX11_common_1 : decode cX11_common 1 = .ok (.ifCond .ge 8, 3) := by decide +kernel
theorem dX11_common_4 : decode cX11_common 4 = .ok (.iload_n 0, 1) := by decide +kernel
theorem dX11_common_5 : decode cX11_common 5 = .ok (.ineg, 1) := by decide +kernel
theorem dX11_common_6 : decode cX11_common 6 = .ok (.goto 4, 3) := by decide +kernel
theorem dX11_common_9 : decode cX11_common 9 = .ok (.iload_n 0, 1) := by decide +kernel
theorem dX11_common_10 : decode cX11_common 10 = .ok (.istore_n 2, 1) := by decide +kernel
theorem dX11_common_11 : decode cX11_common 11 = .ok (.iload_n 1, 1) := by decide +kernel
theorem dX11_common_12 : decode cX11_common 12 = .ok (.istore_n 3, 1) := by decide +kernel
theorem dX11_common_13 : decode cX11_common 13 = .ok (.iload_n 3, 1) := by decide +kernel
theorem dX11_common_14 : decode cX11_common 14 = .ok (.ifCond .eq 16, 3) := by decide +kernel
theorem dX11_common_17 : decode cX11_common 17 = .ok (.iload_n 2, 1) := by decide +kernel
theorem dX11_common_18 : decode cX11_common 18 = .ok (.iload_n 3, 1) := by decide +kernel
theorem dX11_common_19 : decode cX11_common 19 = .ok (.irem, 1) := by decide +kernel
theorem dX11_common_20 : decode cX11_common 20 = .ok (.istore 4, 2) := by decide +kernel
theorem dX11_common_22 : decode cX11_common 22 = .ok (.iload_n 3, 1) := by decide +kernel
theorem dX11_common_23 : decode cX11_common 23 = .ok (.istore_n 2, 1) := by decide +kernel
theorem dX11_common_24 : decode cX11_common 24 = .ok (.iload 4, 2) := by decide +kernel
theorem dX11_common_26 : decode cX11_common 26 = .ok (.istore_n 3, 1) := by decide +kernel
theorem dX11_common_27 : decode cX11_common 27 = .ok (.goto (-14), 3) := by decide +kernel
theorem dX11_common_30 : decode cX11_common 30 = .ok (.iload_n 2, 1) := by decide +kernel
theorem dX11_common_31 : decode cX11_common 31 = .ok (.ireturn, 1) := by decide +kernel
theorem dX11_expected_0 : decode cX11_expected 0 = .ok (.iconst 0, 1) := by decide +kernel
theorem dX11_expected_1 : decode cX11_expected 1 = .ok (.istore_n 1, 1) := by decide +kernel
theorem dX11_expected_2 : decode cX11_expected 2 = .ok (.iconst 0, 1) := by decide +kernel
theorem dX11_expected_3 : decode cX11_expected 3 = .ok (.istore_n 2, 1) := by decide +kernel
theorem dX11_expected_4 : decode cX11_expected 4 = .ok (.iload_n 2, 1) := by decide +kernel
theorem dX11_expected_5 : decode cX11_expected 5 = .ok (.aload_n 0, 1) := by decide +kernel
theorem dX11_expected_6 : decode cX11_expected 6 = .ok (.getfield 7, 3) := by decide +kernel
theorem dX11_expected_9 : decode cX11_expected 9 = .ok (.iconst 0, 1) := by decide +kernel
theorem dX11_expected_10 : decode cX11_expected 10 = .ok (.iaload, 1) := by decide +kernel
theorem dX11_expected_11 : decode cX11_expected 11 = .ok (.if_icmp .ge 79, 3) := by decide +kernel
theorem dX11_expected_14 : decode cX11_expected 14 = .ok (.aload_n 0, 1) := by decide +kernel
theorem dX11_expected_15 : decode cX11_expected 15 = .ok (.getfield 7, 3) := by decide +kernel
theorem dX11_expected_18 : decode cX11_expected 18 = .ok (.bipush 7, 2) := by decide +kernel
theorem dX11_expected_20 : decode cX11_expected 20 = .ok (.iload_n 2, 1) := by decide +kernel
theorem dX11_expected_21 : decode cX11_expected 21 = .ok (.iadd, 1) := by decide +kernel
theorem dX11_expected_22 : decode cX11_expected 22 = .ok (.iaload, 1) := by decide +kernel
theorem dX11_expected_23 : decode cX11_expected 23 = .ok (.istore_n 3, 1) := by decide +kernel
theorem dX11_expected_24 : decode cX11_expected 24 = .ok (.iload_n 3, 1) := by decide +kernel
theorem dX11_expected_25 : decode cX11_expected 25 = .ok (.iconst 5, 1) := by decide +kernel
theorem dX11_expected_26 : decode cX11_expected 26 = .ok (.if_icmp .eq 16, 3) := by decide +kernel
theorem dX11_expected_29 : decode cX11_expected 29 = .ok (.aload_n 0, 1) := by decide +kernel
theorem dX11_expected_30 : decode cX11_expected 30 = .ok (.getfield 7, 3) := by decide +kernel
theorem dX11_expected_33 : decode cX11_expected 33 = .ok (.bipush 44, 2) := by decide +kernel
theorem dX11_expected_35 : decode cX11_expected 35 = .ok (.iload_n 3, 1) := by decide +kernel
theorem dX11_expected_36 : decode cX11_expected 36 = .ok (.iadd, 1) := by decide +kernel
theorem dX11_expected_37 : decode cX11_expected 37 = .ok (.iaload, 1) := by decide +kernel
theorem dX11_expected_38 : decode cX11_expected 38 = .ok (.iconst 3, 1) := by decide +kernel
theorem dX11_expected_39 : decode cX11_expected 39 = .ok (.if_icmp .ne 7, 3) := by decide +kernel
theorem dX11_expected_42 : decode cX11_expected 42 = .ok (.iconst 0, 1) := by decide +kernel
theorem dX11_expected_43 : decode cX11_expected 43 = .ok (.goto 12, 3) := by decide +kernel
theorem dX11_expected_46 : decode cX11_expected 46 = .ok (.aload_n 0, 1) := by decide +kernel
theorem dX11_expected_47 : decode cX11_expected 47 = .ok (.getfield 7, 3) := by decide +kernel
theorem dX11_expected_50 : decode cX11_expected 50 = .ok (.bipush 59, 2) := by decide +kernel
theorem dX11_expected_52 : decode cX11_expected 52 = .ok (.iload_n 3, 1) := by decide +kernel
theorem dX11_expected_53 : decode cX11_expected 53 = .ok (.iadd, 1) := by decide +kernel
theorem dX11_expected_54 : decode cX11_expected 54 = .ok (.iaload, 1) := by decide +kernel
theorem dX11_expected_55 : decode cX11_expected 55 = .ok (.istore 4, 2) := by decide +kernel
theorem dX11_expected_57 : decode cX11_expected 57 = .ok (.iload_n 1, 1) := by decide +kernel
theorem dX11_expected_58 : decode cX11_expected 58 = .ok (.bipush 10, 2) := by decide +kernel
theorem dX11_expected_60 : decode cX11_expected 60 = .ok (.iload 4, 2) := by decide +kernel
theorem dX11_expected_62 : decode cX11_expected 62 = .ok (.isub, 1) := by decide +kernel
theorem dX11_expected_63 : decode cX11_expected 63 = .ok (.aload_n 0, 1) := by decide +kernel
theorem dX11_expected_64 : decode cX11_expected 64 = .ok (.iload_n 2, 1) := by decide +kernel
theorem dX11_expected_65 : decode cX11_expected 65 = .ok (.iload_n 3, 1) := by decide +kernel
theorem dX11_expected_66 : decode cX11_expected 66 = .ok (.iconst 0, 1) := by decide +kernel
theorem dX11_expected_67 : decode cX11_expected 67 = .ok (.invokevirtual 162, 3) := by decide +kernel
theorem dX11_expected_70 : decode cX11_expected 70 = .ok (.imul, 1) := by decide +kernel
theorem dX11_expected_71 : decode cX11_expected 71 = .ok (.iload 4, 2) := by decide +kernel
theorem dX11_expected_73 : decode cX11_expected 73 = .ok (.aload_n 0, 1) := by decide +kernel
theorem dX11_expected_74 : decode cX11_expected 74 = .ok (.iload_n 2, 1) := by decide +kernel
theorem dX11_expected_75 : decode cX11_expected 75 = .ok (.iload_n 3, 1) := by decide +kernel
theorem dX11_expected_76 : decode cX11_expected 76 = .ok (.iconst 1, 1) := by decide +kernel
theorem dX11_expected_77 : decode cX11_expected 77 = .ok (.invokevirtual 162, 3) := by decide +kernel
theorem dX11_expected_80 : decode cX11_expected 80 = .ok (.imul, 1) := by decide +kernel
theorem dX11_expected_81 : decode cX11_expected 81 = .ok (.iadd, 1) := by decide +kernel
theorem dX11_expected_82 : decode cX11_expected 82 = .ok (.iadd, 1) := by decide +kernel
theorem dX11_expected_83 : decode cX11_expected 83 = .ok (.istore_n 1, 1) := by decide +kernel
theorem dX11_expected_84 : decode cX11_expected 84 = .ok (.iinc 2 1, 3) := by decide +kernel
theorem dX11_expected_87 : decode cX11_expected 87 = .ok (.goto (-83), 3) := by decide +kernel
theorem dX11_expected_90 : decode cX11_expected 90 = .ok (.iload_n 1, 1) := by decide +kernel
theorem dX11_expected_91 : decode cX11_expected 91 = .ok (.ireturn, 1) := by decide +kernel
theorem dX11_upper_0 : decode cX11_upper 0 = .ok (.aload_n 0, 1) := by decide +kernel
theorem dX11_upper_1 : decode cX11_upper 1 = .ok (.invokevirtual 223, 3) := by decide +kernel
theorem dX11_upper_4 : decode cX11_upper 4 = .ok (.istore_n 1, 1) := by decide +kernel
theorem dX11_upper_5 : decode cX11_upper 5 = .ok (.iload_n 1, 1) := by decide +kernel
theorem dX11_upper_6 : decode cX11_upper 6 = .ok (.iload_n 1, 1) := by decide +kernel
theorem dX11_upper_7 : decode cX11_upper 7 = .ok (.bipush 10, 2) := by decide +kernel
theorem dX11_upper_9 : decode cX11_upper 9 = .ok (.invokestatic 226, 3) := by decide +kernel
theorem dX11_upper_12 : decode cX11_upper 12 = .ok (.idiv, 1) := by decide +kernel
theorem dX11_upper_13 : decode cX11_upper 13 = .ok (.ireturn, 1) := by decide +kernel
theorem dX11_lower_0 : decode cX11_lower 0 = .ok (.bipush 10, 2) := by decide +kernel
theorem dX11_lower_2 : decode cX11_lower 2 = .ok (.aload_n 0, 1) := by decide +kernel
theorem dX11_lower_3 : decode cX11_lower 3 = .ok (.invokevirtual 223, 3) := by decide +kernel
theorem dX11_lower_6 : decode cX11_lower 6 = .ok (.bipush 10, 2) := by decide +kernel
theorem dX11_lower_8 : decode cX11_lower 8 = .ok (.invokestatic 226, 3) := by decide +kernel
theorem dX11_lower_11 : decode cX11_lower 11 = .ok (.idiv, 1) := by decide +kernel
theorem dX11_lower_12 : decode cX11_lower 12 = .ok (.ireturn, 1) := by decide +kernel
theorem dX11_image_0 : decode cX11_image 0 = .ok (.iconst 0, 1) := by decide +kernel
theorem dX11_image_1 : decode cX11_image 1 = .ok (.istore_n 1, 1) := by decide +kernel
theorem dX11_image_2 : decode cX11_image 2 = .ok (.iload_n 1, 1) := by decide +kernel
theorem dX11_image_3 : decode cX11_image 3 = .ok (.bipush 77, 2) := by decide +kernel
theorem dX11_image_5 : decode cX11_image 5 = .ok (.if_icmp .ge 24, 3) := by decide +kernel
theorem dX11_image_8 : decode cX11_image 8 = .ok (.aload_n 0, 1) := by decide +kernel
theorem dX11_image_9 : decode cX11_image 9 = .ok (.getfield 7, 3) := by decide +kernel
theorem dX11_image_12 : decode cX11_image 12 = .ok (.bipush 77, 2) := by decide +kernel
theorem dX11_image_14 : decode cX11_image 14 = .ok (.iload_n 1, 1) := by decide +kernel
theorem dX11_image_15 : decode cX11_image 15 = .ok (.iadd, 1) := by decide +kernel
theorem dX11_image_16 : decode cX11_image 16 = .ok (.aload_n 0, 1) := by decide +kernel
theorem dX11_image_17 : decode cX11_image 17 = .ok (.getfield 7, 3) := by decide +kernel
theorem dX11_image_20 : decode cX11_image 20 = .ok (.iload_n 1, 1) := by decide +kernel
theorem dX11_image_21 : decode cX11_image 21 = .ok (.iaload, 1) := by decide +kernel
theorem dX11_image_22 : decode cX11_image 22 = .ok (.iastore, 1) := by decide +kernel
theorem dX11_image_23 : decode cX11_image 23 = .ok (.iinc 1 1, 3) := by decide +kernel
theorem dX11_image_26 : decode cX11_image 26 = .ok (.goto (-24), 3) := by decide +kernel
theorem dX11_image_29 : decode cX11_image 29 = .ok (.aload_n 0, 1) := by decide +kernel
theorem dX11_image_30 : decode cX11_image 30 = .ok (.iconst 1, 1) := by decide +kernel
theorem dX11_image_31 : decode cX11_image 31 = .ok (.putfield 229, 3) := by decide +kernel
theorem dX11_image_34 : decode cX11_image 34 = .ok (.iconst 1, 1) := by decide +kernel
theorem dX11_image_35 : decode cX11_image 35 = .ok (.ireturn, 1) := by decide +kernel
theorem dX11_restore_0 : decode cX11_restore 0 = .ok (.aload_n 0, 1) := by decide +kernel
theorem dX11_restore_1 : decode cX11_restore 1 = .ok (.getfield 229, 3) := by decide +kernel
theorem dX11_restore_4 : decode cX11_restore 4 = .ok (.ifCond .ne 6, 3) := by decide +kernel
theorem dX11_restore_7 : decode cX11_restore 7 = .ok (.bipush (-4), 2) := by decide +kernel
theorem dX11_restore_9 : decode cX11_restore 9 = .ok (.ireturn, 1) := by decide +kernel
theorem dX11_restore_10 : decode cX11_restore 10 = .ok (.iconst 0, 1) := by decide +kernel
theorem dX11_restore_11 : decode cX11_restore 11 = .ok (.istore_n 1, 1) := by decide +kernel
theorem dX11_restore_12 : decode cX11_restore 12 = .ok (.iload_n 1, 1) := by decide +kernel
theorem dX11_restore_13 : decode cX11_restore 13 = .ok (.bipush 77, 2) := by decide +kernel
theorem dX11_restore_15 : decode cX11_restore 15 = .ok (.if_icmp .ge 24, 3) := by decide +kernel
theorem dX11_restore_18 : decode cX11_restore 18 = .ok (.aload_n 0, 1) := by decide +kernel
theorem dX11_restore_19 : decode cX11_restore 19 = .ok (.getfield 7, 3) := by decide +kernel
theorem dX11_restore_22 : decode cX11_restore 22 = .ok (.iload_n 1, 1) := by decide +kernel
theorem dX11_restore_23 : decode cX11_restore 23 = .ok (.aload_n 0, 1) := by decide +kernel
theorem dX11_restore_24 : decode cX11_restore 24 = .ok (.getfield 7, 3) := by decide +kernel
theorem dX11_restore_27 : decode cX11_restore 27 = .ok (.bipush 77, 2) := by decide +kernel
theorem dX11_restore_29 : decode cX11_restore 29 = .ok (.iload_n 1, 1) := by decide +kernel
theorem dX11_restore_30 : decode cX11_restore 30 = .ok (.iadd, 1) := by decide +kernel
theorem dX11_restore_31 : decode cX11_restore 31 = .ok (.iaload, 1) := by decide +kernel
theorem dX11_restore_32 : decode cX11_restore 32 = .ok (.iastore, 1) := by decide +kernel
theorem dX11_restore_33 : decode cX11_restore 33 = .ok (.iinc 1 1, 3) := by decide +kernel
theorem dX11_restore_36 : decode cX11_restore 36 = .ok (.goto (-24), 3) := by decide +kernel
theorem dX11_restore_39 : decode cX11_restore 39 = .ok (.iconst 1, 1) := by decide +kernel
theorem dX11_restore_40 : decode cX11_restore 40 = .ok (.ireturn, 1) := by decide +kernel
theorem dX11_isSheet_0 : decode cX11_isSheet 0 = .ok (.iload_n 0, 1) := by decide +kernel
theorem dX11_isSheet_1 : decode cX11_isSheet 1 = .ok (.i2l, 1) := by decide +kernel
theorem dX11_isSheet_2 : decode cX11_isSheet 2 = .ok (.lconst 0, 1) := by decide +kernel
theorem dX11_isSheet_3 : decode cX11_isSheet 3 = .ok (.ldc2_w 55, 3) := by decide +kernel
theorem dX11_isSheet_6 : decode cX11_isSheet 6 = .ok (.invokestatic 51, 3) := by decide +kernel
theorem dX11_isSheet_9 : decode cX11_isSheet 9 = .ok (.ireturn, 1) := by decide +kernel
theorem dX11_isLane_0 : decode cX11_isLane 0 = .ok (.iload_n 0, 1) := by decide +kernel
theorem dX11_isLane_1 : decode cX11_isLane 1 = .ok (.i2l, 1) := by decide +kernel
theorem dX11_isLane_2 : decode cX11_isLane 2 = .ok (.lconst 0, 1) := by decide +kernel
theorem dX11_isLane_3 : decode cX11_isLane 3 = .ok (.ldc2_w 55, 3) := by decide +kernel
theorem dX11_isLane_6 : decode cX11_isLane 6 = .ok (.invokestatic 51, 3) := by decide +kernel
theorem dX11_isLane_9 : decode cX11_isLane 9 = .ok (.ireturn, 1) := by decide +kernel
theorem dX11_bars_0 : decode cX11_bars 0 = .ok (.aload_n 0, 1) := by decide +kernel
theorem dX11_bars_1 : decode cX11_bars 1 = .ok (.getfield 35, 3) := by decide +kernel
theorem dX11_bars_4 : decode cX11_bars 4 = .ok (.iload_n 1, 1) := by decide +kernel
theorem dX11_bars_5 : decode cX11_bars 5 = .ok (.iaload, 1) := by decide +kernel
theorem dX11_bars_6 : decode cX11_bars 6 = .ok (.ifCond .ge 8, 3) := by decide +kernel
theorem dX11_bars_9 : decode cX11_bars 9 = .ok (.bipush (-11), 2) := by decide +kernel
theorem dX11_bars_11 : decode cX11_bars 11 = .ok (.goto 50, 3) := by decide +kernel
theorem dX11_bars_14 : decode cX11_bars 14 = .ok (.aload_n 0, 1) := by decide +kernel
theorem dX11_bars_15 : decode cX11_bars 15 = .ok (.getfield 35, 3) := by decide +kernel
theorem dX11_bars_18 : decode cX11_bars 18 = .ok (.iload_n 1, 1) := by decide +kernel
theorem dX11_bars_19 : decode cX11_bars 19 = .ok (.iaload, 1) := by decide +kernel
theorem dX11_bars_20 : decode cX11_bars 20 = .ok (.iload_n 2, 1) := by decide +kernel
theorem dX11_bars_21 : decode cX11_bars 21 = .ok (.if_icmp .eq 8, 3) := by decide +kernel
theorem dX11_bars_24 : decode cX11_bars 24 = .ok (.bipush (-12), 2) := by decide +kernel
theorem dX11_bars_26 : decode cX11_bars 26 = .ok (.goto 35, 3) := by decide +kernel
theorem dX11_bars_29 : decode cX11_bars 29 = .ok (.iload_n 3, 1) := by decide +kernel
theorem dX11_bars_30 : decode cX11_bars 30 = .ok (.ifCond .lt 25, 3) := by decide +kernel
theorem dX11_bars_33 : decode cX11_bars 33 = .ok (.iload 4, 2) := by decide +kernel
theorem dX11_bars_35 : decode cX11_bars 35 = .ok (.ifCond .lt 20, 3) := by decide +kernel
theorem dX11_bars_38 : decode cX11_bars 38 = .ok (.iload_n 3, 1) := by decide +kernel
theorem dX11_bars_39 : decode cX11_bars 39 = .ok (.i2l, 1) := by decide +kernel
theorem dX11_bars_40 : decode cX11_bars 40 = .ok (.iload 4, 2) := by decide +kernel
theorem dX11_bars_42 : decode cX11_bars 42 = .ok (.i2l, 1) := by decide +kernel
theorem dX11_bars_43 : decode cX11_bars 43 = .ok (.ladd, 1) := by decide +kernel
theorem dX11_bars_44 : decode cX11_bars 44 = .ok (.aload_n 0, 1) := by decide +kernel
theorem dX11_bars_45 : decode cX11_bars 45 = .ok (.getfield 38, 3) := by decide +kernel
theorem dX11_bars_48 : decode cX11_bars 48 = .ok (.iload_n 1, 1) := by decide +kernel
theorem dX11_bars_49 : decode cX11_bars 49 = .ok (.iaload, 1) := by decide +kernel
theorem dX11_bars_50 : decode cX11_bars 50 = .ok (.i2l, 1) := by decide +kernel
theorem dX11_bars_51 : decode cX11_bars 51 = .ok (.lcmp, 1) := by decide +kernel
theorem dX11_bars_52 : decode cX11_bars 52 = .ok (.ifCond .le 8, 3) := by decide +kernel
theorem dX11_bars_55 : decode cX11_bars 55 = .ok (.bipush (-13), 2) := by decide +kernel
theorem dX11_bars_57 : decode cX11_bars 57 = .ok (.goto 4, 3) := by decide +kernel
theorem dX11_bars_60 : decode cX11_bars 60 = .ok (.iconst 0, 1) := by decide +kernel
theorem dX11_bars_61 : decode cX11_bars 61 = .ok (.ireturn, 1) := by decide +kernel
theorem dX11_cutTo_0 : decode cX11_cutTo 0 = .ok (.iload_n 0, 1) := by decide +kernel
theorem dX11_cutTo_1 : decode cX11_cutTo 1 = .ok (.ifCond .ne 10, 3) := by decide +kernel
theorem dX11_cutTo_4 : decode cX11_cutTo 4 = .ok (.lload_n 1, 1) := by decide +kernel
theorem dX11_cutTo_5 : decode cX11_cutTo 5 = .ok (.l2i, 1) := by decide +kernel
theorem dX11_cutTo_6 : decode cX11_cutTo 6 = .ok (.i2b, 1) := by decide +kernel
theorem dX11_cutTo_7 : decode cX11_cutTo 7 = .ok (.i2l, 1) := by decide +kernel
theorem dX11_cutTo_8 : decode cX11_cutTo 8 = .ok (.goto 27, 3) := by decide +kernel
theorem dX11_cutTo_11 : decode cX11_cutTo 11 = .ok (.iload_n 0, 1) := by decide +kernel
theorem dX11_cutTo_12 : decode cX11_cutTo 12 = .ok (.iconst 1, 1) := by decide +kernel
theorem dX11_cutTo_13 : decode cX11_cutTo 13 = .ok (.if_icmp .ne 10, 3) := by decide +kernel
theorem dX11_cutTo_16 : decode cX11_cutTo 16 = .ok (.lload_n 1, 1) := by decide +kernel
theorem dX11_cutTo_17 : decode cX11_cutTo 17 = .ok (.l2i, 1) := by decide +kernel
theorem dX11_cutTo_18 : decode cX11_cutTo 18 = .ok (.i2s, 1) := by decide +kernel
theorem dX11_cutTo_19 : decode cX11_cutTo 19 = .ok (.i2l, 1) := by decide +kernel
theorem dX11_cutTo_20 : decode cX11_cutTo 20 = .ok (.goto 15, 3) := by decide +kernel
theorem dX11_cutTo_23 : decode cX11_cutTo 23 = .ok (.iload_n 0, 1) := by decide +kernel
theorem dX11_cutTo_24 : decode cX11_cutTo 24 = .ok (.iconst 2, 1) := by decide +kernel
theorem dX11_cutTo_25 : decode cX11_cutTo 25 = .ok (.if_icmp .ne 9, 3) := by decide +kernel
theorem dX11_cutTo_28 : decode cX11_cutTo 28 = .ok (.lload_n 1, 1) := by decide +kernel
theorem dX11_cutTo_29 : decode cX11_cutTo 29 = .ok (.l2i, 1) := by decide +kernel
theorem dX11_cutTo_30 : decode cX11_cutTo 30 = .ok (.i2l, 1) := by decide +kernel
theorem dX11_cutTo_31 : decode cX11_cutTo 31 = .ok (.goto 4, 3) := by decide +kernel
theorem dX11_cutTo_34 : decode cX11_cutTo 34 = .ok (.lload_n 1, 1) := by decide +kernel
theorem dX11_cutTo_35 : decode cX11_cutTo 35 = .ok (.lreturn, 1) := by decide +kernel
theorem dX11_itemAt_0 : decode cX11_itemAt 0 = .ok (.aload_n 0, 1) := by decide +kernel
theorem dX11_itemAt_1 : decode cX11_itemAt 1 = .ok (.getfield 41, 3) := by decide +kernel
theorem dX11_itemAt_4 : decode cX11_itemAt 4 = .ok (.bipush 16, 2) := by decide +kernel
theorem dX11_itemAt_6 : decode cX11_itemAt 6 = .ok (.iload_n 1, 1) := by decide +kernel
theorem dX11_itemAt_7 : decode cX11_itemAt 7 = .ok (.imul, 1) := by decide +kernel
theorem dX11_itemAt_8 : decode cX11_itemAt 8 = .ok (.iload_n 2, 1) := by decide +kernel
theorem dX11_itemAt_9 : decode cX11_itemAt 9 = .ok (.iadd, 1) := by decide +kernel
theorem dX11_itemAt_10 : decode cX11_itemAt 10 = .ok (.laload, 1) := by decide +kernel
theorem dX11_itemAt_11 : decode cX11_itemAt 11 = .ok (.lreturn, 1) := by decide +kernel
theorem dX11_wanted_0 : decode cX11_wanted 0 = .ok (.aload_n 0, 1) := by decide +kernel
theorem dX11_wanted_1 : decode cX11_wanted 1 = .ok (.iload_n 1, 1) := by decide +kernel
theorem dX11_wanted_2 : decode cX11_wanted 2 = .ok (.iload_n 2, 1) := by decide +kernel
theorem dX11_wanted_3 : decode cX11_wanted 3 = .ok (.invokevirtual 233, 3) := by decide +kernel
theorem dX11_wanted_6 : decode cX11_wanted 6 = .ok (.lconst 0, 1) := by decide +kernel
theorem dX11_wanted_7 : decode cX11_wanted 7 = .ok (.lcmp, 1) := by decide +kernel
theorem dX11_wanted_8 : decode cX11_wanted 8 = .ok (.ifCond .ge 7, 3) := by decide +kernel
theorem dX11_wanted_11 : decode cX11_wanted 11 = .ok (.lconst 0, 1) := by decide +kernel
theorem dX11_wanted_12 : decode cX11_wanted 12 = .ok (.goto 9, 3) := by decide +kernel
theorem dX11_wanted_15 : decode cX11_wanted 15 = .ok (.aload_n 0, 1) := by decide +kernel
theorem dX11_wanted_16 : decode cX11_wanted 16 = .ok (.iload_n 1, 1) := by decide +kernel
theorem dX11_wanted_17 : decode cX11_wanted 17 = .ok (.iload_n 2, 1) := by decide +kernel
theorem dX11_wanted_18 : decode cX11_wanted 18 = .ok (.invokevirtual 233, 3) := by decide +kernel
theorem dX11_wanted_21 : decode cX11_wanted 21 = .ok (.lreturn, 1) := by decide +kernel
theorem dX11_nextOf_0 : decode cX11_nextOf 0 = .ok (.iconst 0, 1) := by decide +kernel
theorem dX11_nextOf_1 : decode cX11_nextOf 1 = .ok (.istore_n 2, 1) := by decide +kernel
theorem dX11_nextOf_2 : decode cX11_nextOf 2 = .ok (.iconst 0, 1) := by decide +kernel
theorem dX11_nextOf_3 : decode cX11_nextOf 3 = .ok (.istore_n 3, 1) := by decide +kernel
theorem dX11_nextOf_4 : decode cX11_nextOf 4 = .ok (.iload_n 3, 1) := by decide +kernel
theorem dX11_nextOf_5 : decode cX11_nextOf 5 = .ok (.aload_n 0, 1) := by decide +kernel
theorem dX11_nextOf_6 : decode cX11_nextOf 6 = .ok (.getfield 7, 3) := by decide +kernel
theorem dX11_nextOf_9 : decode cX11_nextOf 9 = .ok (.iconst 0, 1) := by decide +kernel
theorem dX11_nextOf_10 : decode cX11_nextOf 10 = .ok (.iaload, 1) := by decide +kernel
theorem dX11_nextOf_11 : decode cX11_nextOf 11 = .ok (.if_icmp .ge 25, 3) := by decide +kernel
theorem dX11_nextOf_14 : decode cX11_nextOf 14 = .ok (.iload_n 2, 1) := by decide +kernel
theorem dX11_nextOf_15 : decode cX11_nextOf 15 = .ok (.aload_n 0, 1) := by decide +kernel
theorem dX11_nextOf_16 : decode cX11_nextOf 16 = .ok (.iload_n 3, 1) := by decide +kernel
theorem dX11_nextOf_17 : decode cX11_nextOf 17 = .ok (.iload_n 1, 1) := by decide +kernel
theorem dX11_nextOf_18 : decode cX11_nextOf 18 = .ok (.aload_n 0, 1) := by decide +kernel
theorem dX11_nextOf_19 : decode cX11_nextOf 19 = .ok (.getfield 19, 3) := by decide +kernel
theorem dX11_nextOf_22 : decode cX11_nextOf 22 = .ok (.iload_n 3, 1) := by decide +kernel
theorem dX11_nextOf_23 : decode cX11_nextOf 23 = .ok (.iaload, 1) := by decide +kernel
theorem dX11_nextOf_24 : decode cX11_nextOf 24 = .ok (.iconst 0, 1) := by decide +kernel
theorem dX11_nextOf_25 : decode cX11_nextOf 25 = .ok (.invokevirtual 134, 3) := by decide +kernel
theorem dX11_nextOf_28 : decode cX11_nextOf 28 = .ok (.iadd, 1) := by decide +kernel
theorem dX11_nextOf_29 : decode cX11_nextOf 29 = .ok (.istore_n 2, 1) := by decide +kernel
theorem dX11_nextOf_30 : decode cX11_nextOf 30 = .ok (.iinc 3 1, 3) := by decide +kernel
theorem dX11_nextOf_33 : decode cX11_nextOf 33 = .ok (.goto (-29), 3) := by decide +kernel
theorem dX11_nextOf_36 : decode cX11_nextOf 36 = .ok (.iload_n 2, 1) := by decide +kernel
theorem dX11_nextOf_37 : decode cX11_nextOf 37 = .ok (.ireturn, 1) := by decide +kernel
theorem dX11_hired_0 : decode cX11_hired 0 = .ok (.iload_n 1, 1) := by decide +kernel
theorem dX11_hired_1 : decode cX11_hired 1 = .ok (.invokestatic 237, 3) := by decide +kernel
theorem dX11_hired_4 : decode cX11_hired 4 = .ok (.ifCond .eq 31, 3) := by decide +kernel
theorem dX11_hired_7 : decode cX11_hired 7 = .ok (.iload_n 2, 1) := by decide +kernel
theorem dX11_hired_8 : decode cX11_hired 8 = .ok (.invokestatic 240, 3) := by decide +kernel
theorem dX11_hired_11 : decode cX11_hired 11 = .ok (.ifCond .eq 24, 3) := by decide +kernel
theorem dX11_hired_14 : decode cX11_hired 14 = .ok (.iload 4, 2) := by decide +kernel
theorem dX11_hired_16 : decode cX11_hired 16 = .ok (.i2l, 1) := by decide +kernel
theorem dX11_hired_17 : decode cX11_hired 17 = .ok (.ldc2_w 182, 3) := by decide +kernel
theorem dX11_hired_20 : decode cX11_hired 20 = .ok (.aload_n 0, 1) := by decide +kernel
theorem dX11_hired_21 : decode cX11_hired 21 = .ok (.getfield 7, 3) := by decide +kernel
theorem dX11_hired_24 : decode cX11_hired 24 = .ok (.iconst 0, 1) := by decide +kernel
theorem dX11_hired_25 : decode cX11_hired 25 = .ok (.iaload, 1) := by decide +kernel
theorem dX11_hired_26 : decode cX11_hired 26 = .ok (.iconst 1, 1) := by decide +kernel
theorem dX11_hired_27 : decode cX11_hired 27 = .ok (.isub, 1) := by decide +kernel
theorem dX11_hired_28 : decode cX11_hired 28 = .ok (.i2l, 1) := by decide +kernel
theorem dX11_hired_29 : decode cX11_hired 29 = .ok (.invokestatic 51, 3) := by decide +kernel
theorem dX11_hired_32 : decode cX11_hired 32 = .ok (.ifCond .ne 5, 3) := by decide +kernel
theorem dX11_hired_35 : decode cX11_hired 35 = .ok (.iconst (-1), 1) := by decide +kernel
theorem dX11_hired_36 : decode cX11_hired 36 = .ok (.ireturn, 1) := by decide +kernel
theorem dX11_hired_37 : decode cX11_hired 37 = .ok (.aload_n 0, 1) := by decide +kernel
theorem dX11_hired_38 : decode cX11_hired 38 = .ok (.iload_n 1, 1) := by decide +kernel
theorem dX11_hired_39 : decode cX11_hired 39 = .ok (.iload_n 2, 1) := by decide +kernel
theorem dX11_hired_40 : decode cX11_hired 40 = .ok (.iload_n 3, 1) := by decide +kernel
theorem dX11_hired_41 : decode cX11_hired 41 = .ok (.bipush 10, 2) := by decide +kernel
theorem dX11_hired_43 : decode cX11_hired 43 = .ok (.invokevirtual 243, 3) := by decide +kernel
theorem dX11_hired_46 : decode cX11_hired 46 = .ok (.istore 5, 2) := by decide +kernel
theorem dX11_hired_48 : decode cX11_hired 48 = .ok (.iload 5, 2) := by decide +kernel
theorem dX11_hired_50 : decode cX11_hired 50 = .ok (.ifCond .eq 6, 3) := by decide +kernel
theorem dX11_hired_53 : decode cX11_hired 53 = .ok (.iload 5, 2) := by decide +kernel
theorem dX11_hired_55 : decode cX11_hired 55 = .ok (.ireturn, 1) := by decide +kernel
theorem dX11_hired_56 : decode cX11_hired 56 = .ok (.ldc 200, 2) := by decide +kernel
theorem dX11_hired_58 : decode cX11_hired 58 = .ok (.istore 6, 2) := by decide +kernel
theorem dX11_hired_60 : decode cX11_hired 60 = .ok (.iconst 0, 1) := by decide +kernel
theorem dX11_hired_61 : decode cX11_hired 61 = .ok (.istore 7, 2) := by decide +kernel
theorem dX11_hired_63 : decode cX11_hired 63 = .ok (.iconst 0, 1) := by decide +kernel
theorem dX11_hired_64 : decode cX11_hired 64 = .ok (.istore 8, 2) := by decide +kernel
theorem dX11_hired_66 : decode cX11_hired 66 = .ok (.iload 8, 2) := by decide +kernel
theorem dX11_hired_68 : decode cX11_hired 68 = .ok (.aload_n 0, 1) := by decide +kernel
theorem dX11_hired_69 : decode cX11_hired 69 = .ok (.invokevirtual 173, 3) := by decide +kernel
theorem dX11_hired_72 : decode cX11_hired 72 = .ok (.if_icmp .ge 125, 3) := by decide +kernel
theorem dX11_hired_75 : decode cX11_hired 75 = .ok (.aload_n 0, 1) := by decide +kernel
theorem dX11_hired_76 : decode cX11_hired 76 = .ok (.iload 8, 2) := by decide +kernel
theorem dX11_hired_78 : decode cX11_hired 78 = .ok (.aload_n 0, 1) := by decide +kernel
theorem dX11_hired_79 : decode cX11_hired 79 = .ok (.invokevirtual 184, 3) := by decide +kernel
theorem dX11_hired_82 : decode cX11_hired 82 = .ok (.iconst 0, 1) := by decide +kernel
theorem dX11_hired_83 : decode cX11_hired 83 = .ok (.invokevirtual 176, 3) := by decide +kernel
theorem dX11_hired_86 : decode cX11_hired 86 = .ok (.istore 9, 2) := by decide +kernel
theorem dX11_hired_88 : decode cX11_hired 88 = .ok (.iload 9, 2) := by decide +kernel
theorem dX11_hired_90 : decode cX11_hired 90 = .ok (.ifCond .lt 18, 3) := by decide +kernel
theorem dX11_hired_93 : decode cX11_hired 93 = .ok (.aload_n 0, 1) := by decide +kernel
theorem dX11_hired_94 : decode cX11_hired 94 = .ok (.iload 9, 2) := by decide +kernel
theorem dX11_hired_96 : decode cX11_hired 96 = .ok (.invokevirtual 179, 3) := by decide +kernel
theorem dX11_hired_99 : decode cX11_hired 99 = .ok (.iload 6, 2) := by decide +kernel
theorem dX11_hired_101 : decode cX11_hired 101 = .ok (.if_icmp .ge 7, 3) := by decide +kernel
theorem dX11_hired_104 : decode cX11_hired 104 = .ok (.iconst 1, 1) := by decide +kernel
theorem dX11_hired_105 : decode cX11_hired 105 = .ok (.goto 4, 3) := by decide +kernel
theorem dX11_hired_108 : decode cX11_hired 108 = .ok (.iconst 0, 1) := by decide +kernel
theorem dX11_hired_109 : decode cX11_hired 109 = .ok (.istore 10, 2) := by decide +kernel
theorem dX11_hired_111 : decode cX11_hired 111 = .ok (.iconst 0, 1) := by decide +kernel
theorem dX11_hired_112 : decode cX11_hired 112 = .ok (.istore 11, 2) := by decide +kernel
theorem dX11_hired_114 : decode cX11_hired 114 = .ok (.iload 11, 2) := by decide +kernel
theorem dX11_hired_116 : decode cX11_hired 116 = .ok (.bipush 10, 2) := by decide +kernel
theorem dX11_hired_118 : decode cX11_hired 118 = .ok (.if_icmp .ge 41, 3) := by decide +kernel
theorem dX11_hired_121 : decode cX11_hired 121 = .ok (.iload 10, 2) := by decide +kernel
theorem dX11_hired_123 : decode cX11_hired 123 = .ok (.ifCond .eq 36, 3) := by decide +kernel
theorem dX11_hired_126 : decode cX11_hired 126 = .ok (.aload_n 0, 1) := by decide +kernel
theorem dX11_hired_127 : decode cX11_hired 127 = .ok (.iload 11, 2) := by decide +kernel
theorem dX11_hired_129 : decode cX11_hired 129 = .ok (.invokevirtual 246, 3) := by decide +kernel
theorem dX11_hired_132 : decode cX11_hired 132 = .ok (.i2l, 1) := by decide +kernel
theorem dX11_hired_133 : decode cX11_hired 133 = .ok (.aload_n 0, 1) := by decide +kernel
theorem dX11_hired_134 : decode cX11_hired 134 = .ok (.iload_n 1, 1) := by decide +kernel
theorem dX11_hired_135 : decode cX11_hired 135 = .ok (.iload_n 3, 1) := by decide +kernel
theorem dX11_hired_136 : decode cX11_hired 136 = .ok (.iload 11, 2) := by decide +kernel
theorem dX11_hired_138 : decode cX11_hired 138 = .ok (.iadd, 1) := by decide +kernel
theorem dX11_hired_139 : decode cX11_hired 139 = .ok (.invokevirtual 249, 3) := by decide +kernel
theorem dX11_hired_142 : decode cX11_hired 142 = .ok (.lcmp, 1) := by decide +kernel
theorem dX11_hired_143 : decode cX11_hired 143 = .ok (.ifCond .lt 7, 3) := by decide +kernel
theorem dX11_hired_146 : decode cX11_hired 146 = .ok (.iconst 1, 1) := by decide +kernel
theorem dX11_hired_147 : decode cX11_hired 147 = .ok (.goto 4, 3) := by decide +kernel
theorem dX11_hired_150 : decode cX11_hired 150 = .ok (.iconst 0, 1) := by decide +kernel
theorem dX11_hired_151 : decode cX11_hired 151 = .ok (.istore 10, 2) := by decide +kernel
theorem dX11_hired_153 : decode cX11_hired 153 = .ok (.iinc 11 1, 3) := by decide +kernel
theorem dX11_hired_156 : decode cX11_hired 156 = .ok (.goto (-42), 3) := by decide +kernel
end
section
theorem dX11_hired_159 : decode cX11_hired 159 = .ok (.iload 10, 2) := by decide +kernel
theorem dX11_hired_161 : decode cX11_hired 161 = .ok (.ifCond .eq 8, 3) := by decide +kernel
theorem dX11_hired_164 : decode cX11_hired 164 = .ok (.iload 8, 2) := by decide +kernel
theorem dX11_hired_166 : decode cX11_hired 166 = .ok (.goto 5, 3) := by decide +kernel
theorem dX11_hired_169 : decode cX11_hired 169 = .ok (.iload 7, 2) := by decide +kernel
theorem dX11_hired_171 : decode cX11_hired 171 = .ok (.istore 7, 2) := by decide +kernel
theorem dX11_hired_173 : decode cX11_hired 173 = .ok (.iload 10, 2) := by decide +kernel
theorem dX11_hired_175 : decode cX11_hired 175 = .ok (.ifCond .eq 12, 3) := by decide +kernel
theorem dX11_hired_178 : decode cX11_hired 178 = .ok (.aload_n 0, 1) := by decide +kernel
theorem dX11_hired_179 : decode cX11_hired 179 = .ok (.iload 9, 2) := by decide +kernel
theorem dX11_hired_181 : decode cX11_hired 181 = .ok (.invokevirtual 179, 3) := by decide +kernel
theorem dX11_hired_184 : decode cX11_hired 184 = .ok (.goto 5, 3) := by decide +kernel
theorem dX11_hired_187 : decode cX11_hired 187 = .ok (.iload 6, 2) := by decide +kernel
theorem dX11_hired_189 : decode cX11_hired 189 = .ok (.istore 6, 2) := by decide +kernel
theorem dX11_hired_191 : decode cX11_hired 191 = .ok (.iinc 8 1, 3) := by decide +kernel
theorem dX11_hired_194 : decode cX11_hired 194 = .ok (.goto (-128), 3) := by decide +kernel
theorem dX11_hired_197 : decode cX11_hired 197 = .ok (.iload 6, 2) := by decide +kernel
theorem dX11_hired_199 : decode cX11_hired 199 = .ok (.ldc 200, 2) := by decide +kernel
theorem dX11_hired_201 : decode cX11_hired 201 = .ok (.if_icmp .ne 6, 3) := by decide +kernel
theorem dX11_hired_204 : decode cX11_hired 204 = .ok (.bipush (-4), 2) := by decide +kernel
theorem dX11_hired_206 : decode cX11_hired 206 = .ok (.ireturn, 1) := by decide +kernel
theorem dX11_hired_207 : decode cX11_hired 207 = .ok (.aload_n 0, 1) := by decide +kernel
theorem dX11_hired_208 : decode cX11_hired 208 = .ok (.iload 7, 2) := by decide +kernel
theorem dX11_hired_210 : decode cX11_hired 210 = .ok (.aload_n 0, 1) := by decide +kernel
theorem dX11_hired_211 : decode cX11_hired 211 = .ok (.invokevirtual 184, 3) := by decide +kernel
theorem dX11_hired_214 : decode cX11_hired 214 = .ok (.iconst 0, 1) := by decide +kernel
theorem dX11_hired_215 : decode cX11_hired 215 = .ok (.invokevirtual 176, 3) := by decide +kernel
theorem dX11_hired_218 : decode cX11_hired 218 = .ok (.pop, 1) := by decide +kernel
theorem dX11_hired_219 : decode cX11_hired 219 = .ok (.iload 4, 2) := by decide +kernel
theorem dX11_hired_221 : decode cX11_hired 221 = .ok (.ifCond .ge 8, 3) := by decide +kernel
theorem dX11_hired_224 : decode cX11_hired 224 = .ok (.iload 6, 2) := by decide +kernel
theorem dX11_hired_226 : decode cX11_hired 226 = .ok (.goto 10, 3) := by decide +kernel
theorem dX11_hired_229 : decode cX11_hired 229 = .ok (.aload_n 0, 1) := by decide +kernel
theorem dX11_hired_230 : decode cX11_hired 230 = .ok (.getfield 19, 3) := by decide +kernel
theorem dX11_hired_233 : decode cX11_hired 233 = .ok (.iload 4, 2) := by decide +kernel
theorem dX11_hired_235 : decode cX11_hired 235 = .ok (.iaload, 1) := by decide +kernel
theorem dX11_hired_236 : decode cX11_hired 236 = .ok (.ireturn, 1) := by decide +kernel
theorem dX11_night_0 : decode cX11_night 0 = .ok (.iload_n 1, 1) := by decide +kernel
theorem dX11_night_1 : decode cX11_night 1 = .ok (.invokestatic 237, 3) := by decide +kernel
theorem dX11_night_4 : decode cX11_night 4 = .ok (.ifCond .eq 21, 3) := by decide +kernel
theorem dX11_night_7 : decode cX11_night 7 = .ok (.iload_n 2, 1) := by decide +kernel
theorem dX11_night_8 : decode cX11_night 8 = .ok (.invokestatic 240, 3) := by decide +kernel
theorem dX11_night_11 : decode cX11_night 11 = .ok (.ifCond .eq 14, 3) := by decide +kernel
theorem dX11_night_14 : decode cX11_night 14 = .ok (.iload 4, 2) := by decide +kernel
theorem dX11_night_16 : decode cX11_night 16 = .ok (.i2l, 1) := by decide +kernel
theorem dX11_night_17 : decode cX11_night 17 = .ok (.lconst 0, 1) := by decide +kernel
theorem dX11_night_18 : decode cX11_night 18 = .ok (.lconst 1, 1) := by decide +kernel
theorem dX11_night_19 : decode cX11_night 19 = .ok (.invokestatic 51, 3) := by decide +kernel
theorem dX11_night_22 : decode cX11_night 22 = .ok (.ifCond .ne 5, 3) := by decide +kernel
theorem dX11_night_25 : decode cX11_night 25 = .ok (.iconst (-1), 1) := by decide +kernel
theorem dX11_night_26 : decode cX11_night 26 = .ok (.ireturn, 1) := by decide +kernel
theorem dX11_night_27 : decode cX11_night 27 = .ok (.aload_n 0, 1) := by decide +kernel
theorem dX11_night_28 : decode cX11_night 28 = .ok (.iload_n 1, 1) := by decide +kernel
theorem dX11_night_29 : decode cX11_night 29 = .ok (.iload_n 2, 1) := by decide +kernel
theorem dX11_night_30 : decode cX11_night 30 = .ok (.iload_n 3, 1) := by decide +kernel
theorem dX11_night_31 : decode cX11_night 31 = .ok (.aload_n 0, 1) := by decide +kernel
theorem dX11_night_32 : decode cX11_night 32 = .ok (.getfield 7, 3) := by decide +kernel
theorem dX11_night_35 : decode cX11_night 35 = .ok (.iconst 0, 1) := by decide +kernel
theorem dX11_night_36 : decode cX11_night 36 = .ok (.iaload, 1) := by decide +kernel
theorem dX11_night_37 : decode cX11_night 37 = .ok (.invokevirtual 243, 3) := by decide +kernel
theorem dX11_night_40 : decode cX11_night 40 = .ok (.istore 5, 2) := by decide +kernel
theorem dX11_night_42 : decode cX11_night 42 = .ok (.iload 5, 2) := by decide +kernel
theorem dX11_night_44 : decode cX11_night 44 = .ok (.ifCond .eq 6, 3) := by decide +kernel
theorem dX11_night_47 : decode cX11_night 47 = .ok (.iload 5, 2) := by decide +kernel
theorem dX11_night_49 : decode cX11_night 49 = .ok (.ireturn, 1) := by decide +kernel
theorem dX11_night_50 : decode cX11_night 50 = .ok (.iconst 0, 1) := by decide +kernel
theorem dX11_night_51 : decode cX11_night 51 = .ok (.istore 6, 2) := by decide +kernel
theorem dX11_night_53 : decode cX11_night 53 = .ok (.aload_n 0, 1) := by decide +kernel
theorem dX11_night_54 : decode cX11_night 54 = .ok (.invokevirtual 184, 3) := by decide +kernel
theorem dX11_night_57 : decode cX11_night 57 = .ok (.istore 7, 2) := by decide +kernel
theorem dX11_night_59 : decode cX11_night 59 = .ok (.iconst 0, 1) := by decide +kernel
theorem dX11_night_60 : decode cX11_night 60 = .ok (.istore 8, 2) := by decide +kernel
theorem dX11_night_62 : decode cX11_night 62 = .ok (.iload 8, 2) := by decide +kernel
theorem dX11_night_64 : decode cX11_night 64 = .ok (.aload_n 0, 1) := by decide +kernel
theorem dX11_night_65 : decode cX11_night 65 = .ok (.invokevirtual 173, 3) := by decide +kernel
theorem dX11_night_68 : decode cX11_night 68 = .ok (.if_icmp .ge 144, 3) := by decide +kernel
theorem dX11_night_71 : decode cX11_night 71 = .ok (.aload_n 0, 1) := by decide +kernel
theorem dX11_night_72 : decode cX11_night 72 = .ok (.iload 8, 2) := by decide +kernel
theorem dX11_night_74 : decode cX11_night 74 = .ok (.aload_n 0, 1) := by decide +kernel
theorem dX11_night_75 : decode cX11_night 75 = .ok (.invokevirtual 184, 3) := by decide +kernel
theorem dX11_night_78 : decode cX11_night 78 = .ok (.iconst 0, 1) := by decide +kernel
theorem dX11_night_79 : decode cX11_night 79 = .ok (.invokevirtual 176, 3) := by decide +kernel
theorem dX11_night_82 : decode cX11_night 82 = .ok (.istore 9, 2) := by decide +kernel
theorem dX11_night_84 : decode cX11_night 84 = .ok (.iload 9, 2) := by decide +kernel
theorem dX11_night_86 : decode cX11_night 86 = .ok (.ifCond .lt 7, 3) := by decide +kernel
theorem dX11_night_89 : decode cX11_night 89 = .ok (.iconst 1, 1) := by decide +kernel
theorem dX11_night_90 : decode cX11_night 90 = .ok (.goto 4, 3) := by decide +kernel
theorem dX11_night_93 : decode cX11_night 93 = .ok (.iconst 0, 1) := by decide +kernel
theorem dX11_night_94 : decode cX11_night 94 = .ok (.istore 10, 2) := by decide +kernel
theorem dX11_night_96 : decode cX11_night 96 = .ok (.iconst 0, 1) := by decide +kernel
theorem dX11_night_97 : decode cX11_night 97 = .ok (.istore 11, 2) := by decide +kernel
theorem dX11_night_99 : decode cX11_night 99 = .ok (.iload 11, 2) := by decide +kernel
theorem dX11_night_101 : decode cX11_night 101 = .ok (.aload_n 0, 1) := by decide +kernel
theorem dX11_night_102 : decode cX11_night 102 = .ok (.getfield 7, 3) := by decide +kernel
theorem dX11_night_105 : decode cX11_night 105 = .ok (.iconst 0, 1) := by decide +kernel
theorem dX11_night_106 : decode cX11_night 106 = .ok (.iaload, 1) := by decide +kernel
theorem dX11_night_107 : decode cX11_night 107 = .ok (.if_icmp .ge 68, 3) := by decide +kernel
theorem dX11_night_110 : decode cX11_night 110 = .ok (.iload 10, 2) := by decide +kernel
theorem dX11_night_112 : decode cX11_night 112 = .ok (.ifCond .eq 63, 3) := by decide +kernel
theorem dX11_night_115 : decode cX11_night 115 = .ok (.aload_n 0, 1) := by decide +kernel
theorem dX11_night_116 : decode cX11_night 116 = .ok (.iload_n 1, 1) := by decide +kernel
theorem dX11_night_117 : decode cX11_night 117 = .ok (.iload_n 3, 1) := by decide +kernel
theorem dX11_night_118 : decode cX11_night 118 = .ok (.iload 11, 2) := by decide +kernel
theorem dX11_night_120 : decode cX11_night 120 = .ok (.iadd, 1) := by decide +kernel
theorem dX11_night_121 : decode cX11_night 121 = .ok (.invokevirtual 233, 3) := by decide +kernel
theorem dX11_night_124 : decode cX11_night 124 = .ok (.lstore 12, 2) := by decide +kernel
theorem dX11_night_126 : decode cX11_night 126 = .ok (.lload 12, 2) := by decide +kernel
theorem dX11_night_128 : decode cX11_night 128 = .ok (.lconst 0, 1) := by decide +kernel
theorem dX11_night_129 : decode cX11_night 129 = .ok (.lcmp, 1) := by decide +kernel
theorem dX11_night_130 : decode cX11_night 130 = .ok (.ifCond .lt 32, 3) := by decide +kernel
theorem dX11_night_133 : decode cX11_night 133 = .ok (.lload 12, 2) := by decide +kernel
theorem dX11_night_135 : decode cX11_night 135 = .ok (.ldc2_w 69, 3) := by decide +kernel
theorem dX11_night_138 : decode cX11_night 138 = .ok (.lcmp, 1) := by decide +kernel
theorem dX11_night_139 : decode cX11_night 139 = .ok (.ifCond .ge 27, 3) := by decide +kernel
theorem dX11_night_142 : decode cX11_night 142 = .ok (.aload_n 0, 1) := by decide +kernel
theorem dX11_night_143 : decode cX11_night 143 = .ok (.iload 11, 2) := by decide +kernel
theorem dX11_night_145 : decode cX11_night 145 = .ok (.lload 12, 2) := by decide +kernel
theorem dX11_night_147 : decode cX11_night 147 = .ok (.l2i, 1) := by decide +kernel
theorem dX11_night_148 : decode cX11_night 148 = .ok (.aload_n 0, 1) := by decide +kernel
theorem dX11_night_149 : decode cX11_night 149 = .ok (.getfield 19, 3) := by decide +kernel
theorem dX11_night_152 : decode cX11_night 152 = .ok (.iload 11, 2) := by decide +kernel
theorem dX11_night_154 : decode cX11_night 154 = .ok (.iaload, 1) := by decide +kernel
theorem dX11_night_155 : decode cX11_night 155 = .ok (.iconst 0, 1) := by decide +kernel
theorem dX11_night_156 : decode cX11_night 156 = .ok (.invokevirtual 134, 3) := by decide +kernel
theorem dX11_night_159 : decode cX11_night 159 = .ok (.ifCond .le 7, 3) := by decide +kernel
theorem dX11_night_162 : decode cX11_night 162 = .ok (.iconst 1, 1) := by decide +kernel
theorem dX11_night_163 : decode cX11_night 163 = .ok (.goto 4, 3) := by decide +kernel
theorem dX11_night_166 : decode cX11_night 166 = .ok (.iconst 0, 1) := by decide +kernel
theorem dX11_night_167 : decode cX11_night 167 = .ok (.istore 10, 2) := by decide +kernel
theorem dX11_night_169 : decode cX11_night 169 = .ok (.iinc 11 1, 3) := by decide +kernel
theorem dX11_night_172 : decode cX11_night 172 = .ok (.goto (-73), 3) := by decide +kernel
theorem dX11_night_175 : decode cX11_night 175 = .ok (.iload 6, 2) := by decide +kernel
theorem dX11_night_177 : decode cX11_night 177 = .ok (.iload 10, 2) := by decide +kernel
theorem dX11_night_179 : decode cX11_night 179 = .ok (.ifCond .eq 7, 3) := by decide +kernel
theorem dX11_night_182 : decode cX11_night 182 = .ok (.iconst 1, 1) := by decide +kernel
theorem dX11_night_183 : decode cX11_night 183 = .ok (.goto 4, 3) := by decide +kernel
theorem dX11_night_186 : decode cX11_night 186 = .ok (.iconst 0, 1) := by decide +kernel
theorem dX11_night_187 : decode cX11_night 187 = .ok (.iadd, 1) := by decide +kernel
theorem dX11_night_188 : decode cX11_night 188 = .ok (.istore 6, 2) := by decide +kernel
theorem dX11_night_190 : decode cX11_night 190 = .ok (.iload 7, 2) := by decide +kernel
theorem dX11_night_192 : decode cX11_night 192 = .ok (.iload 10, 2) := by decide +kernel
theorem dX11_night_194 : decode cX11_night 194 = .ok (.ifCond .eq 8, 3) := by decide +kernel
theorem dX11_night_197 : decode cX11_night 197 = .ok (.iload 9, 2) := by decide +kernel
theorem dX11_night_199 : decode cX11_night 199 = .ok (.goto 4, 3) := by decide +kernel
theorem dX11_night_202 : decode cX11_night 202 = .ok (.iconst (-1), 1) := by decide +kernel
theorem dX11_night_203 : decode cX11_night 203 = .ok (.iand, 1) := by decide +kernel
theorem dX11_night_204 : decode cX11_night 204 = .ok (.istore 7, 2) := by decide +kernel
theorem dX11_night_206 : decode cX11_night 206 = .ok (.iinc 8 1, 3) := by decide +kernel
theorem dX11_night_209 : decode cX11_night 209 = .ok (.goto (-147), 3) := by decide +kernel
theorem dX11_night_212 : decode cX11_night 212 = .ok (.iload 4, 2) := by decide +kernel
theorem dX11_night_214 : decode cX11_night 214 = .ok (.ifCond .ne 8, 3) := by decide +kernel
theorem dX11_night_217 : decode cX11_night 217 = .ok (.iload 6, 2) := by decide +kernel
theorem dX11_night_219 : decode cX11_night 219 = .ok (.goto 15, 3) := by decide +kernel
theorem dX11_night_222 : decode cX11_night 222 = .ok (.iload 6, 2) := by decide +kernel
theorem dX11_night_224 : decode cX11_night 224 = .ok (.ifCond .ne 8, 3) := by decide +kernel
theorem dX11_night_227 : decode cX11_night 227 = .ok (.bipush (-4), 2) := by decide +kernel
theorem dX11_night_229 : decode cX11_night 229 = .ok (.goto 5, 3) := by decide +kernel
theorem dX11_night_232 : decode cX11_night 232 = .ok (.iload 7, 2) := by decide +kernel
theorem dX11_night_234 : decode cX11_night 234 = .ok (.ireturn, 1) := by decide +kernel
theorem dX11_pie_0 : decode cX11_pie 0 = .ok (.iload_n 1, 1) := by decide +kernel
theorem dX11_pie_1 : decode cX11_pie 1 = .ok (.invokestatic 237, 3) := by decide +kernel
theorem dX11_pie_4 : decode cX11_pie 4 = .ok (.ifCond .eq 21, 3) := by decide +kernel
theorem dX11_pie_7 : decode cX11_pie 7 = .ok (.iload_n 2, 1) := by decide +kernel
theorem dX11_pie_8 : decode cX11_pie 8 = .ok (.invokestatic 240, 3) := by decide +kernel
theorem dX11_pie_11 : decode cX11_pie 11 = .ok (.ifCond .eq 14, 3) := by decide +kernel
theorem dX11_pie_14 : decode cX11_pie 14 = .ok (.iload 4, 2) := by decide +kernel
theorem dX11_pie_16 : decode cX11_pie 16 = .ok (.i2l, 1) := by decide +kernel
theorem dX11_pie_17 : decode cX11_pie 17 = .ok (.lconst 0, 1) := by decide +kernel
theorem dX11_pie_18 : decode cX11_pie 18 = .ok (.lconst 1, 1) := by decide +kernel
theorem dX11_pie_19 : decode cX11_pie 19 = .ok (.invokestatic 51, 3) := by decide +kernel
theorem dX11_pie_22 : decode cX11_pie 22 = .ok (.ifCond .ne 5, 3) := by decide +kernel
theorem dX11_pie_25 : decode cX11_pie 25 = .ok (.iconst (-1), 1) := by decide +kernel
theorem dX11_pie_26 : decode cX11_pie 26 = .ok (.ireturn, 1) := by decide +kernel
theorem dX11_pie_27 : decode cX11_pie 27 = .ok (.aload_n 0, 1) := by decide +kernel
theorem dX11_pie_28 : decode cX11_pie 28 = .ok (.iload_n 1, 1) := by decide +kernel
theorem dX11_pie_29 : decode cX11_pie 29 = .ok (.iload_n 2, 1) := by decide +kernel
theorem dX11_pie_30 : decode cX11_pie 30 = .ok (.iload_n 3, 1) := by decide +kernel
theorem dX11_pie_31 : decode cX11_pie 31 = .ok (.bipush 10, 2) := by decide +kernel
theorem dX11_pie_33 : decode cX11_pie 33 = .ok (.invokevirtual 243, 3) := by decide +kernel
theorem dX11_pie_36 : decode cX11_pie 36 = .ok (.istore 5, 2) := by decide +kernel
theorem dX11_pie_38 : decode cX11_pie 38 = .ok (.iload 5, 2) := by decide +kernel
theorem dX11_pie_40 : decode cX11_pie 40 = .ok (.ifCond .eq 6, 3) := by decide +kernel
theorem dX11_pie_43 : decode cX11_pie 43 = .ok (.iload 5, 2) := by decide +kernel
theorem dX11_pie_45 : decode cX11_pie 45 = .ok (.ireturn, 1) := by decide +kernel
theorem dX11_pie_46 : decode cX11_pie 46 = .ok (.iconst 0, 1) := by decide +kernel
theorem dX11_pie_47 : decode cX11_pie 47 = .ok (.istore 6, 2) := by decide +kernel
theorem dX11_pie_49 : decode cX11_pie 49 = .ok (.bipush (-4), 2) := by decide +kernel
theorem dX11_pie_51 : decode cX11_pie 51 = .ok (.istore 7, 2) := by decide +kernel
theorem dX11_pie_53 : decode cX11_pie 53 = .ok (.iconst 0, 1) := by decide +kernel
theorem dX11_pie_54 : decode cX11_pie 54 = .ok (.istore 8, 2) := by decide +kernel
theorem dX11_pie_56 : decode cX11_pie 56 = .ok (.iload 8, 2) := by decide +kernel
theorem dX11_pie_58 : decode cX11_pie 58 = .ok (.aload_n 0, 1) := by decide +kernel
theorem dX11_pie_59 : decode cX11_pie 59 = .ok (.invokevirtual 173, 3) := by decide +kernel
theorem dX11_pie_62 : decode cX11_pie 62 = .ok (.if_icmp .ge 112, 3) := by decide +kernel
theorem dX11_pie_65 : decode cX11_pie 65 = .ok (.aload_n 0, 1) := by decide +kernel
theorem dX11_pie_66 : decode cX11_pie 66 = .ok (.iload 8, 2) := by decide +kernel
theorem dX11_pie_68 : decode cX11_pie 68 = .ok (.aload_n 0, 1) := by decide +kernel
theorem dX11_pie_69 : decode cX11_pie 69 = .ok (.invokevirtual 184, 3) := by decide +kernel
theorem dX11_pie_72 : decode cX11_pie 72 = .ok (.iconst 0, 1) := by decide +kernel
theorem dX11_pie_73 : decode cX11_pie 73 = .ok (.invokevirtual 176, 3) := by decide +kernel
theorem dX11_pie_76 : decode cX11_pie 76 = .ok (.ifCond .lt 7, 3) := by decide +kernel
theorem dX11_pie_79 : decode cX11_pie 79 = .ok (.iconst 1, 1) := by decide +kernel
theorem dX11_pie_80 : decode cX11_pie 80 = .ok (.goto 4, 3) := by decide +kernel
theorem dX11_pie_83 : decode cX11_pie 83 = .ok (.iconst 0, 1) := by decide +kernel
theorem dX11_pie_84 : decode cX11_pie 84 = .ok (.istore 9, 2) := by decide +kernel
theorem dX11_pie_86 : decode cX11_pie 86 = .ok (.iconst 0, 1) := by decide +kernel
theorem dX11_pie_87 : decode cX11_pie 87 = .ok (.istore 10, 2) := by decide +kernel
theorem dX11_pie_89 : decode cX11_pie 89 = .ok (.iload 10, 2) := by decide +kernel
theorem dX11_pie_91 : decode cX11_pie 91 = .ok (.bipush 10, 2) := by decide +kernel
theorem dX11_pie_93 : decode cX11_pie 93 = .ok (.if_icmp .ge 41, 3) := by decide +kernel
theorem dX11_pie_96 : decode cX11_pie 96 = .ok (.iload 9, 2) := by decide +kernel
theorem dX11_pie_98 : decode cX11_pie 98 = .ok (.ifCond .eq 36, 3) := by decide +kernel
theorem dX11_pie_101 : decode cX11_pie 101 = .ok (.aload_n 0, 1) := by decide +kernel
theorem dX11_pie_102 : decode cX11_pie 102 = .ok (.iload 10, 2) := by decide +kernel
theorem dX11_pie_104 : decode cX11_pie 104 = .ok (.invokevirtual 246, 3) := by decide +kernel
theorem dX11_pie_107 : decode cX11_pie 107 = .ok (.i2l, 1) := by decide +kernel
theorem dX11_pie_108 : decode cX11_pie 108 = .ok (.aload_n 0, 1) := by decide +kernel
theorem dX11_pie_109 : decode cX11_pie 109 = .ok (.iload_n 1, 1) := by decide +kernel
theorem dX11_pie_110 : decode cX11_pie 110 = .ok (.iload_n 3, 1) := by decide +kernel
theorem dX11_pie_111 : decode cX11_pie 111 = .ok (.iload 10, 2) := by decide +kernel
theorem dX11_pie_113 : decode cX11_pie 113 = .ok (.iadd, 1) := by decide +kernel
theorem dX11_pie_114 : decode cX11_pie 114 = .ok (.invokevirtual 249, 3) := by decide +kernel
theorem dX11_pie_117 : decode cX11_pie 117 = .ok (.lcmp, 1) := by decide +kernel
theorem dX11_pie_118 : decode cX11_pie 118 = .ok (.ifCond .ne 7, 3) := by decide +kernel
theorem dX11_pie_121 : decode cX11_pie 121 = .ok (.iconst 1, 1) := by decide +kernel
theorem dX11_pie_122 : decode cX11_pie 122 = .ok (.goto 4, 3) := by decide +kernel
theorem dX11_pie_125 : decode cX11_pie 125 = .ok (.iconst 0, 1) := by decide +kernel
theorem dX11_pie_126 : decode cX11_pie 126 = .ok (.istore 9, 2) := by decide +kernel
theorem dX11_pie_128 : decode cX11_pie 128 = .ok (.iinc 10 1, 3) := by decide +kernel
theorem dX11_pie_131 : decode cX11_pie 131 = .ok (.goto (-42), 3) := by decide +kernel
theorem dX11_pie_134 : decode cX11_pie 134 = .ok (.iload 9, 2) := by decide +kernel
theorem dX11_pie_136 : decode cX11_pie 136 = .ok (.ifCond .eq 13, 3) := by decide +kernel
theorem dX11_pie_139 : decode cX11_pie 139 = .ok (.iload 6, 2) := by decide +kernel
theorem dX11_pie_141 : decode cX11_pie 141 = .ok (.ifCond .ne 8, 3) := by decide +kernel
theorem dX11_pie_144 : decode cX11_pie 144 = .ok (.iload 8, 2) := by decide +kernel
theorem dX11_pie_146 : decode cX11_pie 146 = .ok (.goto 5, 3) := by decide +kernel
theorem dX11_pie_149 : decode cX11_pie 149 = .ok (.iload 7, 2) := by decide +kernel
theorem dX11_pie_151 : decode cX11_pie 151 = .ok (.istore 7, 2) := by decide +kernel
theorem dX11_pie_153 : decode cX11_pie 153 = .ok (.iload 6, 2) := by decide +kernel
theorem dX11_pie_155 : decode cX11_pie 155 = .ok (.iload 9, 2) := by decide +kernel
theorem dX11_pie_157 : decode cX11_pie 157 = .ok (.ifCond .eq 7, 3) := by decide +kernel
theorem dX11_pie_160 : decode cX11_pie 160 = .ok (.iconst 1, 1) := by decide +kernel
theorem dX11_pie_161 : decode cX11_pie 161 = .ok (.goto 4, 3) := by decide +kernel
theorem dX11_pie_164 : decode cX11_pie 164 = .ok (.iconst 0, 1) := by decide +kernel
theorem dX11_pie_165 : decode cX11_pie 165 = .ok (.iadd, 1) := by decide +kernel
theorem dX11_pie_166 : decode cX11_pie 166 = .ok (.istore 6, 2) := by decide +kernel
theorem dX11_pie_168 : decode cX11_pie 168 = .ok (.iinc 8 1, 3) := by decide +kernel
theorem dX11_pie_171 : decode cX11_pie 171 = .ok (.goto (-115), 3) := by decide +kernel
theorem dX11_pie_174 : decode cX11_pie 174 = .ok (.iload 4, 2) := by decide +kernel
theorem dX11_pie_176 : decode cX11_pie 176 = .ok (.ifCond .ne 8, 3) := by decide +kernel
theorem dX11_pie_179 : decode cX11_pie 179 = .ok (.iload 6, 2) := by decide +kernel
theorem dX11_pie_181 : decode cX11_pie 181 = .ok (.goto 5, 3) := by decide +kernel
theorem dX11_pie_184 : decode cX11_pie 184 = .ok (.iload 7, 2) := by decide +kernel
theorem dX11_pie_186 : decode cX11_pie 186 = .ok (.ireturn, 1) := by decide +kernel
theorem dX11_layState_0 : decode cX11_layState 0 = .ok (.iconst 0, 1) := by decide +kernel
theorem dX11_layState_1 : decode cX11_layState 1 = .ok (.istore_n 2, 1) := by decide +kernel
theorem dX11_layState_2 : decode cX11_layState 2 = .ok (.iload_n 2, 1) := by decide +kernel
theorem dX11_layState_3 : decode cX11_layState 3 = .ok (.bipush 6, 2) := by decide +kernel
theorem dX11_layState_5 : decode cX11_layState 5 = .ok (.if_icmp .ge 98, 3) := by decide +kernel
theorem dX11_layState_8 : decode cX11_layState 8 = .ok (.aload_n 0, 1) := by decide +kernel
theorem dX11_layState_9 : decode cX11_layState 9 = .ok (.getfield 48, 3) := by decide +kernel
theorem dX11_layState_12 : decode cX11_layState 12 = .ok (.bipush 24, 2) := by decide +kernel
theorem dX11_layState_14 : decode cX11_layState 14 = .ok (.iload_n 1, 1) := by decide +kernel
theorem dX11_layState_15 : decode cX11_layState 15 = .ok (.imul, 1) := by decide +kernel
theorem dX11_layState_16 : decode cX11_layState 16 = .ok (.iload_n 2, 1) := by decide +kernel
theorem dX11_layState_17 : decode cX11_layState 17 = .ok (.iadd, 1) := by decide +kernel
theorem dX11_layState_18 : decode cX11_layState 18 = .ok (.aload_n 0, 1) := by decide +kernel
theorem dX11_layState_19 : decode cX11_layState 19 = .ok (.getfield 7, 3) := by decide +kernel
theorem dX11_layState_22 : decode cX11_layState 22 = .ok (.bipush 13, 2) := by decide +kernel
theorem dX11_layState_24 : decode cX11_layState 24 = .ok (.iload_n 2, 1) := by decide +kernel
theorem dX11_layState_25 : decode cX11_layState 25 = .ok (.iadd, 1) := by decide +kernel
theorem dX11_layState_26 : decode cX11_layState 26 = .ok (.iaload, 1) := by decide +kernel
theorem dX11_layState_27 : decode cX11_layState 27 = .ok (.iastore, 1) := by decide +kernel
theorem dX11_layState_28 : decode cX11_layState 28 = .ok (.aload_n 0, 1) := by decide +kernel
theorem dX11_layState_29 : decode cX11_layState 29 = .ok (.getfield 48, 3) := by decide +kernel
theorem dX11_layState_32 : decode cX11_layState 32 = .ok (.bipush 24, 2) := by decide +kernel
theorem dX11_layState_34 : decode cX11_layState 34 = .ok (.iload_n 1, 1) := by decide +kernel
theorem dX11_layState_35 : decode cX11_layState 35 = .ok (.imul, 1) := by decide +kernel
theorem dX11_layState_36 : decode cX11_layState 36 = .ok (.bipush 6, 2) := by decide +kernel
theorem dX11_layState_38 : decode cX11_layState 38 = .ok (.iadd, 1) := by decide +kernel
theorem dX11_layState_39 : decode cX11_layState 39 = .ok (.iload_n 2, 1) := by decide +kernel
theorem dX11_layState_40 : decode cX11_layState 40 = .ok (.iadd, 1) := by decide +kernel
theorem dX11_layState_41 : decode cX11_layState 41 = .ok (.aload_n 0, 1) := by decide +kernel
theorem dX11_layState_42 : decode cX11_layState 42 = .ok (.getfield 7, 3) := by decide +kernel
theorem dX11_layState_45 : decode cX11_layState 45 = .ok (.bipush 19, 2) := by decide +kernel
theorem dX11_layState_47 : decode cX11_layState 47 = .ok (.iload_n 2, 1) := by decide +kernel
theorem dX11_layState_48 : decode cX11_layState 48 = .ok (.iadd, 1) := by decide +kernel
theorem dX11_layState_49 : decode cX11_layState 49 = .ok (.iaload, 1) := by decide +kernel
theorem dX11_layState_50 : decode cX11_layState 50 = .ok (.iastore, 1) := by decide +kernel
theorem dX11_layState_51 : decode cX11_layState 51 = .ok (.aload_n 0, 1) := by decide +kernel
theorem dX11_layState_52 : decode cX11_layState 52 = .ok (.getfield 48, 3) := by decide +kernel
theorem dX11_layState_55 : decode cX11_layState 55 = .ok (.bipush 24, 2) := by decide +kernel
theorem dX11_layState_57 : decode cX11_layState 57 = .ok (.iload_n 1, 1) := by decide +kernel
theorem dX11_layState_58 : decode cX11_layState 58 = .ok (.imul, 1) := by decide +kernel
theorem dX11_layState_59 : decode cX11_layState 59 = .ok (.bipush 12, 2) := by decide +kernel
theorem dX11_layState_61 : decode cX11_layState 61 = .ok (.iadd, 1) := by decide +kernel
theorem dX11_layState_62 : decode cX11_layState 62 = .ok (.iload_n 2, 1) := by decide +kernel
theorem dX11_layState_63 : decode cX11_layState 63 = .ok (.iadd, 1) := by decide +kernel
theorem dX11_layState_64 : decode cX11_layState 64 = .ok (.aload_n 0, 1) := by decide +kernel
theorem dX11_layState_65 : decode cX11_layState 65 = .ok (.getfield 7, 3) := by decide +kernel
theorem dX11_layState_68 : decode cX11_layState 68 = .ok (.bipush 25, 2) := by decide +kernel
theorem dX11_layState_70 : decode cX11_layState 70 = .ok (.iload_n 2, 1) := by decide +kernel
theorem dX11_layState_71 : decode cX11_layState 71 = .ok (.iadd, 1) := by decide +kernel
theorem dX11_layState_72 : decode cX11_layState 72 = .ok (.iaload, 1) := by decide +kernel
theorem dX11_layState_73 : decode cX11_layState 73 = .ok (.iastore, 1) := by decide +kernel
theorem dX11_layState_74 : decode cX11_layState 74 = .ok (.aload_n 0, 1) := by decide +kernel
theorem dX11_layState_75 : decode cX11_layState 75 = .ok (.getfield 48, 3) := by decide +kernel
theorem dX11_layState_78 : decode cX11_layState 78 = .ok (.bipush 24, 2) := by decide +kernel
theorem dX11_layState_80 : decode cX11_layState 80 = .ok (.iload_n 1, 1) := by decide +kernel
theorem dX11_layState_81 : decode cX11_layState 81 = .ok (.imul, 1) := by decide +kernel
theorem dX11_layState_82 : decode cX11_layState 82 = .ok (.bipush 18, 2) := by decide +kernel
theorem dX11_layState_84 : decode cX11_layState 84 = .ok (.iadd, 1) := by decide +kernel
theorem dX11_layState_85 : decode cX11_layState 85 = .ok (.iload_n 2, 1) := by decide +kernel
theorem dX11_layState_86 : decode cX11_layState 86 = .ok (.iadd, 1) := by decide +kernel
theorem dX11_layState_87 : decode cX11_layState 87 = .ok (.aload_n 0, 1) := by decide +kernel
theorem dX11_layState_88 : decode cX11_layState 88 = .ok (.getfield 7, 3) := by decide +kernel
theorem dX11_layState_91 : decode cX11_layState 91 = .ok (.bipush 31, 2) := by decide +kernel
theorem dX11_layState_93 : decode cX11_layState 93 = .ok (.iload_n 2, 1) := by decide +kernel
theorem dX11_layState_94 : decode cX11_layState 94 = .ok (.iadd, 1) := by decide +kernel
theorem dX11_layState_95 : decode cX11_layState 95 = .ok (.iaload, 1) := by decide +kernel
theorem dX11_layState_96 : decode cX11_layState 96 = .ok (.iastore, 1) := by decide +kernel
theorem dX11_layState_97 : decode cX11_layState 97 = .ok (.iinc 2 1, 3) := by decide +kernel
theorem dX11_layState_100 : decode cX11_layState 100 = .ok (.goto (-98), 3) := by decide +kernel
theorem dX11_layState_103 : decode cX11_layState 103 = .ok (.return_, 1) := by decide +kernel
theorem dX11_rotaYear_0 : decode cX11_rotaYear 0 = .ok (.iconst 0, 1) := by decide +kernel
theorem dX11_rotaYear_1 : decode cX11_rotaYear 1 = .ok (.istore 4, 2) := by decide +kernel
theorem dX11_rotaYear_3 : decode cX11_rotaYear 3 = .ok (.iload 4, 2) := by decide +kernel
theorem dX11_rotaYear_5 : decode cX11_rotaYear 5 = .ok (.aload_n 0, 1) := by decide +kernel
theorem dX11_rotaYear_6 : decode cX11_rotaYear 6 = .ok (.getfield 7, 3) := by decide +kernel
theorem dX11_rotaYear_9 : decode cX11_rotaYear 9 = .ok (.iconst 0, 1) := by decide +kernel
theorem dX11_rotaYear_10 : decode cX11_rotaYear 10 = .ok (.iaload, 1) := by decide +kernel
theorem dX11_rotaYear_11 : decode cX11_rotaYear 11 = .ok (.if_icmp .ge 111, 3) := by decide +kernel
theorem dX11_rotaYear_14 : decode cX11_rotaYear 14 = .ok (.aload_n 0, 1) := by decide +kernel
theorem dX11_rotaYear_15 : decode cX11_rotaYear 15 = .ok (.getfield 48, 3) := by decide +kernel
theorem dX11_rotaYear_18 : decode cX11_rotaYear 18 = .ok (.bipush 24, 2) := by decide +kernel
theorem dX11_rotaYear_20 : decode cX11_rotaYear 20 = .ok (.iload_n 1, 1) := by decide +kernel
theorem dX11_rotaYear_21 : decode cX11_rotaYear 21 = .ok (.imul, 1) := by decide +kernel
theorem dX11_rotaYear_22 : decode cX11_rotaYear 22 = .ok (.bipush 24, 2) := by decide +kernel
theorem dX11_rotaYear_24 : decode cX11_rotaYear 24 = .ok (.iadd, 1) := by decide +kernel
theorem dX11_rotaYear_25 : decode cX11_rotaYear 25 = .ok (.iload 4, 2) := by decide +kernel
theorem dX11_rotaYear_27 : decode cX11_rotaYear 27 = .ok (.iadd, 1) := by decide +kernel
theorem dX11_rotaYear_28 : decode cX11_rotaYear 28 = .ok (.aload_n 0, 1) := by decide +kernel
theorem dX11_rotaYear_29 : decode cX11_rotaYear 29 = .ok (.getfield 41, 3) := by decide +kernel
theorem dX11_rotaYear_32 : decode cX11_rotaYear 32 = .ok (.iload_n 2, 1) := by decide +kernel
theorem dX11_rotaYear_33 : decode cX11_rotaYear 33 = .ok (.iload_n 1, 1) := by decide +kernel
theorem dX11_rotaYear_34 : decode cX11_rotaYear 34 = .ok (.iload 4, 2) := by decide +kernel
theorem dX11_rotaYear_36 : decode cX11_rotaYear 36 = .ok (.iadd, 1) := by decide +kernel
theorem dX11_rotaYear_37 : decode cX11_rotaYear 37 = .ok (.iload_n 3, 1) := by decide +kernel
theorem dX11_rotaYear_38 : decode cX11_rotaYear 38 = .ok (.irem, 1) := by decide +kernel
theorem dX11_rotaYear_39 : decode cX11_rotaYear 39 = .ok (.iadd, 1) := by decide +kernel
theorem dX11_rotaYear_40 : decode cX11_rotaYear 40 = .ok (.laload, 1) := by decide +kernel
theorem dX11_rotaYear_41 : decode cX11_rotaYear 41 = .ok (.l2i, 1) := by decide +kernel
theorem dX11_rotaYear_42 : decode cX11_rotaYear 42 = .ok (.iastore, 1) := by decide +kernel
theorem dX11_rotaYear_43 : decode cX11_rotaYear 43 = .ok (.aload_n 0, 1) := by decide +kernel
theorem dX11_rotaYear_44 : decode cX11_rotaYear 44 = .ok (.getfield 48, 3) := by decide +kernel
theorem dX11_rotaYear_47 : decode cX11_rotaYear 47 = .ok (.bipush 24, 2) := by decide +kernel
theorem dX11_rotaYear_49 : decode cX11_rotaYear 49 = .ok (.iload_n 1, 1) := by decide +kernel
theorem dX11_rotaYear_50 : decode cX11_rotaYear 50 = .ok (.imul, 1) := by decide +kernel
theorem dX11_rotaYear_51 : decode cX11_rotaYear 51 = .ok (.bipush 30, 2) := by decide +kernel
theorem dX11_rotaYear_53 : decode cX11_rotaYear 53 = .ok (.iadd, 1) := by decide +kernel
theorem dX11_rotaYear_54 : decode cX11_rotaYear 54 = .ok (.iload 4, 2) := by decide +kernel
theorem dX11_rotaYear_56 : decode cX11_rotaYear 56 = .ok (.iadd, 1) := by decide +kernel
theorem dX11_rotaYear_57 : decode cX11_rotaYear 57 = .ok (.aload_n 0, 1) := by decide +kernel
theorem dX11_rotaYear_58 : decode cX11_rotaYear 58 = .ok (.getfield 48, 3) := by decide +kernel
theorem dX11_rotaYear_61 : decode cX11_rotaYear 61 = .ok (.bipush 24, 2) := by decide +kernel
theorem dX11_rotaYear_63 : decode cX11_rotaYear 63 = .ok (.iload_n 1, 1) := by decide +kernel
theorem dX11_rotaYear_64 : decode cX11_rotaYear 64 = .ok (.imul, 1) := by decide +kernel
theorem dX11_rotaYear_65 : decode cX11_rotaYear 65 = .ok (.iload 4, 2) := by decide +kernel
theorem dX11_rotaYear_67 : decode cX11_rotaYear 67 = .ok (.iadd, 1) := by decide +kernel
theorem dX11_rotaYear_68 : decode cX11_rotaYear 68 = .ok (.iaload, 1) := by decide +kernel
theorem dX11_rotaYear_69 : decode cX11_rotaYear 69 = .ok (.iastore, 1) := by decide +kernel
theorem dX11_rotaYear_70 : decode cX11_rotaYear 70 = .ok (.aload_n 0, 1) := by decide +kernel
theorem dX11_rotaYear_71 : decode cX11_rotaYear 71 = .ok (.getfield 48, 3) := by decide +kernel
theorem dX11_rotaYear_74 : decode cX11_rotaYear 74 = .ok (.bipush 24, 2) := by decide +kernel
theorem dX11_rotaYear_76 : decode cX11_rotaYear 76 = .ok (.iload_n 1, 1) := by decide +kernel
theorem dX11_rotaYear_77 : decode cX11_rotaYear 77 = .ok (.imul, 1) := by decide +kernel
theorem dX11_rotaYear_78 : decode cX11_rotaYear 78 = .ok (.bipush 36, 2) := by decide +kernel
theorem dX11_rotaYear_80 : decode cX11_rotaYear 80 = .ok (.iadd, 1) := by decide +kernel
theorem dX11_rotaYear_81 : decode cX11_rotaYear 81 = .ok (.iload 4, 2) := by decide +kernel
theorem dX11_rotaYear_83 : decode cX11_rotaYear 83 = .ok (.iadd, 1) := by decide +kernel
theorem dX11_rotaYear_84 : decode cX11_rotaYear 84 = .ok (.iconst 0, 1) := by decide +kernel
theorem dX11_rotaYear_85 : decode cX11_rotaYear 85 = .ok (.iastore, 1) := by decide +kernel
theorem dX11_rotaYear_86 : decode cX11_rotaYear 86 = .ok (.aload_n 0, 1) := by decide +kernel
theorem dX11_rotaYear_87 : decode cX11_rotaYear 87 = .ok (.getfield 48, 3) := by decide +kernel
theorem dX11_rotaYear_90 : decode cX11_rotaYear 90 = .ok (.bipush 24, 2) := by decide +kernel
theorem dX11_rotaYear_92 : decode cX11_rotaYear 92 = .ok (.iload_n 1, 1) := by decide +kernel
theorem dX11_rotaYear_93 : decode cX11_rotaYear 93 = .ok (.imul, 1) := by decide +kernel
theorem dX11_rotaYear_94 : decode cX11_rotaYear 94 = .ok (.bipush 42, 2) := by decide +kernel
theorem dX11_rotaYear_96 : decode cX11_rotaYear 96 = .ok (.iadd, 1) := by decide +kernel
theorem dX11_rotaYear_97 : decode cX11_rotaYear 97 = .ok (.iload 4, 2) := by decide +kernel
theorem dX11_rotaYear_99 : decode cX11_rotaYear 99 = .ok (.iadd, 1) := by decide +kernel
theorem dX11_rotaYear_100 : decode cX11_rotaYear 100 = .ok (.aload_n 0, 1) := by decide +kernel
theorem dX11_rotaYear_101 : decode cX11_rotaYear 101 = .ok (.getfield 48, 3) := by decide +kernel
theorem dX11_rotaYear_104 : decode cX11_rotaYear 104 = .ok (.bipush 24, 2) := by decide +kernel
theorem dX11_rotaYear_106 : decode cX11_rotaYear 106 = .ok (.iload_n 1, 1) := by decide +kernel
theorem dX11_rotaYear_107 : decode cX11_rotaYear 107 = .ok (.imul, 1) := by decide +kernel
theorem dX11_rotaYear_108 : decode cX11_rotaYear 108 = .ok (.bipush 12, 2) := by decide +kernel
theorem dX11_rotaYear_110 : decode cX11_rotaYear 110 = .ok (.iadd, 1) := by decide +kernel
theorem dX11_rotaYear_111 : decode cX11_rotaYear 111 = .ok (.iload 4, 2) := by decide +kernel
theorem dX11_rotaYear_113 : decode cX11_rotaYear 113 = .ok (.iadd, 1) := by decide +kernel
theorem dX11_rotaYear_114 : decode cX11_rotaYear 114 = .ok (.iaload, 1) := by decide +kernel
theorem dX11_rotaYear_115 : decode cX11_rotaYear 115 = .ok (.iastore, 1) := by decide +kernel
theorem dX11_rotaYear_116 : decode cX11_rotaYear 116 = .ok (.iinc 4 1, 3) := by decide +kernel
theorem dX11_rotaYear_119 : decode cX11_rotaYear 119 = .ok (.goto (-116), 3) := by decide +kernel
theorem dX11_rotaYear_122 : decode cX11_rotaYear 122 = .ok (.return_, 1) := by decide +kernel
theorem dX11_valueBehind_0 : decode cX11_valueBehind 0 = .ok (.iconst 0, 1) := by decide +kernel
theorem dX11_valueBehind_1 : decode cX11_valueBehind 1 = .ok (.istore_n 2, 1) := by decide +kernel
theorem dX11_valueBehind_2 : decode cX11_valueBehind 2 = .ok (.iconst 0, 1) := by decide +kernel
theorem dX11_valueBehind_3 : decode cX11_valueBehind 3 = .ok (.istore_n 3, 1) := by decide +kernel
theorem dX11_valueBehind_4 : decode cX11_valueBehind 4 = .ok (.iload_n 3, 1) := by decide +kernel
theorem dX11_valueBehind_5 : decode cX11_valueBehind 5 = .ok (.aload_n 0, 1) := by decide +kernel
theorem dX11_valueBehind_6 : decode cX11_valueBehind 6 = .ok (.getfield 7, 3) := by decide +kernel
theorem dX11_valueBehind_9 : decode cX11_valueBehind 9 = .ok (.iconst 0, 1) := by decide +kernel
theorem dX11_valueBehind_10 : decode cX11_valueBehind 10 = .ok (.iaload, 1) := by decide +kernel
theorem dX11_valueBehind_11 : decode cX11_valueBehind 11 = .ok (.if_icmp .ge 106, 3) := by decide +kernel
theorem dX11_valueBehind_14 : decode cX11_valueBehind 14 = .ok (.iconst 0, 1) := by decide +kernel
theorem dX11_valueBehind_15 : decode cX11_valueBehind 15 = .ok (.istore 4, 2) := by decide +kernel
theorem dX11_valueBehind_17 : decode cX11_valueBehind 17 = .ok (.iload 4, 2) := by decide +kernel
theorem dX11_valueBehind_19 : decode cX11_valueBehind 19 = .ok (.bipush 10, 2) := by decide +kernel
theorem dX11_valueBehind_21 : decode cX11_valueBehind 21 = .ok (.if_icmp .ge 90, 3) := by decide +kernel
theorem dX11_valueBehind_24 : decode cX11_valueBehind 24 = .ok (.iload_n 2, 1) := by decide +kernel
theorem dX11_valueBehind_25 : decode cX11_valueBehind 25 = .ok (.aload_n 0, 1) := by decide +kernel
theorem dX11_valueBehind_26 : decode cX11_valueBehind 26 = .ok (.getfield 7, 3) := by decide +kernel
theorem dX11_valueBehind_29 : decode cX11_valueBehind 29 = .ok (.bipush 64, 2) := by decide +kernel
theorem dX11_valueBehind_31 : decode cX11_valueBehind 31 = .ok (.iload 4, 2) := by decide +kernel
theorem dX11_valueBehind_33 : decode cX11_valueBehind 33 = .ok (.iadd, 1) := by decide +kernel
theorem dX11_valueBehind_34 : decode cX11_valueBehind 34 = .ok (.iaload, 1) := by decide +kernel
theorem dX11_valueBehind_35 : decode cX11_valueBehind 35 = .ok (.aload_n 0, 1) := by decide +kernel
theorem dX11_valueBehind_36 : decode cX11_valueBehind 36 = .ok (.aload_n 0, 1) := by decide +kernel
theorem dX11_valueBehind_37 : decode cX11_valueBehind 37 = .ok (.getfield 7, 3) := by decide +kernel
theorem dX11_valueBehind_40 : decode cX11_valueBehind 40 = .ok (.iconst 1, 1) := by decide +kernel
theorem dX11_valueBehind_41 : decode cX11_valueBehind 41 = .ok (.iload_n 3, 1) := by decide +kernel
theorem dX11_valueBehind_42 : decode cX11_valueBehind 42 = .ok (.iadd, 1) := by decide +kernel
theorem dX11_valueBehind_43 : decode cX11_valueBehind 43 = .ok (.iaload, 1) := by decide +kernel
theorem dX11_valueBehind_44 : decode cX11_valueBehind 44 = .ok (.iload 4, 2) := by decide +kernel
theorem dX11_valueBehind_46 : decode cX11_valueBehind 46 = .ok (.aload_n 0, 1) := by decide +kernel
theorem dX11_valueBehind_47 : decode cX11_valueBehind 47 = .ok (.getfield 48, 3) := by decide +kernel
theorem dX11_valueBehind_50 : decode cX11_valueBehind 50 = .ok (.bipush 24, 2) := by decide +kernel
theorem dX11_valueBehind_52 : decode cX11_valueBehind 52 = .ok (.iload_n 1, 1) := by decide +kernel
theorem dX11_valueBehind_53 : decode cX11_valueBehind 53 = .ok (.imul, 1) := by decide +kernel
theorem dX11_valueBehind_54 : decode cX11_valueBehind 54 = .ok (.iload_n 3, 1) := by decide +kernel
theorem dX11_valueBehind_55 : decode cX11_valueBehind 55 = .ok (.iadd, 1) := by decide +kernel
theorem dX11_valueBehind_56 : decode cX11_valueBehind 56 = .ok (.iaload, 1) := by decide +kernel
theorem dX11_valueBehind_57 : decode cX11_valueBehind 57 = .ok (.aload_n 0, 1) := by decide +kernel
theorem dX11_valueBehind_58 : decode cX11_valueBehind 58 = .ok (.getfield 48, 3) := by decide +kernel
theorem dX11_valueBehind_61 : decode cX11_valueBehind 61 = .ok (.bipush 24, 2) := by decide +kernel
theorem dX11_valueBehind_63 : decode cX11_valueBehind 63 = .ok (.iload_n 1, 1) := by decide +kernel
theorem dX11_valueBehind_64 : decode cX11_valueBehind 64 = .ok (.imul, 1) := by decide +kernel
theorem dX11_valueBehind_65 : decode cX11_valueBehind 65 = .ok (.bipush 12, 2) := by decide +kernel
theorem dX11_valueBehind_67 : decode cX11_valueBehind 67 = .ok (.iadd, 1) := by decide +kernel
theorem dX11_valueBehind_68 : decode cX11_valueBehind 68 = .ok (.iload_n 3, 1) := by decide +kernel
theorem dX11_valueBehind_69 : decode cX11_valueBehind 69 = .ok (.iadd, 1) := by decide +kernel
theorem dX11_valueBehind_70 : decode cX11_valueBehind 70 = .ok (.iaload, 1) := by decide +kernel
theorem dX11_valueBehind_71 : decode cX11_valueBehind 71 = .ok (.aload_n 0, 1) := by decide +kernel
theorem dX11_valueBehind_72 : decode cX11_valueBehind 72 = .ok (.getfield 48, 3) := by decide +kernel
theorem dX11_valueBehind_75 : decode cX11_valueBehind 75 = .ok (.bipush 24, 2) := by decide +kernel
theorem dX11_valueBehind_77 : decode cX11_valueBehind 77 = .ok (.iload_n 1, 1) := by decide +kernel
theorem dX11_valueBehind_78 : decode cX11_valueBehind 78 = .ok (.imul, 1) := by decide +kernel
theorem dX11_valueBehind_79 : decode cX11_valueBehind 79 = .ok (.bipush 6, 2) := by decide +kernel
theorem dX11_valueBehind_81 : decode cX11_valueBehind 81 = .ok (.iadd, 1) := by decide +kernel
theorem dX11_valueBehind_82 : decode cX11_valueBehind 82 = .ok (.iload_n 3, 1) := by decide +kernel
theorem dX11_valueBehind_83 : decode cX11_valueBehind 83 = .ok (.iadd, 1) := by decide +kernel
theorem dX11_valueBehind_84 : decode cX11_valueBehind 84 = .ok (.iaload, 1) := by decide +kernel
theorem dX11_valueBehind_85 : decode cX11_valueBehind 85 = .ok (.aload_n 0, 1) := by decide +kernel
theorem dX11_valueBehind_86 : decode cX11_valueBehind 86 = .ok (.getfield 48, 3) := by decide +kernel
theorem dX11_valueBehind_89 : decode cX11_valueBehind 89 = .ok (.bipush 24, 2) := by decide +kernel
theorem dX11_valueBehind_91 : decode cX11_valueBehind 91 = .ok (.iload_n 1, 1) := by decide +kernel
theorem dX11_valueBehind_92 : decode cX11_valueBehind 92 = .ok (.imul, 1) := by decide +kernel
theorem dX11_valueBehind_93 : decode cX11_valueBehind 93 = .ok (.bipush 18, 2) := by decide +kernel
theorem dX11_valueBehind_95 : decode cX11_valueBehind 95 = .ok (.iadd, 1) := by decide +kernel
theorem dX11_valueBehind_96 : decode cX11_valueBehind 96 = .ok (.iload_n 3, 1) := by decide +kernel
theorem dX11_valueBehind_97 : decode cX11_valueBehind 97 = .ok (.iadd, 1) := by decide +kernel
theorem dX11_valueBehind_98 : decode cX11_valueBehind 98 = .ok (.iaload, 1) := by decide +kernel
theorem dX11_valueBehind_99 : decode cX11_valueBehind 99 = .ok (.invokevirtual 130, 3) := by decide +kernel
theorem dX11_valueBehind_102 : decode cX11_valueBehind 102 = .ok (.imul, 1) := by decide +kernel
theorem dX11_valueBehind_103 : decode cX11_valueBehind 103 = .ok (.iadd, 1) := by decide +kernel
theorem dX11_valueBehind_104 : decode cX11_valueBehind 104 = .ok (.istore_n 2, 1) := by decide +kernel
theorem dX11_valueBehind_105 : decode cX11_valueBehind 105 = .ok (.iinc 4 1, 3) := by decide +kernel
theorem dX11_valueBehind_108 : decode cX11_valueBehind 108 = .ok (.goto (-91), 3) := by decide +kernel
theorem dX11_valueBehind_111 : decode cX11_valueBehind 111 = .ok (.iinc 3 1, 3) := by decide +kernel
theorem dX11_valueBehind_114 : decode cX11_valueBehind 114 = .ok (.goto (-110), 3) := by decide +kernel
theorem dX11_valueBehind_117 : decode cX11_valueBehind 117 = .ok (.iload_n 2, 1) := by decide +kernel
theorem dX11_valueBehind_118 : decode cX11_valueBehind 118 = .ok (.ireturn, 1) := by decide +kernel
theorem dX11_rotaBars_0 : decode cX11_rotaBars 0 = .ok (.aload_n 0, 1) := by decide +kernel
theorem dX11_rotaBars_1 : decode cX11_rotaBars 1 = .ok (.iload_n 1, 1) := by decide +kernel
theorem dX11_rotaBars_2 : decode cX11_rotaBars 2 = .ok (.iload_n 2, 1) := by decide +kernel
theorem dX11_rotaBars_3 : decode cX11_rotaBars 3 = .ok (.iload_n 3, 1) := by decide +kernel
theorem dX11_rotaBars_4 : decode cX11_rotaBars 4 = .ok (.iload 4, 2) := by decide +kernel
theorem dX11_rotaBars_6 : decode cX11_rotaBars 6 = .ok (.invokevirtual 243, 3) := by decide +kernel
theorem dX11_rotaBars_9 : decode cX11_rotaBars 9 = .ok (.istore 5, 2) := by decide +kernel
theorem dX11_rotaBars_11 : decode cX11_rotaBars 11 = .ok (.iconst 0, 1) := by decide +kernel
theorem dX11_rotaBars_12 : decode cX11_rotaBars 12 = .ok (.istore 6, 2) := by decide +kernel
theorem dX11_rotaBars_14 : decode cX11_rotaBars 14 = .ok (.iload 6, 2) := by decide +kernel
theorem dX11_rotaBars_16 : decode cX11_rotaBars 16 = .ok (.iload 4, 2) := by decide +kernel
theorem dX11_rotaBars_18 : decode cX11_rotaBars 18 = .ok (.if_icmp .ge 61, 3) := by decide +kernel
theorem dX11_rotaBars_21 : decode cX11_rotaBars 21 = .ok (.iload 5, 2) := by decide +kernel
theorem dX11_rotaBars_23 : decode cX11_rotaBars 23 = .ok (.ifCond .ne 56, 3) := by decide +kernel
theorem dX11_rotaBars_26 : decode cX11_rotaBars 26 = .ok (.aload_n 0, 1) := by decide +kernel
theorem dX11_rotaBars_27 : decode cX11_rotaBars 27 = .ok (.iload_n 1, 1) := by decide +kernel
theorem dX11_rotaBars_28 : decode cX11_rotaBars 28 = .ok (.iload_n 3, 1) := by decide +kernel
theorem dX11_rotaBars_29 : decode cX11_rotaBars 29 = .ok (.iload 6, 2) := by decide +kernel
theorem dX11_rotaBars_31 : decode cX11_rotaBars 31 = .ok (.iadd, 1) := by decide +kernel
theorem dX11_rotaBars_32 : decode cX11_rotaBars 32 = .ok (.invokevirtual 233, 3) := by decide +kernel
theorem dX11_rotaBars_35 : decode cX11_rotaBars 35 = .ok (.lstore 7, 2) := by decide +kernel
theorem dX11_rotaBars_37 : decode cX11_rotaBars 37 = .ok (.lload 7, 2) := by decide +kernel
theorem dX11_rotaBars_39 : decode cX11_rotaBars 39 = .ok (.ldc2_w 252, 3) := by decide +kernel
theorem dX11_rotaBars_42 : decode cX11_rotaBars 42 = .ok (.lcmp, 1) := by decide +kernel
theorem dX11_rotaBars_43 : decode cX11_rotaBars 43 = .ok (.ifCond .eq 22, 3) := by decide +kernel
theorem dX11_rotaBars_46 : decode cX11_rotaBars 46 = .ok (.lload 7, 2) := by decide +kernel
theorem dX11_rotaBars_48 : decode cX11_rotaBars 48 = .ok (.lconst 0, 1) := by decide +kernel
theorem dX11_rotaBars_49 : decode cX11_rotaBars 49 = .ok (.aload_n 0, 1) := by decide +kernel
theorem dX11_rotaBars_50 : decode cX11_rotaBars 50 = .ok (.getfield 7, 3) := by decide +kernel
theorem dX11_rotaBars_53 : decode cX11_rotaBars 53 = .ok (.bipush 43, 2) := by decide +kernel
theorem dX11_rotaBars_55 : decode cX11_rotaBars 55 = .ok (.iaload, 1) := by decide +kernel
theorem dX11_rotaBars_56 : decode cX11_rotaBars 56 = .ok (.iconst 1, 1) := by decide +kernel
theorem dX11_rotaBars_57 : decode cX11_rotaBars 57 = .ok (.isub, 1) := by decide +kernel
theorem dX11_rotaBars_58 : decode cX11_rotaBars 58 = .ok (.i2l, 1) := by decide +kernel
theorem dX11_rotaBars_59 : decode cX11_rotaBars 59 = .ok (.invokestatic 51, 3) := by decide +kernel
theorem dX11_rotaBars_62 : decode cX11_rotaBars 62 = .ok (.ifCond .eq 7, 3) := by decide +kernel
theorem dX11_rotaBars_65 : decode cX11_rotaBars 65 = .ok (.iconst 0, 1) := by decide +kernel
theorem dX11_rotaBars_66 : decode cX11_rotaBars 66 = .ok (.goto 5, 3) := by decide +kernel
theorem dX11_rotaBars_69 : decode cX11_rotaBars 69 = .ok (.bipush (-2), 2) := by decide +kernel
theorem dX11_rotaBars_71 : decode cX11_rotaBars 71 = .ok (.istore 5, 2) := by decide +kernel
theorem dX11_rotaBars_73 : decode cX11_rotaBars 73 = .ok (.iinc 6 1, 3) := by decide +kernel
theorem dX11_rotaBars_76 : decode cX11_rotaBars 76 = .ok (.goto (-62), 3) := by decide +kernel
theorem dX11_rotaBars_79 : decode cX11_rotaBars 79 = .ok (.iload 5, 2) := by decide +kernel
theorem dX11_rotaBars_81 : decode cX11_rotaBars 81 = .ok (.ireturn, 1) := by decide +kernel
theorem dX11_earned_0 : decode cX11_earned 0 = .ok (.iload_n 1, 1) := by decide +kernel
theorem dX11_earned_1 : decode cX11_earned 1 = .ok (.invokestatic 237, 3) := by decide +kernel
theorem dX11_earned_4 : decode cX11_earned 4 = .ok (.ifCond .eq 36, 3) := by decide +kernel
theorem dX11_earned_7 : decode cX11_earned 7 = .ok (.iload_n 2, 1) := by decide +kernel
theorem dX11_earned_8 : decode cX11_earned 8 = .ok (.invokestatic 240, 3) := by decide +kernel
theorem dX11_earned_11 : decode cX11_earned 11 = .ok (.ifCond .eq 29, 3) := by decide +kernel
theorem dX11_earned_14 : decode cX11_earned 14 = .ok (.iload 4, 2) := by decide +kernel
theorem dX11_earned_16 : decode cX11_earned 16 = .ok (.i2l, 1) := by decide +kernel
theorem dX11_earned_17 : decode cX11_earned 17 = .ok (.lconst 1, 1) := by decide +kernel
theorem dX11_earned_18 : decode cX11_earned 18 = .ok (.ldc2_w 254, 3) := by decide +kernel
theorem dX11_earned_21 : decode cX11_earned 21 = .ok (.invokestatic 51, 3) := by decide +kernel
theorem dX11_earned_24 : decode cX11_earned 24 = .ok (.ifCond .eq 16, 3) := by decide +kernel
theorem dX11_earned_27 : decode cX11_earned 27 = .ok (.iload 5, 2) := by decide +kernel
theorem dX11_earned_29 : decode cX11_earned 29 = .ok (.i2l, 1) := by decide +kernel
theorem dX11_earned_30 : decode cX11_earned 30 = .ok (.lconst 0, 1) := by decide +kernel
theorem dX11_earned_31 : decode cX11_earned 31 = .ok (.ldc2_w 256, 3) := by decide +kernel
theorem dX11_earned_34 : decode cX11_earned 34 = .ok (.invokestatic 51, 3) := by decide +kernel
theorem dX11_earned_37 : decode cX11_earned 37 = .ok (.ifCond .ne 6, 3) := by decide +kernel
theorem dX11_earned_40 : decode cX11_earned 40 = .ok (.ldc 84, 2) := by decide +kernel
theorem dX11_earned_42 : decode cX11_earned 42 = .ok (.ireturn, 1) := by decide +kernel
theorem dX11_earned_43 : decode cX11_earned 43 = .ok (.aload_n 0, 1) := by decide +kernel
theorem dX11_earned_44 : decode cX11_earned 44 = .ok (.iload_n 1, 1) := by decide +kernel
theorem dX11_earned_45 : decode cX11_earned 45 = .ok (.iload_n 2, 1) := by decide +kernel
theorem dX11_earned_46 : decode cX11_earned 46 = .ok (.iload_n 3, 1) := by decide +kernel
theorem dX11_earned_47 : decode cX11_earned 47 = .ok (.iload 4, 2) := by decide +kernel
theorem dX11_earned_49 : decode cX11_earned 49 = .ok (.invokevirtual 258, 3) := by decide +kernel
theorem dX11_earned_52 : decode cX11_earned 52 = .ok (.istore 6, 2) := by decide +kernel
theorem dX11_earned_54 : decode cX11_earned 54 = .ok (.iload 6, 2) := by decide +kernel
theorem dX11_earned_56 : decode cX11_earned 56 = .ok (.ifCond .eq 10, 3) := by decide +kernel
theorem dX11_earned_59 : decode cX11_earned 59 = .ok (.iload 6, 2) := by decide +kernel
theorem dX11_earned_61 : decode cX11_earned 61 = .ok (.ldc_w 261, 3) := by decide +kernel
theorem dX11_earned_64 : decode cX11_earned 64 = .ok (.isub, 1) := by decide +kernel
theorem dX11_earned_65 : decode cX11_earned 65 = .ok (.ireturn, 1) := by decide +kernel
theorem dX11_earned_66 : decode cX11_earned 66 = .ok (.aload_n 0, 1) := by decide +kernel
theorem dX11_earned_67 : decode cX11_earned 67 = .ok (.iconst 0, 1) := by decide +kernel
theorem dX11_earned_68 : decode cX11_earned 68 = .ok (.invokevirtual 262, 3) := by decide +kernel
theorem dX11_earned_71 : decode cX11_earned 71 = .ok (.iconst 0, 1) := by decide +kernel
theorem dX11_earned_72 : decode cX11_earned 72 = .ok (.istore 7, 2) := by decide +kernel
theorem dX11_earned_74 : decode cX11_earned 74 = .ok (.iconst 0, 1) := by decide +kernel
theorem dX11_earned_75 : decode cX11_earned 75 = .ok (.istore 8, 2) := by decide +kernel
theorem dX11_earned_77 : decode cX11_earned 77 = .ok (.iload 8, 2) := by decide +kernel
theorem dX11_earned_79 : decode cX11_earned 79 = .ok (.iload 5, 2) := by decide +kernel
theorem dX11_earned_81 : decode cX11_earned 81 = .ok (.if_icmp .ge 36, 3) := by decide +kernel
theorem dX11_earned_84 : decode cX11_earned 84 = .ok (.aload_n 0, 1) := by decide +kernel
theorem dX11_earned_85 : decode cX11_earned 85 = .ok (.iload 8, 2) := by decide +kernel
theorem dX11_earned_87 : decode cX11_earned 87 = .ok (.bipush 16, 2) := by decide +kernel
theorem dX11_earned_89 : decode cX11_earned 89 = .ok (.iload_n 1, 1) := by decide +kernel
theorem dX11_earned_90 : decode cX11_earned 90 = .ok (.imul, 1) := by decide +kernel
theorem dX11_earned_91 : decode cX11_earned 91 = .ok (.iload_n 3, 1) := by decide +kernel
theorem dX11_earned_92 : decode cX11_earned 92 = .ok (.iadd, 1) := by decide +kernel
theorem dX11_earned_93 : decode cX11_earned 93 = .ok (.iload 4, 2) := by decide +kernel
theorem dX11_earned_95 : decode cX11_earned 95 = .ok (.invokevirtual 266, 3) := by decide +kernel
theorem dX11_earned_98 : decode cX11_earned 98 = .ok (.iload 7, 2) := by decide +kernel
theorem dX11_earned_100 : decode cX11_earned 100 = .ok (.aload_n 0, 1) := by decide +kernel
theorem dX11_earned_101 : decode cX11_earned 101 = .ok (.iload 8, 2) := by decide +kernel
theorem dX11_earned_103 : decode cX11_earned 103 = .ok (.iconst 1, 1) := by decide +kernel
theorem dX11_earned_104 : decode cX11_earned 104 = .ok (.iadd, 1) := by decide +kernel
theorem dX11_earned_105 : decode cX11_earned 105 = .ok (.invokevirtual 270, 3) := by decide +kernel
theorem dX11_earned_108 : decode cX11_earned 108 = .ok (.iadd, 1) := by decide +kernel
theorem dX11_earned_109 : decode cX11_earned 109 = .ok (.istore 7, 2) := by decide +kernel
theorem dX11_earned_111 : decode cX11_earned 111 = .ok (.iinc 8 1, 3) := by decide +kernel
theorem dX11_earned_114 : decode cX11_earned 114 = .ok (.goto (-37), 3) := by decide +kernel
theorem dX11_earned_117 : decode cX11_earned 117 = .ok (.iload 7, 2) := by decide +kernel
theorem dX11_earned_119 : decode cX11_earned 119 = .ok (.ireturn, 1) := by decide +kernel
theorem dX11_areAlike_0 : decode cX11_areAlike 0 = .ok (.iconst 1, 1) := by decide +kernel
theorem dX11_areAlike_1 : decode cX11_areAlike 1 = .ok (.istore_n 3, 1) := by decide +kernel
theorem dX11_areAlike_2 : decode cX11_areAlike 2 = .ok (.iconst 0, 1) := by decide +kernel
theorem dX11_areAlike_3 : decode cX11_areAlike 3 = .ok (.istore 4, 2) := by decide +kernel
theorem dX11_areAlike_5 : decode cX11_areAlike 5 = .ok (.iload 4, 2) := by decide +kernel
theorem dX11_areAlike_7 : decode cX11_areAlike 7 = .ok (.aload_n 0, 1) := by decide +kernel
theorem dX11_areAlike_8 : decode cX11_areAlike 8 = .ok (.getfield 7, 3) := by decide +kernel
theorem dX11_areAlike_11 : decode cX11_areAlike 11 = .ok (.iconst 0, 1) := by decide +kernel
theorem dX11_areAlike_12 : decode cX11_areAlike 12 = .ok (.iaload, 1) := by decide +kernel
theorem dX11_areAlike_13 : decode cX11_areAlike 13 = .ok (.if_icmp .ge 73, 3) := by decide +kernel
theorem dX11_areAlike_16 : decode cX11_areAlike 16 = .ok (.iconst 0, 1) := by decide +kernel
theorem dX11_areAlike_17 : decode cX11_areAlike 17 = .ok (.istore 5, 2) := by decide +kernel
theorem dX11_areAlike_19 : decode cX11_areAlike 19 = .ok (.iload 5, 2) := by decide +kernel
theorem dX11_areAlike_21 : decode cX11_areAlike 21 = .ok (.iconst 4, 1) := by decide +kernel
theorem dX11_areAlike_22 : decode cX11_areAlike 22 = .ok (.if_icmp .ge 58, 3) := by decide +kernel
theorem dX11_areAlike_25 : decode cX11_areAlike 25 = .ok (.iload_n 3, 1) := by decide +kernel
theorem dX11_areAlike_26 : decode cX11_areAlike 26 = .ok (.ifCond .eq 46, 3) := by decide +kernel
theorem dX11_areAlike_29 : decode cX11_areAlike 29 = .ok (.aload_n 0, 1) := by decide +kernel
theorem dX11_areAlike_30 : decode cX11_areAlike 30 = .ok (.getfield 48, 3) := by decide +kernel
theorem dX11_areAlike_33 : decode cX11_areAlike 33 = .ok (.bipush 24, 2) := by decide +kernel
theorem dX11_areAlike_35 : decode cX11_areAlike 35 = .ok (.iload_n 1, 1) := by decide +kernel
theorem dX11_areAlike_36 : decode cX11_areAlike 36 = .ok (.imul, 1) := by decide +kernel
theorem dX11_areAlike_37 : decode cX11_areAlike 37 = .ok (.bipush 6, 2) := by decide +kernel
theorem dX11_areAlike_39 : decode cX11_areAlike 39 = .ok (.iload 5, 2) := by decide +kernel
theorem dX11_areAlike_41 : decode cX11_areAlike 41 = .ok (.imul, 1) := by decide +kernel
theorem dX11_areAlike_42 : decode cX11_areAlike 42 = .ok (.iadd, 1) := by decide +kernel
theorem dX11_areAlike_43 : decode cX11_areAlike 43 = .ok (.iload 4, 2) := by decide +kernel
theorem dX11_areAlike_45 : decode cX11_areAlike 45 = .ok (.iadd, 1) := by decide +kernel
theorem dX11_areAlike_46 : decode cX11_areAlike 46 = .ok (.iaload, 1) := by decide +kernel
theorem dX11_areAlike_47 : decode cX11_areAlike 47 = .ok (.aload_n 0, 1) := by decide +kernel
theorem dX11_areAlike_48 : decode cX11_areAlike 48 = .ok (.getfield 48, 3) := by decide +kernel
theorem dX11_areAlike_51 : decode cX11_areAlike 51 = .ok (.bipush 24, 2) := by decide +kernel
theorem dX11_areAlike_53 : decode cX11_areAlike 53 = .ok (.iload_n 2, 1) := by decide +kernel
theorem dX11_areAlike_54 : decode cX11_areAlike 54 = .ok (.imul, 1) := by decide +kernel
theorem dX11_areAlike_55 : decode cX11_areAlike 55 = .ok (.bipush 6, 2) := by decide +kernel
theorem dX11_areAlike_57 : decode cX11_areAlike 57 = .ok (.iload 5, 2) := by decide +kernel
theorem dX11_areAlike_59 : decode cX11_areAlike 59 = .ok (.imul, 1) := by decide +kernel
theorem dX11_areAlike_60 : decode cX11_areAlike 60 = .ok (.iadd, 1) := by decide +kernel
theorem dX11_areAlike_61 : decode cX11_areAlike 61 = .ok (.iload 4, 2) := by decide +kernel
theorem dX11_areAlike_63 : decode cX11_areAlike 63 = .ok (.iadd, 1) := by decide +kernel
theorem dX11_areAlike_64 : decode cX11_areAlike 64 = .ok (.iaload, 1) := by decide +kernel
theorem dX11_areAlike_65 : decode cX11_areAlike 65 = .ok (.if_icmp .ne 7, 3) := by decide +kernel
theorem dX11_areAlike_68 : decode cX11_areAlike 68 = .ok (.iconst 1, 1) := by decide +kernel
theorem dX11_areAlike_69 : decode cX11_areAlike 69 = .ok (.goto 4, 3) := by decide +kernel
theorem dX11_areAlike_72 : decode cX11_areAlike 72 = .ok (.iconst 0, 1) := by decide +kernel
theorem dX11_areAlike_73 : decode cX11_areAlike 73 = .ok (.istore_n 3, 1) := by decide +kernel
theorem dX11_areAlike_74 : decode cX11_areAlike 74 = .ok (.iinc 5 1, 3) := by decide +kernel
theorem dX11_areAlike_77 : decode cX11_areAlike 77 = .ok (.goto (-58), 3) := by decide +kernel
theorem dX11_areAlike_80 : decode cX11_areAlike 80 = .ok (.iinc 4 1, 3) := by decide +kernel
theorem dX11_areAlike_83 : decode cX11_areAlike 83 = .ok (.goto (-78), 3) := by decide +kernel
theorem dX11_areAlike_86 : decode cX11_areAlike 86 = .ok (.iload_n 3, 1) := by decide +kernel
theorem dX11_areAlike_87 : decode cX11_areAlike 87 = .ok (.ireturn, 1) := by decide +kernel
theorem dX11_again_0 : decode cX11_again 0 = .ok (.iload_n 1, 1) := by decide +kernel
theorem dX11_again_1 : decode cX11_again 1 = .ok (.invokestatic 237, 3) := by decide +kernel
theorem dX11_again_4 : decode cX11_again 4 = .ok (.ifCond .eq 34, 3) := by decide +kernel
theorem dX11_again_7 : decode cX11_again 7 = .ok (.iload_n 2, 1) := by decide +kernel
theorem dX11_again_8 : decode cX11_again 8 = .ok (.invokestatic 240, 3) := by decide +kernel
theorem dX11_again_11 : decode cX11_again 11 = .ok (.ifCond .eq 27, 3) := by decide +kernel
theorem dX11_again_14 : decode cX11_again 14 = .ok (.iload 4, 2) := by decide +kernel
theorem dX11_again_16 : decode cX11_again 16 = .ok (.i2l, 1) := by decide +kernel
theorem dX11_again_17 : decode cX11_again 17 = .ok (.lconst 1, 1) := by decide +kernel
theorem dX11_again_18 : decode cX11_again 18 = .ok (.ldc2_w 254, 3) := by decide +kernel
theorem dX11_again_21 : decode cX11_again 21 = .ok (.invokestatic 51, 3) := by decide +kernel
theorem dX11_again_24 : decode cX11_again 24 = .ok (.ifCond .eq 14, 3) := by decide +kernel
theorem dX11_again_27 : decode cX11_again 27 = .ok (.iload 5, 2) := by decide +kernel
theorem dX11_again_29 : decode cX11_again 29 = .ok (.i2l, 1) := by decide +kernel
theorem dX11_again_30 : decode cX11_again 30 = .ok (.lconst 0, 1) := by decide +kernel
theorem dX11_again_31 : decode cX11_again 31 = .ok (.lconst 1, 1) := by decide +kernel
theorem dX11_again_32 : decode cX11_again 32 = .ok (.invokestatic 51, 3) := by decide +kernel
theorem dX11_again_35 : decode cX11_again 35 = .ok (.ifCond .ne 5, 3) := by decide +kernel
theorem dX11_again_38 : decode cX11_again 38 = .ok (.iconst (-1), 1) := by decide +kernel
theorem dX11_again_39 : decode cX11_again 39 = .ok (.ireturn, 1) := by decide +kernel
theorem dX11_again_40 : decode cX11_again 40 = .ok (.aload_n 0, 1) := by decide +kernel
theorem dX11_again_41 : decode cX11_again 41 = .ok (.iload_n 1, 1) := by decide +kernel
theorem dX11_again_42 : decode cX11_again 42 = .ok (.iload_n 2, 1) := by decide +kernel
theorem dX11_again_43 : decode cX11_again 43 = .ok (.iload_n 3, 1) := by decide +kernel
theorem dX11_again_44 : decode cX11_again 44 = .ok (.iload 4, 2) := by decide +kernel
theorem dX11_again_46 : decode cX11_again 46 = .ok (.invokevirtual 258, 3) := by decide +kernel
theorem dX11_again_49 : decode cX11_again 49 = .ok (.istore 6, 2) := by decide +kernel
theorem dX11_again_51 : decode cX11_again 51 = .ok (.iload 6, 2) := by decide +kernel
theorem dX11_again_53 : decode cX11_again 53 = .ok (.ifCond .eq 6, 3) := by decide +kernel
theorem dX11_again_56 : decode cX11_again 56 = .ok (.iload 6, 2) := by decide +kernel
theorem dX11_again_58 : decode cX11_again 58 = .ok (.ireturn, 1) := by decide +kernel
theorem dX11_again_59 : decode cX11_again 59 = .ok (.aload_n 0, 1) := by decide +kernel
theorem dX11_again_60 : decode cX11_again 60 = .ok (.iconst 0, 1) := by decide +kernel
theorem dX11_again_61 : decode cX11_again 61 = .ok (.invokevirtual 262, 3) := by decide +kernel
theorem dX11_again_64 : decode cX11_again 64 = .ok (.iconst 1, 1) := by decide +kernel
theorem dX11_again_65 : decode cX11_again 65 = .ok (.istore 7, 2) := by decide +kernel
theorem dX11_again_67 : decode cX11_again 67 = .ok (.iload 7, 2) := by decide +kernel
theorem dX11_again_69 : decode cX11_again 69 = .ok (.sipush 200, 3) := by decide +kernel
theorem dX11_again_72 : decode cX11_again 72 = .ok (.if_icmp .gt 73, 3) := by decide +kernel
theorem dX11_again_75 : decode cX11_again 75 = .ok (.aload_n 0, 1) := by decide +kernel
theorem dX11_again_76 : decode cX11_again 76 = .ok (.iload 7, 2) := by decide +kernel
theorem dX11_again_78 : decode cX11_again 78 = .ok (.iconst 1, 1) := by decide +kernel
theorem dX11_again_79 : decode cX11_again 79 = .ok (.isub, 1) := by decide +kernel
theorem dX11_again_80 : decode cX11_again 80 = .ok (.bipush 16, 2) := by decide +kernel
theorem dX11_again_82 : decode cX11_again 82 = .ok (.iload_n 1, 1) := by decide +kernel
theorem dX11_again_83 : decode cX11_again 83 = .ok (.imul, 1) := by decide +kernel
theorem dX11_again_84 : decode cX11_again 84 = .ok (.iload_n 3, 1) := by decide +kernel
theorem dX11_again_85 : decode cX11_again 85 = .ok (.iadd, 1) := by decide +kernel
theorem dX11_again_86 : decode cX11_again 86 = .ok (.iload 4, 2) := by decide +kernel
theorem dX11_again_88 : decode cX11_again 88 = .ok (.invokevirtual 266, 3) := by decide +kernel
theorem dX11_again_91 : decode cX11_again 91 = .ok (.iload 4, 2) := by decide +kernel
theorem dX11_again_93 : decode cX11_again 93 = .ok (.istore 8, 2) := by decide +kernel
theorem dX11_again_95 : decode cX11_again 95 = .ok (.iload 8, 2) := by decide +kernel
theorem dX11_again_97 : decode cX11_again 97 = .ok (.iload 7, 2) := by decide +kernel
theorem dX11_again_99 : decode cX11_again 99 = .ok (.if_icmp .gt 40, 3) := by decide +kernel
theorem dX11_again_102 : decode cX11_again 102 = .ok (.aload_n 0, 1) := by decide +kernel
theorem dX11_again_103 : decode cX11_again 103 = .ok (.iload 7, 2) := by decide +kernel
end
section
theorem dX11_again_105 : decode cX11_again 105 = .ok (.iload 7, 2) := by decide +kernel
theorem dX11_again_107 : decode cX11_again 107 = .ok (.iload 8, 2) := by decide +kernel
theorem dX11_again_109 : decode cX11_again 109 = .ok (.isub, 1) := by decide +kernel
theorem dX11_again_110 : decode cX11_again 110 = .ok (.invokevirtual 273, 3) := by decide +kernel
theorem dX11_again_113 : decode cX11_again 113 = .ok (.ifCond .eq 16, 3) := by decide +kernel
theorem dX11_again_116 : decode cX11_again 116 = .ok (.iload 5, 2) := by decide +kernel
theorem dX11_again_118 : decode cX11_again 118 = .ok (.ifCond .ne 8, 3) := by decide +kernel
theorem dX11_again_121 : decode cX11_again 121 = .ok (.iload 7, 2) := by decide +kernel
theorem dX11_again_123 : decode cX11_again 123 = .ok (.goto 5, 3) := by decide +kernel
theorem dX11_again_126 : decode cX11_again 126 = .ok (.iload 8, 2) := by decide +kernel
theorem dX11_again_128 : decode cX11_again 128 = .ok (.ireturn, 1) := by decide +kernel
theorem dX11_again_129 : decode cX11_again 129 = .ok (.iload 8, 2) := by decide +kernel
theorem dX11_again_131 : decode cX11_again 131 = .ok (.iload 4, 2) := by decide +kernel
theorem dX11_again_133 : decode cX11_again 133 = .ok (.iadd, 1) := by decide +kernel
theorem dX11_again_134 : decode cX11_again 134 = .ok (.istore 8, 2) := by decide +kernel
theorem dX11_again_136 : decode cX11_again 136 = .ok (.goto (-41), 3) := by decide +kernel
theorem dX11_again_139 : decode cX11_again 139 = .ok (.iinc 7 1, 3) := by decide +kernel
theorem dX11_again_142 : decode cX11_again 142 = .ok (.goto (-75), 3) := by decide +kernel
theorem dX11_again_145 : decode cX11_again 145 = .ok (.bipush (-4), 2) := by decide +kernel
theorem dX11_again_147 : decode cX11_again 147 = .ok (.ireturn, 1) := by decide +kernel
theorem dX11_film_0 : decode cX11_film 0 = .ok (.iload_n 1, 1) := by decide +kernel
theorem dX11_film_1 : decode cX11_film 1 = .ok (.invokestatic 237, 3) := by decide +kernel
theorem dX11_film_4 : decode cX11_film 4 = .ok (.ifCond .eq 10, 3) := by decide +kernel
theorem dX11_film_7 : decode cX11_film 7 = .ok (.iload_n 2, 1) := by decide +kernel
theorem dX11_film_8 : decode cX11_film 8 = .ok (.invokestatic 240, 3) := by decide +kernel
theorem dX11_film_11 : decode cX11_film 11 = .ok (.ifCond .ne 5, 3) := by decide +kernel
theorem dX11_film_14 : decode cX11_film 14 = .ok (.iconst (-1), 1) := by decide +kernel
theorem dX11_film_15 : decode cX11_film 15 = .ok (.ireturn, 1) := by decide +kernel
theorem dX11_film_16 : decode cX11_film 16 = .ok (.aload_n 0, 1) := by decide +kernel
theorem dX11_film_17 : decode cX11_film 17 = .ok (.iload_n 1, 1) := by decide +kernel
theorem dX11_film_18 : decode cX11_film 18 = .ok (.iload_n 2, 1) := by decide +kernel
theorem dX11_film_19 : decode cX11_film 19 = .ok (.iload_n 3, 1) := by decide +kernel
theorem dX11_film_20 : decode cX11_film 20 = .ok (.bipush 10, 2) := by decide +kernel
theorem dX11_film_22 : decode cX11_film 22 = .ok (.invokevirtual 243, 3) := by decide +kernel
theorem dX11_film_25 : decode cX11_film 25 = .ok (.istore 4, 2) := by decide +kernel
theorem dX11_film_27 : decode cX11_film 27 = .ok (.iload 4, 2) := by decide +kernel
theorem dX11_film_29 : decode cX11_film 29 = .ok (.ifCond .eq 6, 3) := by decide +kernel
theorem dX11_film_32 : decode cX11_film 32 = .ok (.iload 4, 2) := by decide +kernel
theorem dX11_film_34 : decode cX11_film 34 = .ok (.ireturn, 1) := by decide +kernel
theorem dX11_film_35 : decode cX11_film 35 = .ok (.iconst 0, 1) := by decide +kernel
theorem dX11_film_36 : decode cX11_film 36 = .ok (.istore 5, 2) := by decide +kernel
theorem dX11_film_38 : decode cX11_film 38 = .ok (.iload 5, 2) := by decide +kernel
theorem dX11_film_40 : decode cX11_film 40 = .ok (.bipush 10, 2) := by decide +kernel
theorem dX11_film_42 : decode cX11_film 42 = .ok (.if_icmp .ge 31, 3) := by decide +kernel
theorem dX11_film_45 : decode cX11_film 45 = .ok (.aload_n 0, 1) := by decide +kernel
theorem dX11_film_46 : decode cX11_film 46 = .ok (.getfield 41, 3) := by decide +kernel
theorem dX11_film_49 : decode cX11_film 49 = .ok (.bipush 16, 2) := by decide +kernel
theorem dX11_film_51 : decode cX11_film 51 = .ok (.iload_n 1, 1) := by decide +kernel
theorem dX11_film_52 : decode cX11_film 52 = .ok (.imul, 1) := by decide +kernel
theorem dX11_film_53 : decode cX11_film 53 = .ok (.iload_n 3, 1) := by decide +kernel
theorem dX11_film_54 : decode cX11_film 54 = .ok (.iadd, 1) := by decide +kernel
theorem dX11_film_55 : decode cX11_film 55 = .ok (.iload 5, 2) := by decide +kernel
theorem dX11_film_57 : decode cX11_film 57 = .ok (.iadd, 1) := by decide +kernel
theorem dX11_film_58 : decode cX11_film 58 = .ok (.aload_n 0, 1) := by decide +kernel
theorem dX11_film_59 : decode cX11_film 59 = .ok (.iload 5, 2) := by decide +kernel
theorem dX11_film_61 : decode cX11_film 61 = .ok (.iconst 0, 1) := by decide +kernel
theorem dX11_film_62 : decode cX11_film 62 = .ok (.invokevirtual 142, 3) := by decide +kernel
theorem dX11_film_65 : decode cX11_film 65 = .ok (.i2l, 1) := by decide +kernel
theorem dX11_film_66 : decode cX11_film 66 = .ok (.lastore, 1) := by decide +kernel
theorem dX11_film_67 : decode cX11_film 67 = .ok (.iinc 5 1, 3) := by decide +kernel
theorem dX11_film_70 : decode cX11_film 70 = .ok (.goto (-32), 3) := by decide +kernel
theorem dX11_film_73 : decode cX11_film 73 = .ok (.bipush 10, 2) := by decide +kernel
theorem dX11_film_75 : decode cX11_film 75 = .ok (.ireturn, 1) := by decide +kernel
theorem dX11_sheet_0 : decode cX11_sheet 0 = .ok (.iload_n 1, 1) := by decide +kernel
theorem dX11_sheet_1 : decode cX11_sheet 1 = .ok (.invokestatic 237, 3) := by decide +kernel
theorem dX11_sheet_4 : decode cX11_sheet 4 = .ok (.ifCond .eq 16, 3) := by decide +kernel
theorem dX11_sheet_7 : decode cX11_sheet 7 = .ok (.iload_n 2, 1) := by decide +kernel
theorem dX11_sheet_8 : decode cX11_sheet 8 = .ok (.invokestatic 240, 3) := by decide +kernel
theorem dX11_sheet_11 : decode cX11_sheet 11 = .ok (.ifCond .eq 9, 3) := by decide +kernel
theorem dX11_sheet_14 : decode cX11_sheet 14 = .ok (.iload_n 3, 1) := by decide +kernel
theorem dX11_sheet_15 : decode cX11_sheet 15 = .ok (.bipush 16, 2) := by decide +kernel
theorem dX11_sheet_17 : decode cX11_sheet 17 = .ok (.if_icmp .le 5, 3) := by decide +kernel
theorem dX11_sheet_20 : decode cX11_sheet 20 = .ok (.iconst (-1), 1) := by decide +kernel
theorem dX11_sheet_21 : decode cX11_sheet 21 = .ok (.ireturn, 1) := by decide +kernel
theorem dX11_sheet_22 : decode cX11_sheet 22 = .ok (.iload_n 3, 1) := by decide +kernel
theorem dX11_sheet_23 : decode cX11_sheet 23 = .ok (.ifCond .ge 6, 3) := by decide +kernel
theorem dX11_sheet_26 : decode cX11_sheet 26 = .ok (.bipush (-14), 2) := by decide +kernel
theorem dX11_sheet_28 : decode cX11_sheet 28 = .ok (.ireturn, 1) := by decide +kernel
theorem dX11_sheet_29 : decode cX11_sheet 29 = .ok (.aload_n 0, 1) := by decide +kernel
theorem dX11_sheet_30 : decode cX11_sheet 30 = .ok (.getfield 35, 3) := by decide +kernel
theorem dX11_sheet_33 : decode cX11_sheet 33 = .ok (.iload_n 1, 1) := by decide +kernel
theorem dX11_sheet_34 : decode cX11_sheet 34 = .ok (.iload_n 2, 1) := by decide +kernel
theorem dX11_sheet_35 : decode cX11_sheet 35 = .ok (.iastore, 1) := by decide +kernel
theorem dX11_sheet_36 : decode cX11_sheet 36 = .ok (.aload_n 0, 1) := by decide +kernel
theorem dX11_sheet_37 : decode cX11_sheet 37 = .ok (.getfield 38, 3) := by decide +kernel
theorem dX11_sheet_40 : decode cX11_sheet 40 = .ok (.iload_n 1, 1) := by decide +kernel
theorem dX11_sheet_41 : decode cX11_sheet 41 = .ok (.iload_n 3, 1) := by decide +kernel
theorem dX11_sheet_42 : decode cX11_sheet 42 = .ok (.iastore, 1) := by decide +kernel
theorem dX11_sheet_43 : decode cX11_sheet 43 = .ok (.iconst 0, 1) := by decide +kernel
theorem dX11_sheet_44 : decode cX11_sheet 44 = .ok (.istore 4, 2) := by decide +kernel
theorem dX11_sheet_46 : decode cX11_sheet 46 = .ok (.iload 4, 2) := by decide +kernel
theorem dX11_sheet_48 : decode cX11_sheet 48 = .ok (.bipush 16, 2) := by decide +kernel
theorem dX11_sheet_50 : decode cX11_sheet 50 = .ok (.if_icmp .ge 22, 3) := by decide +kernel
theorem dX11_sheet_53 : decode cX11_sheet 53 = .ok (.aload_n 0, 1) := by decide +kernel
theorem dX11_sheet_54 : decode cX11_sheet 54 = .ok (.getfield 41, 3) := by decide +kernel
theorem dX11_sheet_57 : decode cX11_sheet 57 = .ok (.bipush 16, 2) := by decide +kernel
theorem dX11_sheet_59 : decode cX11_sheet 59 = .ok (.iload_n 1, 1) := by decide +kernel
theorem dX11_sheet_60 : decode cX11_sheet 60 = .ok (.imul, 1) := by decide +kernel
theorem dX11_sheet_61 : decode cX11_sheet 61 = .ok (.iload 4, 2) := by decide +kernel
theorem dX11_sheet_63 : decode cX11_sheet 63 = .ok (.iadd, 1) := by decide +kernel
theorem dX11_sheet_64 : decode cX11_sheet 64 = .ok (.lconst 0, 1) := by decide +kernel
theorem dX11_sheet_65 : decode cX11_sheet 65 = .ok (.lastore, 1) := by decide +kernel
theorem dX11_sheet_66 : decode cX11_sheet 66 = .ok (.iinc 4 1, 3) := by decide +kernel
theorem dX11_sheet_69 : decode cX11_sheet 69 = .ok (.goto (-23), 3) := by decide +kernel
theorem dX11_sheet_72 : decode cX11_sheet 72 = .ok (.iload_n 3, 1) := by decide +kernel
theorem dX11_sheet_73 : decode cX11_sheet 73 = .ok (.ireturn, 1) := by decide +kernel
theorem dX11_drop_0 : decode cX11_drop 0 = .ok (.iload_n 1, 1) := by decide +kernel
theorem dX11_drop_1 : decode cX11_drop 1 = .ok (.invokestatic 237, 3) := by decide +kernel
theorem dX11_drop_4 : decode cX11_drop 4 = .ok (.ifCond .ne 5, 3) := by decide +kernel
theorem dX11_drop_7 : decode cX11_drop 7 = .ok (.iconst (-1), 1) := by decide +kernel
theorem dX11_drop_8 : decode cX11_drop 8 = .ok (.ireturn, 1) := by decide +kernel
theorem dX11_drop_9 : decode cX11_drop 9 = .ok (.aload_n 0, 1) := by decide +kernel
theorem dX11_drop_10 : decode cX11_drop 10 = .ok (.getfield 35, 3) := by decide +kernel
theorem dX11_drop_13 : decode cX11_drop 13 = .ok (.iload_n 1, 1) := by decide +kernel
theorem dX11_drop_14 : decode cX11_drop 14 = .ok (.iaload, 1) := by decide +kernel
theorem dX11_drop_15 : decode cX11_drop 15 = .ok (.ifCond .ge 6, 3) := by decide +kernel
theorem dX11_drop_18 : decode cX11_drop 18 = .ok (.bipush (-11), 2) := by decide +kernel
theorem dX11_drop_20 : decode cX11_drop 20 = .ok (.ireturn, 1) := by decide +kernel
theorem dX11_drop_21 : decode cX11_drop 21 = .ok (.aload_n 0, 1) := by decide +kernel
theorem dX11_drop_22 : decode cX11_drop 22 = .ok (.getfield 35, 3) := by decide +kernel
theorem dX11_drop_25 : decode cX11_drop 25 = .ok (.iload_n 1, 1) := by decide +kernel
theorem dX11_drop_26 : decode cX11_drop 26 = .ok (.iconst (-1), 1) := by decide +kernel
theorem dX11_drop_27 : decode cX11_drop 27 = .ok (.iastore, 1) := by decide +kernel
theorem dX11_drop_28 : decode cX11_drop 28 = .ok (.aload_n 0, 1) := by decide +kernel
theorem dX11_drop_29 : decode cX11_drop 29 = .ok (.getfield 38, 3) := by decide +kernel
theorem dX11_drop_32 : decode cX11_drop 32 = .ok (.iload_n 1, 1) := by decide +kernel
theorem dX11_drop_33 : decode cX11_drop 33 = .ok (.iaload, 1) := by decide +kernel
theorem dX11_drop_34 : decode cX11_drop 34 = .ok (.ireturn, 1) := by decide +kernel
theorem dX11_item_0 : decode cX11_item 0 = .ok (.iload_n 1, 1) := by decide +kernel
theorem dX11_item_1 : decode cX11_item 1 = .ok (.invokestatic 237, 3) := by decide +kernel
theorem dX11_item_4 : decode cX11_item 4 = .ok (.ifCond .eq 10, 3) := by decide +kernel
theorem dX11_item_7 : decode cX11_item 7 = .ok (.iload_n 2, 1) := by decide +kernel
theorem dX11_item_8 : decode cX11_item 8 = .ok (.invokestatic 240, 3) := by decide +kernel
theorem dX11_item_11 : decode cX11_item 11 = .ok (.ifCond .ne 5, 3) := by decide +kernel
theorem dX11_item_14 : decode cX11_item 14 = .ok (.iconst (-1), 1) := by decide +kernel
theorem dX11_item_15 : decode cX11_item 15 = .ok (.ireturn, 1) := by decide +kernel
theorem dX11_item_16 : decode cX11_item 16 = .ok (.aload_n 0, 1) := by decide +kernel
theorem dX11_item_17 : decode cX11_item 17 = .ok (.iload_n 1, 1) := by decide +kernel
theorem dX11_item_18 : decode cX11_item 18 = .ok (.iload_n 2, 1) := by decide +kernel
theorem dX11_item_19 : decode cX11_item 19 = .ok (.iload_n 3, 1) := by decide +kernel
theorem dX11_item_20 : decode cX11_item 20 = .ok (.iconst 1, 1) := by decide +kernel
theorem dX11_item_21 : decode cX11_item 21 = .ok (.invokevirtual 243, 3) := by decide +kernel
theorem dX11_item_24 : decode cX11_item 24 = .ok (.istore 6, 2) := by decide +kernel
theorem dX11_item_26 : decode cX11_item 26 = .ok (.iload 6, 2) := by decide +kernel
theorem dX11_item_28 : decode cX11_item 28 = .ok (.ifCond .eq 6, 3) := by decide +kernel
theorem dX11_item_31 : decode cX11_item 31 = .ok (.iload 6, 2) := by decide +kernel
theorem dX11_item_33 : decode cX11_item 33 = .ok (.ireturn, 1) := by decide +kernel
theorem dX11_item_34 : decode cX11_item 34 = .ok (.aload_n 0, 1) := by decide +kernel
theorem dX11_item_35 : decode cX11_item 35 = .ok (.getfield 41, 3) := by decide +kernel
theorem dX11_item_38 : decode cX11_item 38 = .ok (.bipush 16, 2) := by decide +kernel
theorem dX11_item_40 : decode cX11_item 40 = .ok (.iload_n 1, 1) := by decide +kernel
theorem dX11_item_41 : decode cX11_item 41 = .ok (.imul, 1) := by decide +kernel
theorem dX11_item_42 : decode cX11_item 42 = .ok (.iload_n 3, 1) := by decide +kernel
theorem dX11_item_43 : decode cX11_item 43 = .ok (.iadd, 1) := by decide +kernel
theorem dX11_item_44 : decode cX11_item 44 = .ok (.iload_n 2, 1) := by decide +kernel
theorem dX11_item_45 : decode cX11_item 45 = .ok (.lload 4, 2) := by decide +kernel
theorem dX11_item_47 : decode cX11_item 47 = .ok (.invokestatic 276, 3) := by decide +kernel
theorem dX11_item_50 : decode cX11_item 50 = .ok (.lastore, 1) := by decide +kernel
theorem dX11_item_51 : decode cX11_item 51 = .ok (.iconst 1, 1) := by decide +kernel
theorem dX11_item_52 : decode cX11_item 52 = .ok (.ireturn, 1) := by decide +kernel
theorem dX11_copy_0 : decode cX11_copy 0 = .ok (.iload_n 1, 1) := by decide +kernel
theorem dX11_copy_1 : decode cX11_copy 1 = .ok (.invokestatic 237, 3) := by decide +kernel
theorem dX11_copy_4 : decode cX11_copy 4 = .ok (.ifCond .eq 10, 3) := by decide +kernel
theorem dX11_copy_7 : decode cX11_copy 7 = .ok (.iload_n 3, 1) := by decide +kernel
theorem dX11_copy_8 : decode cX11_copy 8 = .ok (.invokestatic 237, 3) := by decide +kernel
theorem dX11_copy_11 : decode cX11_copy 11 = .ok (.ifCond .ne 5, 3) := by decide +kernel
theorem dX11_copy_14 : decode cX11_copy 14 = .ok (.iconst (-1), 1) := by decide +kernel
theorem dX11_copy_15 : decode cX11_copy 15 = .ok (.ireturn, 1) := by decide +kernel
theorem dX11_copy_16 : decode cX11_copy 16 = .ok (.aload_n 0, 1) := by decide +kernel
theorem dX11_copy_17 : decode cX11_copy 17 = .ok (.getfield 35, 3) := by decide +kernel
theorem dX11_copy_20 : decode cX11_copy 20 = .ok (.iload_n 1, 1) := by decide +kernel
theorem dX11_copy_21 : decode cX11_copy 21 = .ok (.iaload, 1) := by decide +kernel
theorem dX11_copy_22 : decode cX11_copy 22 = .ok (.ifCond .lt 12, 3) := by decide +kernel
theorem dX11_copy_25 : decode cX11_copy 25 = .ok (.aload_n 0, 1) := by decide +kernel
theorem dX11_copy_26 : decode cX11_copy 26 = .ok (.getfield 35, 3) := by decide +kernel
theorem dX11_copy_29 : decode cX11_copy 29 = .ok (.iload_n 3, 1) := by decide +kernel
theorem dX11_copy_30 : decode cX11_copy 30 = .ok (.iaload, 1) := by decide +kernel
theorem dX11_copy_31 : decode cX11_copy 31 = .ok (.ifCond .ge 6, 3) := by decide +kernel
theorem dX11_copy_34 : decode cX11_copy 34 = .ok (.bipush (-11), 2) := by decide +kernel
theorem dX11_copy_36 : decode cX11_copy 36 = .ok (.ireturn, 1) := by decide +kernel
theorem dX11_copy_37 : decode cX11_copy 37 = .ok (.aload_n 0, 1) := by decide +kernel
theorem dX11_copy_38 : decode cX11_copy 38 = .ok (.iload_n 1, 1) := by decide +kernel
theorem dX11_copy_39 : decode cX11_copy 39 = .ok (.aload_n 0, 1) := by decide +kernel
theorem dX11_copy_40 : decode cX11_copy 40 = .ok (.getfield 35, 3) := by decide +kernel
theorem dX11_copy_43 : decode cX11_copy 43 = .ok (.iload_n 3, 1) := by decide +kernel
theorem dX11_copy_44 : decode cX11_copy 44 = .ok (.iaload, 1) := by decide +kernel
theorem dX11_copy_45 : decode cX11_copy 45 = .ok (.iload_n 2, 1) := by decide +kernel
theorem dX11_copy_46 : decode cX11_copy 46 = .ok (.iload 5, 2) := by decide +kernel
theorem dX11_copy_48 : decode cX11_copy 48 = .ok (.invokevirtual 243, 3) := by decide +kernel
theorem dX11_copy_51 : decode cX11_copy 51 = .ok (.istore 6, 2) := by decide +kernel
theorem dX11_copy_53 : decode cX11_copy 53 = .ok (.iload 6, 2) := by decide +kernel
theorem dX11_copy_55 : decode cX11_copy 55 = .ok (.ifCond .ne 21, 3) := by decide +kernel
theorem dX11_copy_58 : decode cX11_copy 58 = .ok (.aload_n 0, 1) := by decide +kernel
theorem dX11_copy_59 : decode cX11_copy 59 = .ok (.iload_n 3, 1) := by decide +kernel
theorem dX11_copy_60 : decode cX11_copy 60 = .ok (.aload_n 0, 1) := by decide +kernel
theorem dX11_copy_61 : decode cX11_copy 61 = .ok (.getfield 35, 3) := by decide +kernel
theorem dX11_copy_64 : decode cX11_copy 64 = .ok (.iload_n 1, 1) := by decide +kernel
theorem dX11_copy_65 : decode cX11_copy 65 = .ok (.iaload, 1) := by decide +kernel
theorem dX11_copy_66 : decode cX11_copy 66 = .ok (.iload 4, 2) := by decide +kernel
theorem dX11_copy_68 : decode cX11_copy 68 = .ok (.iload 5, 2) := by decide +kernel
theorem dX11_copy_70 : decode cX11_copy 70 = .ok (.invokevirtual 243, 3) := by decide +kernel
theorem dX11_copy_73 : decode cX11_copy 73 = .ok (.goto 5, 3) := by decide +kernel
theorem dX11_copy_76 : decode cX11_copy 76 = .ok (.iload 6, 2) := by decide +kernel
theorem dX11_copy_78 : decode cX11_copy 78 = .ok (.istore 6, 2) := by decide +kernel
theorem dX11_copy_80 : decode cX11_copy 80 = .ok (.iload 6, 2) := by decide +kernel
theorem dX11_copy_82 : decode cX11_copy 82 = .ok (.ifCond .eq 6, 3) := by decide +kernel
theorem dX11_copy_85 : decode cX11_copy 85 = .ok (.iload 6, 2) := by decide +kernel
theorem dX11_copy_87 : decode cX11_copy 87 = .ok (.ireturn, 1) := by decide +kernel
theorem dX11_copy_88 : decode cX11_copy 88 = .ok (.iconst 0, 1) := by decide +kernel
theorem dX11_copy_89 : decode cX11_copy 89 = .ok (.istore 7, 2) := by decide +kernel
theorem dX11_copy_91 : decode cX11_copy 91 = .ok (.iload 7, 2) := by decide +kernel
theorem dX11_copy_93 : decode cX11_copy 93 = .ok (.iload 5, 2) := by decide +kernel
theorem dX11_copy_95 : decode cX11_copy 95 = .ok (.if_icmp .ge 30, 3) := by decide +kernel
theorem dX11_copy_98 : decode cX11_copy 98 = .ok (.aload_n 0, 1) := by decide +kernel
theorem dX11_copy_99 : decode cX11_copy 99 = .ok (.getfield 45, 3) := by decide +kernel
theorem dX11_copy_102 : decode cX11_copy 102 = .ok (.iload 7, 2) := by decide +kernel
theorem dX11_copy_104 : decode cX11_copy 104 = .ok (.aload_n 0, 1) := by decide +kernel
theorem dX11_copy_105 : decode cX11_copy 105 = .ok (.getfield 41, 3) := by decide +kernel
theorem dX11_copy_108 : decode cX11_copy 108 = .ok (.bipush 16, 2) := by decide +kernel
theorem dX11_copy_110 : decode cX11_copy 110 = .ok (.iload_n 1, 1) := by decide +kernel
theorem dX11_copy_111 : decode cX11_copy 111 = .ok (.imul, 1) := by decide +kernel
theorem dX11_copy_112 : decode cX11_copy 112 = .ok (.iload_n 2, 1) := by decide +kernel
theorem dX11_copy_113 : decode cX11_copy 113 = .ok (.iadd, 1) := by decide +kernel
theorem dX11_copy_114 : decode cX11_copy 114 = .ok (.iload 7, 2) := by decide +kernel
theorem dX11_copy_116 : decode cX11_copy 116 = .ok (.iadd, 1) := by decide +kernel
theorem dX11_copy_117 : decode cX11_copy 117 = .ok (.laload, 1) := by decide +kernel
theorem dX11_copy_118 : decode cX11_copy 118 = .ok (.lastore, 1) := by decide +kernel
theorem dX11_copy_119 : decode cX11_copy 119 = .ok (.iinc 7 1, 3) := by decide +kernel
theorem dX11_copy_122 : decode cX11_copy 122 = .ok (.goto (-31), 3) := by decide +kernel
theorem dX11_copy_125 : decode cX11_copy 125 = .ok (.iconst 0, 1) := by decide +kernel
theorem dX11_copy_126 : decode cX11_copy 126 = .ok (.istore 7, 2) := by decide +kernel
theorem dX11_copy_128 : decode cX11_copy 128 = .ok (.iload 7, 2) := by decide +kernel
theorem dX11_copy_130 : decode cX11_copy 130 = .ok (.iload 5, 2) := by decide +kernel
theorem dX11_copy_132 : decode cX11_copy 132 = .ok (.if_icmp .ge 31, 3) := by decide +kernel
theorem dX11_copy_135 : decode cX11_copy 135 = .ok (.aload_n 0, 1) := by decide +kernel
theorem dX11_copy_136 : decode cX11_copy 136 = .ok (.getfield 41, 3) := by decide +kernel
theorem dX11_copy_139 : decode cX11_copy 139 = .ok (.bipush 16, 2) := by decide +kernel
theorem dX11_copy_141 : decode cX11_copy 141 = .ok (.iload_n 3, 1) := by decide +kernel
theorem dX11_copy_142 : decode cX11_copy 142 = .ok (.imul, 1) := by decide +kernel
theorem dX11_copy_143 : decode cX11_copy 143 = .ok (.iload 4, 2) := by decide +kernel
theorem dX11_copy_145 : decode cX11_copy 145 = .ok (.iadd, 1) := by decide +kernel
theorem dX11_copy_146 : decode cX11_copy 146 = .ok (.iload 7, 2) := by decide +kernel
theorem dX11_copy_148 : decode cX11_copy 148 = .ok (.iadd, 1) := by decide +kernel
theorem dX11_copy_149 : decode cX11_copy 149 = .ok (.aload_n 0, 1) := by decide +kernel
theorem dX11_copy_150 : decode cX11_copy 150 = .ok (.getfield 45, 3) := by decide +kernel
theorem dX11_copy_153 : decode cX11_copy 153 = .ok (.iload 7, 2) := by decide +kernel
theorem dX11_copy_155 : decode cX11_copy 155 = .ok (.laload, 1) := by decide +kernel
theorem dX11_copy_156 : decode cX11_copy 156 = .ok (.lastore, 1) := by decide +kernel
theorem dX11_copy_157 : decode cX11_copy 157 = .ok (.iinc 7 1, 3) := by decide +kernel
theorem dX11_copy_160 : decode cX11_copy 160 = .ok (.goto (-32), 3) := by decide +kernel
theorem dX11_copy_163 : decode cX11_copy 163 = .ok (.iload 5, 2) := by decide +kernel
theorem dX11_copy_165 : decode cX11_copy 165 = .ok (.ireturn, 1) := by decide +kernel
theorem dJ0_length_8abf5_0 : decode cJ0_length_8abf5 0 = .ok (.aload_n 0, 1) := by decide +kernel
theorem dJ0_length_8abf5_1 : decode cJ0_length_8abf5 1 = .ok (.getfield 9, 3) := by decide +kernel
theorem dJ0_length_8abf5_4 : decode cJ0_length_8abf5 4 = .ok (.arraylength, 1) := by decide +kernel
theorem dJ0_length_8abf5_5 : decode cJ0_length_8abf5 5 = .ok (.aload_n 0, 1) := by decide +kernel
theorem dJ0_length_8abf5_6 : decode cJ0_length_8abf5 6 = .ok (.invokevirtual 335, 3) := by decide +kernel
theorem dJ0_length_8abf5_9 : decode cJ0_length_8abf5 9 = .ok (.ishr, 1) := by decide +kernel
theorem dJ0_length_8abf5_10 : decode cJ0_length_8abf5 10 = .ok (.ireturn, 1) := by decide +kernel
theorem dJ0_indexOf_0f7a4_0 : decode cJ0_indexOf_0f7a4 0 = .ok (.aload_n 0, 1) := by decide +kernel
theorem dJ0_indexOf_0f7a4_1 : decode cJ0_indexOf_0f7a4 1 = .ok (.iload_n 1, 1) := by decide +kernel
theorem dJ0_indexOf_0f7a4_2 : decode cJ0_indexOf_0f7a4 2 = .ok (.iconst 0, 1) := by decide +kernel
theorem dJ0_indexOf_0f7a4_3 : decode cJ0_indexOf_0f7a4 3 = .ok (.invokevirtual 633, 3) := by decide +kernel
theorem dJ0_indexOf_0f7a4_6 : decode cJ0_indexOf_0f7a4 6 = .ok (.ireturn, 1) := by decide +kernel
theorem dJ0_indexOf_7cf53_0 : decode cJ0_indexOf_7cf53 0 = .ok (.aload_n 0, 1) := by decide +kernel
theorem dJ0_indexOf_7cf53_1 : decode cJ0_indexOf_7cf53 1 = .ok (.invokevirtual 492, 3) := by decide +kernel
theorem dJ0_indexOf_7cf53_4 : decode cJ0_indexOf_7cf53 4 = .ok (.ifCond .eq 19, 3) := by decide +kernel
theorem dJ0_indexOf_7cf53_7 : decode cJ0_indexOf_7cf53 7 = .ok (.aload_n 0, 1) := by decide +kernel
theorem dJ0_indexOf_7cf53_8 : decode cJ0_indexOf_7cf53 8 = .ok (.getfield 9, 3) := by decide +kernel
theorem dJ0_indexOf_7cf53_11 : decode cJ0_indexOf_7cf53 11 = .ok (.iload_n 1, 1) := by decide +kernel
theorem dJ0_indexOf_7cf53_12 : decode cJ0_indexOf_7cf53 12 = .ok (.iload_n 2, 1) := by decide +kernel
theorem dJ0_indexOf_7cf53_13 : decode cJ0_indexOf_7cf53 13 = .ok (.aload_n 0, 1) := by decide +kernel
theorem dJ0_indexOf_7cf53_14 : decode cJ0_indexOf_7cf53 14 = .ok (.invokevirtual 505, 3) := by decide +kernel
theorem dJ0_indexOf_7cf53_17 : decode cJ0_indexOf_7cf53 17 = .ok (.invokestatic 637, 3) := by decide +kernel
theorem dJ0_indexOf_7cf53_20 : decode cJ0_indexOf_7cf53 20 = .ok (.goto 16, 3) := by decide +kernel
theorem dJ0_indexOf_7cf53_23 : decode cJ0_indexOf_7cf53 23 = .ok (.aload_n 0, 1) := by decide +kernel
theorem dJ0_indexOf_7cf53_24 : decode cJ0_indexOf_7cf53 24 = .ok (.getfield 9, 3) := by decide +kernel
theorem dJ0_indexOf_7cf53_27 : decode cJ0_indexOf_7cf53 27 = .ok (.iload_n 1, 1) := by decide +kernel
theorem dJ0_indexOf_7cf53_28 : decode cJ0_indexOf_7cf53 28 = .ok (.iload_n 2, 1) := by decide +kernel
theorem dJ0_indexOf_7cf53_29 : decode cJ0_indexOf_7cf53 29 = .ok (.aload_n 0, 1) := by decide +kernel
theorem dJ0_indexOf_7cf53_30 : decode cJ0_indexOf_7cf53 30 = .ok (.invokevirtual 505, 3) := by decide +kernel
theorem dJ0_indexOf_7cf53_33 : decode cJ0_indexOf_7cf53 33 = .ok (.invokestatic 640, 3) := by decide +kernel
theorem dJ0_indexOf_7cf53_36 : decode cJ0_indexOf_7cf53 36 = .ok (.ireturn, 1) := by decide +kernel
theorem dJ0_coder_7d493_0 : decode cJ0_coder_7d493 0 = .ok (.getstatic 38, 3) := by decide +kernel
theorem dJ0_coder_7d493_3 : decode cJ0_coder_7d493 3 = .ok (.ifCond .eq 10, 3) := by decide +kernel
theorem dJ0_coder_7d493_6 : decode cJ0_coder_7d493 6 = .ok (.aload_n 0, 1) := by decide +kernel
theorem dJ0_coder_7d493_7 : decode cJ0_coder_7d493 7 = .ok (.getfield 15, 3) := by decide +kernel
theorem dJ0_coder_7d493_10 : decode cJ0_coder_7d493 10 = .ok (.goto 4, 3) := by decide +kernel
theorem dJ0_coder_7d493_13 : decode cJ0_coder_7d493 13 = .ok (.iconst 1, 1) := by decide +kernel
theorem dJ0_coder_7d493_14 : decode cJ0_coder_7d493 14 = .ok (.ireturn, 1) := by decide +kernel
theorem dJ0_isLatin1_aae02_0 : decode cJ0_isLatin1_aae02 0 = .ok (.getstatic 38, 3) := by decide +kernel
theorem dJ0_isLatin1_aae02_3 : decode cJ0_isLatin1_aae02 3 = .ok (.ifCond .eq 14, 3) := by decide +kernel
theorem dJ0_isLatin1_aae02_6 : decode cJ0_isLatin1_aae02 6 = .ok (.aload_n 0, 1) := by decide +kernel
theorem dJ0_isLatin1_aae02_7 : decode cJ0_isLatin1_aae02 7 = .ok (.getfield 15, 3) := by decide +kernel
theorem dJ0_isLatin1_aae02_10 : decode cJ0_isLatin1_aae02 10 = .ok (.ifCond .ne 7, 3) := by decide +kernel
theorem dJ0_isLatin1_aae02_13 : decode cJ0_isLatin1_aae02 13 = .ok (.iconst 1, 1) := by decide +kernel
theorem dJ0_isLatin1_aae02_14 : decode cJ0_isLatin1_aae02 14 = .ok (.goto 4, 3) := by decide +kernel
theorem dJ0_isLatin1_aae02_17 : decode cJ0_isLatin1_aae02 17 = .ok (.iconst 0, 1) := by decide +kernel
theorem dJ0_isLatin1_aae02_18 : decode cJ0_isLatin1_aae02 18 = .ok (.ireturn, 1) := by decide +kernel
theorem dJ0_checkBoundsBeginEnd_23922_0 : decode cJ0_checkBoundsBeginEnd_23922 0 = .ok (.iload_n 0, 1) := by decide +kernel
theorem dJ0_checkBoundsBeginEnd_23922_1 : decode cJ0_checkBoundsBeginEnd_23922 1 = .ok (.iload_n 1, 1) := by decide +kernel
theorem dJ0_checkBoundsBeginEnd_23922_2 : decode cJ0_checkBoundsBeginEnd_23922 2 = .ok (.iload_n 2, 1) := by decide +kernel
theorem dJ0_checkBoundsBeginEnd_23922_3 : decode cJ0_checkBoundsBeginEnd_23922 3 = .ok (.getstatic 1053, 3) := by decide +kernel
theorem dJ0_checkBoundsBeginEnd_23922_6 : decode cJ0_checkBoundsBeginEnd_23922 6 = .ok (.invokestatic 1062, 3) := by decide +kernel
theorem dJ0_checkBoundsBeginEnd_23922_9 : decode cJ0_checkBoundsBeginEnd_23922 9 = .ok (.pop, 1) := by decide +kernel
theorem dJ0_checkBoundsBeginEnd_23922_10 : decode cJ0_checkBoundsBeginEnd_23922 10 = .ok (.return_, 1) := by decide +kernel
theorem dJ1_canEncode_9a6ad_0 : decode cJ1_canEncode_9a6ad 0 = .ok (.iload_n 0, 1) := by decide +kernel
theorem dJ1_canEncode_9a6ad_1 : decode cJ1_canEncode_9a6ad 1 = .ok (.ifCond .lt 14, 3) := by decide +kernel
theorem dJ1_canEncode_9a6ad_4 : decode cJ1_canEncode_9a6ad 4 = .ok (.iload_n 0, 1) := by decide +kernel
theorem dJ1_canEncode_9a6ad_5 : decode cJ1_canEncode_9a6ad 5 = .ok (.sipush 255, 3) := by decide +kernel
theorem dJ1_canEncode_9a6ad_8 : decode cJ1_canEncode_9a6ad 8 = .ok (.if_icmp .gt 7, 3) := by decide +kernel
theorem dJ1_canEncode_9a6ad_11 : decode cJ1_canEncode_9a6ad 11 = .ok (.iconst 1, 1) := by decide +kernel
theorem dJ1_canEncode_9a6ad_12 : decode cJ1_canEncode_9a6ad 12 = .ok (.goto 4, 3) := by decide +kernel
theorem dJ1_canEncode_9a6ad_15 : decode cJ1_canEncode_9a6ad 15 = .ok (.iconst 0, 1) := by decide +kernel
theorem dJ1_canEncode_9a6ad_16 : decode cJ1_canEncode_9a6ad 16 = .ok (.ireturn, 1) := by decide +kernel
theorem dJ1_indexOf_4cfef_0 : decode cJ1_indexOf_4cfef 0 = .ok (.iload_n 1, 1) := by decide +kernel
theorem dJ1_indexOf_4cfef_1 : decode cJ1_indexOf_4cfef 1 = .ok (.invokestatic 88, 3) := by decide +kernel
theorem dJ1_indexOf_4cfef_4 : decode cJ1_indexOf_4cfef 4 = .ok (.ifCond .ne 5, 3) := by decide +kernel
theorem dJ1_indexOf_4cfef_7 : decode cJ1_indexOf_4cfef 7 = .ok (.iconst (-1), 1) := by decide +kernel
theorem dJ1_indexOf_4cfef_8 : decode cJ1_indexOf_4cfef 8 = .ok (.ireturn, 1) := by decide +kernel
theorem dJ1_indexOf_4cfef_9 : decode cJ1_indexOf_4cfef 9 = .ok (.iload_n 2, 1) := by decide +kernel
theorem dJ1_indexOf_4cfef_10 : decode cJ1_indexOf_4cfef 10 = .ok (.iconst 0, 1) := by decide +kernel
theorem dJ1_indexOf_4cfef_11 : decode cJ1_indexOf_4cfef 11 = .ok (.invokestatic 92, 3) := by decide +kernel
theorem dJ1_indexOf_4cfef_14 : decode cJ1_indexOf_4cfef 14 = .ok (.istore_n 2, 1) := by decide +kernel
theorem dJ1_indexOf_4cfef_15 : decode cJ1_indexOf_4cfef 15 = .ok (.iload_n 3, 1) := by decide +kernel
theorem dJ1_indexOf_4cfef_16 : decode cJ1_indexOf_4cfef 16 = .ok (.aload_n 0, 1) := by decide +kernel
theorem dJ1_indexOf_4cfef_17 : decode cJ1_indexOf_4cfef 17 = .ok (.arraylength, 1) := by decide +kernel
theorem dJ1_indexOf_4cfef_18 : decode cJ1_indexOf_4cfef 18 = .ok (.invokestatic 38, 3) := by decide +kernel
theorem dJ1_indexOf_4cfef_21 : decode cJ1_indexOf_4cfef 21 = .ok (.istore_n 3, 1) := by decide +kernel
theorem dJ1_indexOf_4cfef_22 : decode cJ1_indexOf_4cfef 22 = .ok (.iload_n 2, 1) := by decide +kernel
theorem dJ1_indexOf_4cfef_23 : decode cJ1_indexOf_4cfef 23 = .ok (.iload_n 3, 1) := by decide +kernel
theorem dJ1_indexOf_4cfef_24 : decode cJ1_indexOf_4cfef 24 = .ok (.if_icmp .lt 5, 3) := by decide +kernel
theorem dJ1_indexOf_4cfef_27 : decode cJ1_indexOf_4cfef 27 = .ok (.iconst (-1), 1) := by decide +kernel
theorem dJ1_indexOf_4cfef_28 : decode cJ1_indexOf_4cfef 28 = .ok (.ireturn, 1) := by decide +kernel
theorem dJ1_indexOf_4cfef_29 : decode cJ1_indexOf_4cfef 29 = .ok (.aload_n 0, 1) := by decide +kernel
theorem dJ1_indexOf_4cfef_30 : decode cJ1_indexOf_4cfef 30 = .ok (.iload_n 1, 1) := by decide +kernel
theorem dJ1_indexOf_4cfef_31 : decode cJ1_indexOf_4cfef 31 = .ok (.iload_n 2, 1) := by decide +kernel
theorem dJ1_indexOf_4cfef_32 : decode cJ1_indexOf_4cfef 32 = .ok (.iload_n 3, 1) := by decide +kernel
theorem dJ1_indexOf_4cfef_33 : decode cJ1_indexOf_4cfef 33 = .ok (.invokestatic 95, 3) := by decide +kernel
theorem dJ1_indexOf_4cfef_36 : decode cJ1_indexOf_4cfef 36 = .ok (.ireturn, 1) := by decide +kernel
theorem dJ1_indexOfChar_4cfef_0 : decode cJ1_indexOfChar_4cfef 0 = .ok (.iload_n 1, 1) := by decide +kernel
theorem dJ1_indexOfChar_4cfef_1 : decode cJ1_indexOfChar_4cfef 1 = .ok (.i2b, 1) := by decide +kernel
theorem dJ1_indexOfChar_4cfef_2 : decode cJ1_indexOfChar_4cfef 2 = .ok (.istore 4, 2) := by decide +kernel
theorem dJ1_indexOfChar_4cfef_4 : decode cJ1_indexOfChar_4cfef 4 = .ok (.iload_n 2, 1) := by decide +kernel
theorem dJ1_indexOfChar_4cfef_5 : decode cJ1_indexOfChar_4cfef 5 = .ok (.istore 5, 2) := by decide +kernel
theorem dJ1_indexOfChar_4cfef_7 : decode cJ1_indexOfChar_4cfef 7 = .ok (.iload 5, 2) := by decide +kernel
theorem dJ1_indexOfChar_4cfef_9 : decode cJ1_indexOfChar_4cfef 9 = .ok (.iload_n 3, 1) := by decide +kernel
theorem dJ1_indexOfChar_4cfef_10 : decode cJ1_indexOfChar_4cfef 10 = .ok (.if_icmp .ge 21, 3) := by decide +kernel
theorem dJ1_indexOfChar_4cfef_13 : decode cJ1_indexOfChar_4cfef 13 = .ok (.aload_n 0, 1) := by decide +kernel
theorem dJ1_indexOfChar_4cfef_14 : decode cJ1_indexOfChar_4cfef 14 = .ok (.iload 5, 2) := by decide +kernel
theorem dJ1_indexOfChar_4cfef_16 : decode cJ1_indexOfChar_4cfef 16 = .ok (.baload, 1) := by decide +kernel
theorem dJ1_indexOfChar_4cfef_17 : decode cJ1_indexOfChar_4cfef 17 = .ok (.iload 4, 2) := by decide +kernel
theorem dJ1_indexOfChar_4cfef_19 : decode cJ1_indexOfChar_4cfef 19 = .ok (.if_icmp .ne 6, 3) := by decide +kernel
theorem dJ1_indexOfChar_4cfef_22 : decode cJ1_indexOfChar_4cfef 22 = .ok (.iload 5, 2) := by decide +kernel
theorem dJ1_indexOfChar_4cfef_24 : decode cJ1_indexOfChar_4cfef 24 = .ok (.ireturn, 1) := by decide +kernel
theorem dJ1_indexOfChar_4cfef_25 : decode cJ1_indexOfChar_4cfef 25 = .ok (.iinc 5 1, 3) := by decide +kernel
theorem dJ1_indexOfChar_4cfef_28 : decode cJ1_indexOfChar_4cfef 28 = .ok (.goto (-21), 3) := by decide +kernel
theorem dJ1_indexOfChar_4cfef_31 : decode cJ1_indexOfChar_4cfef 31 = .ok (.iconst (-1), 1) := by decide +kernel
theorem dJ1_indexOfChar_4cfef_32 : decode cJ1_indexOfChar_4cfef 32 = .ok (.ireturn, 1) := by decide +kernel
theorem dJ2_getChar_3b067_0 : decode cJ2_getChar_3b067 0 = .ok (.getstatic 44, 3) := by decide +kernel
theorem dJ2_getChar_3b067_3 : decode cJ2_getChar_3b067 3 = .ok (.ifCond .ne 25, 3) := by decide +kernel
theorem dJ2_getChar_3b067_6 : decode cJ2_getChar_3b067 6 = .ok (.iload_n 1, 1) := by decide +kernel
theorem dJ2_getChar_3b067_7 : decode cJ2_getChar_3b067 7 = .ok (.ifCond .lt 11, 3) := by decide +kernel
theorem dJ2_getChar_3b067_10 : decode cJ2_getChar_3b067 10 = .ok (.iload_n 1, 1) := by decide +kernel
theorem dJ2_getChar_3b067_11 : decode cJ2_getChar_3b067 11 = .ok (.aload_n 0, 1) := by decide +kernel
theorem dJ2_getChar_3b067_12 : decode cJ2_getChar_3b067 12 = .ok (.invokestatic 48, 3) := by decide +kernel
theorem dJ2_getChar_3b067_15 : decode cJ2_getChar_3b067 15 = .ok (.if_icmp .lt 13, 3) := by decide +kernel
theorem dJ2_getChar_3b067_18 : decode cJ2_getChar_3b067 18 = .ok (.new 52, 3) := by decide +kernel
theorem dJ2_getChar_3b067_21 : decode cJ2_getChar_3b067 21 = .ok (.dup, 1) := by decide +kernel
theorem dJ2_getChar_3b067_22 : decode cJ2_getChar_3b067 22 = .ok (.ldc 54, 2) := by decide +kernel
theorem dJ2_getChar_3b067_24 : decode cJ2_getChar_3b067 24 = .ok (.invokespecial 56, 3) := by decide +kernel
theorem dJ2_getChar_3b067_27 : decode cJ2_getChar_3b067 27 = .ok (.athrow, 1) := by decide +kernel
theorem dJ2_getChar_3b067_28 : decode cJ2_getChar_3b067 28 = .ok (.iload_n 1, 1) := by decide +kernel
theorem dJ2_getChar_3b067_29 : decode cJ2_getChar_3b067 29 = .ok (.iconst 1, 1) := by decide +kernel
theorem dJ2_getChar_3b067_30 : decode cJ2_getChar_3b067 30 = .ok (.ishl, 1) := by decide +kernel
theorem dJ2_getChar_3b067_31 : decode cJ2_getChar_3b067 31 = .ok (.istore_n 1, 1) := by decide +kernel
theorem dJ2_getChar_3b067_32 : decode cJ2_getChar_3b067 32 = .ok (.aload_n 0, 1) := by decide +kernel
theorem dJ2_getChar_3b067_33 : decode cJ2_getChar_3b067 33 = .ok (.iload_n 1, 1) := by decide +kernel
theorem dJ2_getChar_3b067_34 : decode cJ2_getChar_3b067 34 = .ok (.iinc 1 1, 3) := by decide +kernel
theorem dJ2_getChar_3b067_37 : decode cJ2_getChar_3b067 37 = .ok (.baload, 1) := by decide +kernel
theorem dJ2_getChar_3b067_38 : decode cJ2_getChar_3b067 38 = .ok (.sipush 255, 3) := by decide +kernel
theorem dJ2_getChar_3b067_41 : decode cJ2_getChar_3b067 41 = .ok (.iand, 1) := by decide +kernel
theorem dJ2_getChar_3b067_42 : decode cJ2_getChar_3b067 42 = .ok (.getstatic 59, 3) := by decide +kernel
theorem dJ2_getChar_3b067_45 : decode cJ2_getChar_3b067 45 = .ok (.ishl, 1) := by decide +kernel
theorem dJ2_getChar_3b067_46 : decode cJ2_getChar_3b067 46 = .ok (.aload_n 0, 1) := by decide +kernel
theorem dJ2_getChar_3b067_47 : decode cJ2_getChar_3b067 47 = .ok (.iload_n 1, 1) := by decide +kernel
theorem dJ2_getChar_3b067_48 : decode cJ2_getChar_3b067 48 = .ok (.baload, 1) := by decide +kernel
theorem dJ2_getChar_3b067_49 : decode cJ2_getChar_3b067 49 = .ok (.sipush 255, 3) := by decide +kernel
theorem dJ2_getChar_3b067_52 : decode cJ2_getChar_3b067 52 = .ok (.iand, 1) := by decide +kernel
theorem dJ2_getChar_3b067_53 : decode cJ2_getChar_3b067 53 = .ok (.getstatic 63, 3) := by decide +kernel
theorem dJ2_getChar_3b067_56 : decode cJ2_getChar_3b067 56 = .ok (.ishl, 1) := by decide +kernel
theorem dJ2_getChar_3b067_57 : decode cJ2_getChar_3b067 57 = .ok (.ior, 1) := by decide +kernel
theorem dJ2_getChar_3b067_58 : decode cJ2_getChar_3b067 58 = .ok (.i2c, 1) := by decide +kernel
theorem dJ2_getChar_3b067_59 : decode cJ2_getChar_3b067 59 = .ok (.ireturn, 1) := by decide +kernel
theorem dJ2_length_9d52b_0 : decode cJ2_length_9d52b 0 = .ok (.aload_n 0, 1) := by decide +kernel
theorem dJ2_length_9d52b_1 : decode cJ2_length_9d52b 1 = .ok (.arraylength, 1) := by decide +kernel
theorem dJ2_length_9d52b_2 : decode cJ2_length_9d52b 2 = .ok (.iconst 1, 1) := by decide +kernel
theorem dJ2_length_9d52b_3 : decode cJ2_length_9d52b 3 = .ok (.ishr, 1) := by decide +kernel
theorem dJ2_length_9d52b_4 : decode cJ2_length_9d52b 4 = .ok (.ireturn, 1) := by decide +kernel
theorem dJ2_indexOf_4cfef_0 : decode cJ2_indexOf_4cfef 0 = .ok (.iload_n 2, 1) := by decide +kernel
theorem dJ2_indexOf_4cfef_1 : decode cJ2_indexOf_4cfef 1 = .ok (.iconst 0, 1) := by decide +kernel
theorem dJ2_indexOf_4cfef_2 : decode cJ2_indexOf_4cfef 2 = .ok (.invokestatic 224, 3) := by decide +kernel
theorem dJ2_indexOf_4cfef_5 : decode cJ2_indexOf_4cfef 5 = .ok (.istore_n 2, 1) := by decide +kernel
theorem dJ2_indexOf_4cfef_6 : decode cJ2_indexOf_4cfef 6 = .ok (.iload_n 3, 1) := by decide +kernel
theorem dJ2_indexOf_4cfef_7 : decode cJ2_indexOf_4cfef 7 = .ok (.aload_n 0, 1) := by decide +kernel
theorem dJ2_indexOf_4cfef_8 : decode cJ2_indexOf_4cfef 8 = .ok (.arraylength, 1) := by decide +kernel
theorem dJ2_indexOf_4cfef_9 : decode cJ2_indexOf_4cfef 9 = .ok (.iconst 1, 1) := by decide +kernel
theorem dJ2_indexOf_4cfef_10 : decode cJ2_indexOf_4cfef 10 = .ok (.ishr, 1) := by decide +kernel
theorem dJ2_indexOf_4cfef_11 : decode cJ2_indexOf_4cfef 11 = .ok (.invokestatic 183, 3) := by decide +kernel
theorem dJ2_indexOf_4cfef_14 : decode cJ2_indexOf_4cfef 14 = .ok (.istore_n 3, 1) := by decide +kernel
theorem dJ2_indexOf_4cfef_15 : decode cJ2_indexOf_4cfef 15 = .ok (.iload_n 2, 1) := by decide +kernel
theorem dJ2_indexOf_4cfef_16 : decode cJ2_indexOf_4cfef 16 = .ok (.iload_n 3, 1) := by decide +kernel
theorem dJ2_indexOf_4cfef_17 : decode cJ2_indexOf_4cfef 17 = .ok (.if_icmp .lt 5, 3) := by decide +kernel
theorem dJ2_indexOf_4cfef_20 : decode cJ2_indexOf_4cfef 20 = .ok (.iconst (-1), 1) := by decide +kernel
theorem dJ2_indexOf_4cfef_21 : decode cJ2_indexOf_4cfef 21 = .ok (.ireturn, 1) := by decide +kernel
theorem dJ2_indexOf_4cfef_22 : decode cJ2_indexOf_4cfef 22 = .ok (.iload_n 1, 1) := by decide +kernel
theorem dJ2_indexOf_4cfef_23 : decode cJ2_indexOf_4cfef 23 = .ok (.ldc 227, 2) := by decide +kernel
theorem dJ2_indexOf_4cfef_25 : decode cJ2_indexOf_4cfef 25 = .ok (.if_icmp .ge 11, 3) := by decide +kernel
theorem dJ2_indexOf_4cfef_28 : decode cJ2_indexOf_4cfef 28 = .ok (.aload_n 0, 1) := by decide +kernel
theorem dJ2_indexOf_4cfef_29 : decode cJ2_indexOf_4cfef 29 = .ok (.iload_n 1, 1) := by decide +kernel
theorem dJ2_indexOf_4cfef_30 : decode cJ2_indexOf_4cfef 30 = .ok (.iload_n 2, 1) := by decide +kernel
theorem dJ2_indexOf_4cfef_31 : decode cJ2_indexOf_4cfef 31 = .ok (.iload_n 3, 1) := by decide +kernel
theorem dJ2_indexOf_4cfef_32 : decode cJ2_indexOf_4cfef 32 = .ok (.invokestatic 228, 3) := by decide +kernel
theorem dJ2_indexOf_4cfef_35 : decode cJ2_indexOf_4cfef 35 = .ok (.ireturn, 1) := by decide +kernel
theorem dJ2_indexOf_4cfef_36 : decode cJ2_indexOf_4cfef 36 = .ok (.aload_n 0, 1) := by decide +kernel
theorem dJ2_indexOf_4cfef_37 : decode cJ2_indexOf_4cfef 37 = .ok (.iload_n 1, 1) := by decide +kernel
theorem dJ2_indexOf_4cfef_38 : decode cJ2_indexOf_4cfef 38 = .ok (.iload_n 2, 1) := by decide +kernel
theorem dJ2_indexOf_4cfef_39 : decode cJ2_indexOf_4cfef 39 = .ok (.iload_n 3, 1) := by decide +kernel
theorem dJ2_indexOf_4cfef_40 : decode cJ2_indexOf_4cfef 40 = .ok (.invokestatic 232, 3) := by decide +kernel
theorem dJ2_indexOf_4cfef_43 : decode cJ2_indexOf_4cfef 43 = .ok (.ireturn, 1) := by decide +kernel
theorem dJ2_indexOfChar_4cfef_0 : decode cJ2_indexOfChar_4cfef 0 = .ok (.iload_n 2, 1) := by decide +kernel
theorem dJ2_indexOfChar_4cfef_1 : decode cJ2_indexOfChar_4cfef 1 = .ok (.iload_n 3, 1) := by decide +kernel
theorem dJ2_indexOfChar_4cfef_2 : decode cJ2_indexOfChar_4cfef 2 = .ok (.aload_n 0, 1) := by decide +kernel
theorem dJ2_indexOfChar_4cfef_3 : decode cJ2_indexOfChar_4cfef 3 = .ok (.invokestatic 96, 3) := by decide +kernel
theorem dJ2_indexOfChar_4cfef_6 : decode cJ2_indexOfChar_4cfef 6 = .ok (.aload_n 0, 1) := by decide +kernel
theorem dJ2_indexOfChar_4cfef_7 : decode cJ2_indexOfChar_4cfef 7 = .ok (.iload_n 1, 1) := by decide +kernel
theorem dJ2_indexOfChar_4cfef_8 : decode cJ2_indexOfChar_4cfef 8 = .ok (.iload_n 2, 1) := by decide +kernel
theorem dJ2_indexOfChar_4cfef_9 : decode cJ2_indexOfChar_4cfef 9 = .ok (.iload_n 3, 1) := by decide +kernel
theorem dJ2_indexOfChar_4cfef_10 : decode cJ2_indexOfChar_4cfef 10 = .ok (.invokestatic 244, 3) := by decide +kernel
theorem dJ2_indexOfChar_4cfef_13 : decode cJ2_indexOfChar_4cfef 13 = .ok (.ireturn, 1) := by decide +kernel
theorem dJ2_indexOfCharUnsafe_4cfef_0 : decode cJ2_indexOfCharUnsafe_4cfef 0 = .ok (.iload_n 2, 1) := by decide +kernel
theorem dJ2_indexOfCharUnsafe_4cfef_1 : decode cJ2_indexOfCharUnsafe_4cfef 1 = .ok (.istore 4, 2) := by decide +kernel
theorem dJ2_indexOfCharUnsafe_4cfef_3 : decode cJ2_indexOfCharUnsafe_4cfef 3 = .ok (.iload 4, 2) := by decide +kernel
theorem dJ2_indexOfCharUnsafe_4cfef_5 : decode cJ2_indexOfCharUnsafe_4cfef 5 = .ok (.iload_n 3, 1) := by decide +kernel
theorem dJ2_indexOfCharUnsafe_4cfef_6 : decode cJ2_indexOfCharUnsafe_4cfef 6 = .ok (.if_icmp .ge 22, 3) := by decide +kernel
theorem dJ2_indexOfCharUnsafe_4cfef_9 : decode cJ2_indexOfCharUnsafe_4cfef 9 = .ok (.aload_n 0, 1) := by decide +kernel
theorem dJ2_indexOfCharUnsafe_4cfef_10 : decode cJ2_indexOfCharUnsafe_4cfef 10 = .ok (.iload 4, 2) := by decide +kernel
theorem dJ2_indexOfCharUnsafe_4cfef_12 : decode cJ2_indexOfCharUnsafe_4cfef 12 = .ok (.invokestatic 71, 3) := by decide +kernel
theorem dJ2_indexOfCharUnsafe_4cfef_15 : decode cJ2_indexOfCharUnsafe_4cfef 15 = .ok (.iload_n 1, 1) := by decide +kernel
theorem dJ2_indexOfCharUnsafe_4cfef_16 : decode cJ2_indexOfCharUnsafe_4cfef 16 = .ok (.if_icmp .ne 6, 3) := by decide +kernel
theorem dJ2_indexOfCharUnsafe_4cfef_19 : decode cJ2_indexOfCharUnsafe_4cfef 19 = .ok (.iload 4, 2) := by decide +kernel
theorem dJ2_indexOfCharUnsafe_4cfef_21 : decode cJ2_indexOfCharUnsafe_4cfef 21 = .ok (.ireturn, 1) := by decide +kernel
theorem dJ2_indexOfCharUnsafe_4cfef_22 : decode cJ2_indexOfCharUnsafe_4cfef 22 = .ok (.iinc 4 1, 3) := by decide +kernel
theorem dJ2_indexOfCharUnsafe_4cfef_25 : decode cJ2_indexOfCharUnsafe_4cfef 25 = .ok (.goto (-22), 3) := by decide +kernel
theorem dJ2_indexOfCharUnsafe_4cfef_28 : decode cJ2_indexOfCharUnsafe_4cfef 28 = .ok (.iconst (-1), 1) := by decide +kernel
theorem dJ2_indexOfCharUnsafe_4cfef_29 : decode cJ2_indexOfCharUnsafe_4cfef 29 = .ok (.ireturn, 1) := by decide +kernel
theorem dJ2_indexOfSupplementary_4cfef_0 : decode cJ2_indexOfSupplementary_4cfef 0 = .ok (.iload_n 1, 1) := by decide +kernel
theorem dJ2_indexOfSupplementary_4cfef_1 : decode cJ2_indexOfSupplementary_4cfef 1 = .ok (.invokestatic 164, 3) := by decide +kernel
theorem dJ2_indexOfSupplementary_4cfef_4 : decode cJ2_indexOfSupplementary_4cfef 4 = .ok (.ifCond .eq 65, 3) := by decide +kernel
theorem dJ2_indexOfSupplementary_4cfef_7 : decode cJ2_indexOfSupplementary_4cfef 7 = .ok (.iload_n 1, 1) := by decide +kernel
theorem dJ2_indexOfSupplementary_4cfef_8 : decode cJ2_indexOfSupplementary_4cfef 8 = .ok (.invokestatic 157, 3) := by decide +kernel
theorem dJ2_indexOfSupplementary_4cfef_11 : decode cJ2_indexOfSupplementary_4cfef 11 = .ok (.istore 4, 2) := by decide +kernel
theorem dJ2_indexOfSupplementary_4cfef_13 : decode cJ2_indexOfSupplementary_4cfef 13 = .ok (.iload_n 1, 1) := by decide +kernel
theorem dJ2_indexOfSupplementary_4cfef_14 : decode cJ2_indexOfSupplementary_4cfef 14 = .ok (.invokestatic 161, 3) := by decide +kernel
theorem dJ2_indexOfSupplementary_4cfef_17 : decode cJ2_indexOfSupplementary_4cfef 17 = .ok (.istore 5, 2) := by decide +kernel
theorem dJ2_indexOfSupplementary_4cfef_19 : decode cJ2_indexOfSupplementary_4cfef 19 = .ok (.iload_n 2, 1) := by decide +kernel
theorem dJ2_indexOfSupplementary_4cfef_20 : decode cJ2_indexOfSupplementary_4cfef 20 = .ok (.iload_n 3, 1) := by decide +kernel
theorem dJ2_indexOfSupplementary_4cfef_21 : decode cJ2_indexOfSupplementary_4cfef 21 = .ok (.aload_n 0, 1) := by decide +kernel
theorem dJ2_indexOfSupplementary_4cfef_22 : decode cJ2_indexOfSupplementary_4cfef 22 = .ok (.invokestatic 96, 3) := by decide +kernel
theorem dJ2_indexOfSupplementary_4cfef_25 : decode cJ2_indexOfSupplementary_4cfef 25 = .ok (.iload_n 2, 1) := by decide +kernel
theorem dJ2_indexOfSupplementary_4cfef_26 : decode cJ2_indexOfSupplementary_4cfef 26 = .ok (.istore 6, 2) := by decide +kernel
theorem dJ2_indexOfSupplementary_4cfef_28 : decode cJ2_indexOfSupplementary_4cfef 28 = .ok (.iload 6, 2) := by decide +kernel
theorem dJ2_indexOfSupplementary_4cfef_30 : decode cJ2_indexOfSupplementary_4cfef 30 = .ok (.iload_n 3, 1) := by decide +kernel
theorem dJ2_indexOfSupplementary_4cfef_31 : decode cJ2_indexOfSupplementary_4cfef 31 = .ok (.iconst 1, 1) := by decide +kernel
theorem dJ2_indexOfSupplementary_4cfef_32 : decode cJ2_indexOfSupplementary_4cfef 32 = .ok (.isub, 1) := by decide +kernel
theorem dJ2_indexOfSupplementary_4cfef_33 : decode cJ2_indexOfSupplementary_4cfef 33 = .ok (.if_icmp .ge 36, 3) := by decide +kernel
theorem dJ2_indexOfSupplementary_4cfef_36 : decode cJ2_indexOfSupplementary_4cfef 36 = .ok (.aload_n 0, 1) := by decide +kernel
theorem dJ2_indexOfSupplementary_4cfef_37 : decode cJ2_indexOfSupplementary_4cfef 37 = .ok (.iload 6, 2) := by decide +kernel
theorem dJ2_indexOfSupplementary_4cfef_39 : decode cJ2_indexOfSupplementary_4cfef 39 = .ok (.invokestatic 71, 3) := by decide +kernel
theorem dJ2_indexOfSupplementary_4cfef_42 : decode cJ2_indexOfSupplementary_4cfef 42 = .ok (.iload 4, 2) := by decide +kernel
theorem dJ2_indexOfSupplementary_4cfef_44 : decode cJ2_indexOfSupplementary_4cfef 44 = .ok (.if_icmp .ne 19, 3) := by decide +kernel
theorem dJ2_indexOfSupplementary_4cfef_47 : decode cJ2_indexOfSupplementary_4cfef 47 = .ok (.aload_n 0, 1) := by decide +kernel
theorem dJ2_indexOfSupplementary_4cfef_48 : decode cJ2_indexOfSupplementary_4cfef 48 = .ok (.iload 6, 2) := by decide +kernel
theorem dJ2_indexOfSupplementary_4cfef_50 : decode cJ2_indexOfSupplementary_4cfef 50 = .ok (.iconst 1, 1) := by decide +kernel
theorem dJ2_indexOfSupplementary_4cfef_51 : decode cJ2_indexOfSupplementary_4cfef 51 = .ok (.iadd, 1) := by decide +kernel
theorem dJ2_indexOfSupplementary_4cfef_52 : decode cJ2_indexOfSupplementary_4cfef 52 = .ok (.invokestatic 71, 3) := by decide +kernel
theorem dJ2_indexOfSupplementary_4cfef_55 : decode cJ2_indexOfSupplementary_4cfef 55 = .ok (.iload 5, 2) := by decide +kernel
theorem dJ2_indexOfSupplementary_4cfef_57 : decode cJ2_indexOfSupplementary_4cfef 57 = .ok (.if_icmp .ne 6, 3) := by decide +kernel
theorem dJ2_indexOfSupplementary_4cfef_60 : decode cJ2_indexOfSupplementary_4cfef 60 = .ok (.iload 6, 2) := by decide +kernel
theorem dJ2_indexOfSupplementary_4cfef_62 : decode cJ2_indexOfSupplementary_4cfef 62 = .ok (.ireturn, 1) := by decide +kernel
theorem dJ2_indexOfSupplementary_4cfef_63 : decode cJ2_indexOfSupplementary_4cfef 63 = .ok (.iinc 6 1, 3) := by decide +kernel
theorem dJ2_indexOfSupplementary_4cfef_66 : decode cJ2_indexOfSupplementary_4cfef 66 = .ok (.goto (-38), 3) := by decide +kernel
theorem dJ2_indexOfSupplementary_4cfef_69 : decode cJ2_indexOfSupplementary_4cfef 69 = .ok (.iconst (-1), 1) := by decide +kernel
theorem dJ2_indexOfSupplementary_4cfef_70 : decode cJ2_indexOfSupplementary_4cfef 70 = .ok (.ireturn, 1) := by decide +kernel
theorem dJ2_checkBoundsBeginEnd_d044e_0 : decode cJ2_checkBoundsBeginEnd_d044e 0 = .ok (.iload_n 0, 1) := by decide +kernel
theorem dJ2_checkBoundsBeginEnd_d044e_1 : decode cJ2_checkBoundsBeginEnd_d044e 1 = .ok (.iload_n 1, 1) := by decide +kernel
theorem dJ2_checkBoundsBeginEnd_d044e_2 : decode cJ2_checkBoundsBeginEnd_d044e 2 = .ok (.aload_n 2, 1) := by decide +kernel
theorem dJ2_checkBoundsBeginEnd_d044e_3 : decode cJ2_checkBoundsBeginEnd_d044e 3 = .ok (.invokestatic 48, 3) := by decide +kernel
theorem dJ2_checkBoundsBeginEnd_d044e_6 : decode cJ2_checkBoundsBeginEnd_d044e 6 = .ok (.invokestatic 241, 3) := by decide +kernel
theorem dJ2_checkBoundsBeginEnd_d044e_9 : decode cJ2_checkBoundsBeginEnd_d044e 9 = .ok (.return_, 1) := by decide +kernel
theorem dJ3_checkFromToIndex_8c36e_0 : decode cJ3_checkFromToIndex_8c36e 0 = .ok (.iload_n 0, 1) := by decide +kernel
theorem dJ3_checkFromToIndex_8c36e_1 : decode cJ3_checkFromToIndex_8c36e 1 = .ok (.ifCond .lt 13, 3) := by decide +kernel
theorem dJ3_checkFromToIndex_8c36e_4 : decode cJ3_checkFromToIndex_8c36e 4 = .ok (.iload_n 0, 1) := by decide +kernel
theorem dJ3_checkFromToIndex_8c36e_5 : decode cJ3_checkFromToIndex_8c36e 5 = .ok (.iload_n 1, 1) := by decide +kernel
theorem dJ3_checkFromToIndex_8c36e_6 : decode cJ3_checkFromToIndex_8c36e 6 = .ok (.if_icmp .gt 8, 3) := by decide +kernel
theorem dJ3_checkFromToIndex_8c36e_9 : decode cJ3_checkFromToIndex_8c36e 9 = .ok (.iload_n 1, 1) := by decide +kernel
theorem dJ3_checkFromToIndex_8c36e_10 : decode cJ3_checkFromToIndex_8c36e 10 = .ok (.iload_n 2, 1) := by decide +kernel
theorem dJ3_checkFromToIndex_8c36e_11 : decode cJ3_checkFromToIndex_8c36e 11 = .ok (.if_icmp .le 11, 3) := by decide +kernel
theorem dJ3_checkFromToIndex_8c36e_14 : decode cJ3_checkFromToIndex_8c36e 14 = .ok (.aload_n 3, 1) := by decide +kernel
theorem dJ3_checkFromToIndex_8c36e_15 : decode cJ3_checkFromToIndex_8c36e 15 = .ok (.iload_n 0, 1) := by decide +kernel
theorem dJ3_checkFromToIndex_8c36e_16 : decode cJ3_checkFromToIndex_8c36e 16 = .ok (.iload_n 1, 1) := by decide +kernel
theorem dJ3_checkFromToIndex_8c36e_17 : decode cJ3_checkFromToIndex_8c36e 17 = .ok (.iload_n 2, 1) := by decide +kernel
theorem dJ3_checkFromToIndex_8c36e_18 : decode cJ3_checkFromToIndex_8c36e 18 = .ok (.invokestatic 99, 3) := by decide +kernel
theorem dJ3_checkFromToIndex_8c36e_21 : decode cJ3_checkFromToIndex_8c36e 21 = .ok (.athrow, 1) := by decide +kernel
theorem dJ3_checkFromToIndex_8c36e_22 : decode cJ3_checkFromToIndex_8c36e 22 = .ok (.iload_n 0, 1) := by decide +kernel
theorem dJ3_checkFromToIndex_8c36e_23 : decode cJ3_checkFromToIndex_8c36e 23 = .ok (.ireturn, 1) := by decide +kernel
theorem dJ6_bitCount_0f7a4_0 : decode cJ6_bitCount_0f7a4 0 = .ok (.iload_n 0, 1) := by decide +kernel
theorem dJ6_bitCount_0f7a4_1 : decode cJ6_bitCount_0f7a4 1 = .ok (.iload_n 0, 1) := by decide +kernel
theorem dJ6_bitCount_0f7a4_2 : decode cJ6_bitCount_0f7a4 2 = .ok (.iconst 1, 1) := by decide +kernel
theorem dJ6_bitCount_0f7a4_3 : decode cJ6_bitCount_0f7a4 3 = .ok (.iushr, 1) := by decide +kernel
theorem dJ6_bitCount_0f7a4_4 : decode cJ6_bitCount_0f7a4 4 = .ok (.ldc_w 265, 3) := by decide +kernel
theorem dJ6_bitCount_0f7a4_7 : decode cJ6_bitCount_0f7a4 7 = .ok (.iand, 1) := by decide +kernel
theorem dJ6_bitCount_0f7a4_8 : decode cJ6_bitCount_0f7a4 8 = .ok (.isub, 1) := by decide +kernel
theorem dJ6_bitCount_0f7a4_9 : decode cJ6_bitCount_0f7a4 9 = .ok (.istore_n 0, 1) := by decide +kernel
theorem dJ6_bitCount_0f7a4_10 : decode cJ6_bitCount_0f7a4 10 = .ok (.iload_n 0, 1) := by decide +kernel
theorem dJ6_bitCount_0f7a4_11 : decode cJ6_bitCount_0f7a4 11 = .ok (.ldc_w 266, 3) := by decide +kernel
theorem dJ6_bitCount_0f7a4_14 : decode cJ6_bitCount_0f7a4 14 = .ok (.iand, 1) := by decide +kernel
theorem dJ6_bitCount_0f7a4_15 : decode cJ6_bitCount_0f7a4 15 = .ok (.iload_n 0, 1) := by decide +kernel
theorem dJ6_bitCount_0f7a4_16 : decode cJ6_bitCount_0f7a4 16 = .ok (.iconst 2, 1) := by decide +kernel
theorem dJ6_bitCount_0f7a4_17 : decode cJ6_bitCount_0f7a4 17 = .ok (.iushr, 1) := by decide +kernel
theorem dJ6_bitCount_0f7a4_18 : decode cJ6_bitCount_0f7a4 18 = .ok (.ldc_w 266, 3) := by decide +kernel
theorem dJ6_bitCount_0f7a4_21 : decode cJ6_bitCount_0f7a4 21 = .ok (.iand, 1) := by decide +kernel
theorem dJ6_bitCount_0f7a4_22 : decode cJ6_bitCount_0f7a4 22 = .ok (.iadd, 1) := by decide +kernel
theorem dJ6_bitCount_0f7a4_23 : decode cJ6_bitCount_0f7a4 23 = .ok (.istore_n 0, 1) := by decide +kernel
theorem dJ6_bitCount_0f7a4_24 : decode cJ6_bitCount_0f7a4 24 = .ok (.iload_n 0, 1) := by decide +kernel
theorem dJ6_bitCount_0f7a4_25 : decode cJ6_bitCount_0f7a4 25 = .ok (.iload_n 0, 1) := by decide +kernel
theorem dJ6_bitCount_0f7a4_26 : decode cJ6_bitCount_0f7a4 26 = .ok (.iconst 4, 1) := by decide +kernel
theorem dJ6_bitCount_0f7a4_27 : decode cJ6_bitCount_0f7a4 27 = .ok (.iushr, 1) := by decide +kernel
theorem dJ6_bitCount_0f7a4_28 : decode cJ6_bitCount_0f7a4 28 = .ok (.iadd, 1) := by decide +kernel
theorem dJ6_bitCount_0f7a4_29 : decode cJ6_bitCount_0f7a4 29 = .ok (.ldc_w 267, 3) := by decide +kernel
theorem dJ6_bitCount_0f7a4_32 : decode cJ6_bitCount_0f7a4 32 = .ok (.iand, 1) := by decide +kernel
theorem dJ6_bitCount_0f7a4_33 : decode cJ6_bitCount_0f7a4 33 = .ok (.istore_n 0, 1) := by decide +kernel
theorem dJ6_bitCount_0f7a4_34 : decode cJ6_bitCount_0f7a4 34 = .ok (.iload_n 0, 1) := by decide +kernel
theorem dJ6_bitCount_0f7a4_35 : decode cJ6_bitCount_0f7a4 35 = .ok (.iload_n 0, 1) := by decide +kernel
theorem dJ6_bitCount_0f7a4_36 : decode cJ6_bitCount_0f7a4 36 = .ok (.bipush 8, 2) := by decide +kernel
theorem dJ6_bitCount_0f7a4_38 : decode cJ6_bitCount_0f7a4 38 = .ok (.iushr, 1) := by decide +kernel
theorem dJ6_bitCount_0f7a4_39 : decode cJ6_bitCount_0f7a4 39 = .ok (.iadd, 1) := by decide +kernel
theorem dJ6_bitCount_0f7a4_40 : decode cJ6_bitCount_0f7a4 40 = .ok (.istore_n 0, 1) := by decide +kernel
theorem dJ6_bitCount_0f7a4_41 : decode cJ6_bitCount_0f7a4 41 = .ok (.iload_n 0, 1) := by decide +kernel
theorem dJ6_bitCount_0f7a4_42 : decode cJ6_bitCount_0f7a4 42 = .ok (.iload_n 0, 1) := by decide +kernel
theorem dJ6_bitCount_0f7a4_43 : decode cJ6_bitCount_0f7a4 43 = .ok (.bipush 16, 2) := by decide +kernel
theorem dJ6_bitCount_0f7a4_45 : decode cJ6_bitCount_0f7a4 45 = .ok (.iushr, 1) := by decide +kernel
theorem dJ6_bitCount_0f7a4_46 : decode cJ6_bitCount_0f7a4 46 = .ok (.iadd, 1) := by decide +kernel
theorem dJ6_bitCount_0f7a4_47 : decode cJ6_bitCount_0f7a4 47 = .ok (.istore_n 0, 1) := by decide +kernel
theorem dJ6_bitCount_0f7a4_48 : decode cJ6_bitCount_0f7a4 48 = .ok (.iload_n 0, 1) := by decide +kernel
theorem dJ6_bitCount_0f7a4_49 : decode cJ6_bitCount_0f7a4 49 = .ok (.bipush 63, 2) := by decide +kernel
theorem dJ6_bitCount_0f7a4_51 : decode cJ6_bitCount_0f7a4 51 = .ok (.iand, 1) := by decide +kernel
theorem dJ6_bitCount_0f7a4_52 : decode cJ6_bitCount_0f7a4 52 = .ok (.ireturn, 1) := by decide +kernel
theorem dJ7_fill_d0a16_0 : decode cJ7_fill_d0a16 0 = .ok (.iconst 0, 1) := by decide +kernel
theorem dJ7_fill_d0a16_1 : decode cJ7_fill_d0a16 1 = .ok (.istore_n 3, 1) := by decide +kernel
theorem dJ7_fill_d0a16_2 : decode cJ7_fill_d0a16 2 = .ok (.aload_n 0, 1) := by decide +kernel
theorem dJ7_fill_d0a16_3 : decode cJ7_fill_d0a16 3 = .ok (.arraylength, 1) := by decide +kernel
theorem dJ7_fill_d0a16_4 : decode cJ7_fill_d0a16 4 = .ok (.istore 4, 2) := by decide +kernel
theorem dJ7_fill_d0a16_6 : decode cJ7_fill_d0a16 6 = .ok (.iload_n 3, 1) := by decide +kernel
theorem dJ7_fill_d0a16_7 : decode cJ7_fill_d0a16 7 = .ok (.iload 4, 2) := by decide +kernel
theorem dJ7_fill_d0a16_9 : decode cJ7_fill_d0a16 9 = .ok (.if_icmp .ge 13, 3) := by decide +kernel
theorem dJ7_fill_d0a16_12 : decode cJ7_fill_d0a16 12 = .ok (.aload_n 0, 1) := by decide +kernel
theorem dJ7_fill_d0a16_13 : decode cJ7_fill_d0a16 13 = .ok (.iload_n 3, 1) := by decide +kernel
theorem dJ7_fill_d0a16_14 : decode cJ7_fill_d0a16 14 = .ok (.lload_n 1, 1) := by decide +kernel
theorem dJ7_fill_d0a16_15 : decode cJ7_fill_d0a16 15 = .ok (.lastore, 1) := by decide +kernel
theorem dJ7_fill_d0a16_16 : decode cJ7_fill_d0a16 16 = .ok (.iinc 3 1, 3) := by decide +kernel
theorem dJ7_fill_d0a16_19 : decode cJ7_fill_d0a16 19 = .ok (.goto (-13), 3) := by decide +kernel
theorem dJ7_fill_d0a16_22 : decode cJ7_fill_d0a16 22 = .ok (.return_, 1) := by decide +kernel
theorem dJ7_fill_53178_0 : decode cJ7_fill_53178 0 = .ok (.iconst 0, 1) := by decide +kernel
theorem dJ7_fill_53178_1 : decode cJ7_fill_53178 1 = .ok (.istore_n 2, 1) := by decide +kernel
theorem dJ7_fill_53178_2 : decode cJ7_fill_53178 2 = .ok (.aload_n 0, 1) := by decide +kernel
theorem dJ7_fill_53178_3 : decode cJ7_fill_53178 3 = .ok (.arraylength, 1) := by decide +kernel
theorem dJ7_fill_53178_4 : decode cJ7_fill_53178 4 = .ok (.istore_n 3, 1) := by decide +kernel
theorem dJ7_fill_53178_5 : decode cJ7_fill_53178 5 = .ok (.iload_n 2, 1) := by decide +kernel
theorem dJ7_fill_53178_6 : decode cJ7_fill_53178 6 = .ok (.iload_n 3, 1) := by decide +kernel
theorem dJ7_fill_53178_7 : decode cJ7_fill_53178 7 = .ok (.if_icmp .ge 13, 3) := by decide +kernel
theorem dJ7_fill_53178_10 : decode cJ7_fill_53178 10 = .ok (.aload_n 0, 1) := by decide +kernel
theorem dJ7_fill_53178_11 : decode cJ7_fill_53178 11 = .ok (.iload_n 2, 1) := by decide +kernel
theorem dJ7_fill_53178_12 : decode cJ7_fill_53178 12 = .ok (.iload_n 1, 1) := by decide +kernel
theorem dJ7_fill_53178_13 : decode cJ7_fill_53178 13 = .ok (.iastore, 1) := by decide +kernel
theorem dJ7_fill_53178_14 : decode cJ7_fill_53178 14 = .ok (.iinc 2 1, 3) := by decide +kernel
theorem dJ7_fill_53178_17 : decode cJ7_fill_53178 17 = .ok (.goto (-12), 3) := by decide +kernel
theorem dJ7_fill_53178_20 : decode cJ7_fill_53178 20 = .ok (.return_, 1) := by decide +kernel
theorem dJ9_max_7cf53_0 : decode cJ9_max_7cf53 0 = .ok (.iload_n 0, 1) := by decide +kernel
theorem dJ9_max_7cf53_1 : decode cJ9_max_7cf53 1 = .ok (.iload_n 1, 1) := by decide +kernel
theorem dJ9_max_7cf53_2 : decode cJ9_max_7cf53 2 = .ok (.if_icmp .lt 7, 3) := by decide +kernel
theorem dJ9_max_7cf53_5 : decode cJ9_max_7cf53 5 = .ok (.iload_n 0, 1) := by decide +kernel
theorem dJ9_max_7cf53_6 : decode cJ9_max_7cf53 6 = .ok (.goto 4, 3) := by decide +kernel
theorem dJ9_max_7cf53_9 : decode cJ9_max_7cf53 9 = .ok (.iload_n 1, 1) := by decide +kernel
theorem dJ9_max_7cf53_10 : decode cJ9_max_7cf53 10 = .ok (.ireturn, 1) := by decide +kernel
theorem dJ9_min_7cf53_0 : decode cJ9_min_7cf53 0 = .ok (.iload_n 0, 1) := by decide +kernel
theorem dJ9_min_7cf53_1 : decode cJ9_min_7cf53 1 = .ok (.iload_n 1, 1) := by decide +kernel
theorem dJ9_min_7cf53_2 : decode cJ9_min_7cf53 2 = .ok (.if_icmp .gt 7, 3) := by decide +kernel
theorem dJ9_min_7cf53_5 : decode cJ9_min_7cf53 5 = .ok (.iload_n 0, 1) := by decide +kernel
theorem dJ9_min_7cf53_6 : decode cJ9_min_7cf53 6 = .ok (.goto 4, 3) := by decide +kernel
theorem dJ9_min_7cf53_9 : decode cJ9_min_7cf53 9 = .ok (.iload_n 1, 1) := by decide +kernel
theorem dJ9_min_7cf53_10 : decode cJ9_min_7cf53 10 = .ok (.ireturn, 1) := by decide +kernel
theorem dJ11_isValidCodePoint_9a6ad_0 : decode cJ11_isValidCodePoint_9a6ad 0 = .ok (.iload_n 0, 1) := by decide +kernel
theorem dJ11_isValidCodePoint_9a6ad_1 : decode cJ11_isValidCodePoint_9a6ad 1 = .ok (.bipush 16, 2) := by decide +kernel
theorem dJ11_isValidCodePoint_9a6ad_3 : decode cJ11_isValidCodePoint_9a6ad 3 = .ok (.iushr, 1) := by decide +kernel
theorem dJ11_isValidCodePoint_9a6ad_4 : decode cJ11_isValidCodePoint_9a6ad 4 = .ok (.istore_n 1, 1) := by decide +kernel
theorem dJ11_isValidCodePoint_9a6ad_5 : decode cJ11_isValidCodePoint_9a6ad 5 = .ok (.iload_n 1, 1) := by decide +kernel
theorem dJ11_isValidCodePoint_9a6ad_6 : decode cJ11_isValidCodePoint_9a6ad 6 = .ok (.bipush 17, 2) := by decide +kernel
theorem dJ11_isValidCodePoint_9a6ad_8 : decode cJ11_isValidCodePoint_9a6ad 8 = .ok (.if_icmp .ge 7, 3) := by decide +kernel
theorem dJ11_isValidCodePoint_9a6ad_11 : decode cJ11_isValidCodePoint_9a6ad 11 = .ok (.iconst 1, 1) := by decide +kernel
theorem dJ11_isValidCodePoint_9a6ad_12 : decode cJ11_isValidCodePoint_9a6ad 12 = .ok (.goto 4, 3) := by decide +kernel
theorem dJ11_isValidCodePoint_9a6ad_15 : decode cJ11_isValidCodePoint_9a6ad 15 = .ok (.iconst 0, 1) := by decide +kernel
theorem dJ11_isValidCodePoint_9a6ad_16 : decode cJ11_isValidCodePoint_9a6ad 16 = .ok (.ireturn, 1) := by decide +kernel
theorem dJ11_highSurrogate_5068e_0 : decode cJ11_highSurrogate_5068e 0 = .ok (.iload_n 0, 1) := by decide +kernel
theorem dJ11_highSurrogate_5068e_1 : decode cJ11_highSurrogate_5068e 1 = .ok (.bipush 10, 2) := by decide +kernel
theorem dJ11_highSurrogate_5068e_3 : decode cJ11_highSurrogate_5068e 3 = .ok (.iushr, 1) := by decide +kernel
theorem dJ11_highSurrogate_5068e_4 : decode cJ11_highSurrogate_5068e 4 = .ok (.ldc 110, 2) := by decide +kernel
theorem dJ11_highSurrogate_5068e_6 : decode cJ11_highSurrogate_5068e 6 = .ok (.iadd, 1) := by decide +kernel
theorem dJ11_highSurrogate_5068e_7 : decode cJ11_highSurrogate_5068e 7 = .ok (.i2c, 1) := by decide +kernel
theorem dJ11_highSurrogate_5068e_8 : decode cJ11_highSurrogate_5068e 8 = .ok (.ireturn, 1) := by decide +kernel
theorem dJ11_lowSurrogate_5068e_0 : decode cJ11_lowSurrogate_5068e 0 = .ok (.iload_n 0, 1) := by decide +kernel
theorem dJ11_lowSurrogate_5068e_1 : decode cJ11_lowSurrogate_5068e 1 = .ok (.sipush 1023, 3) := by decide +kernel
theorem dJ11_lowSurrogate_5068e_4 : decode cJ11_lowSurrogate_5068e 4 = .ok (.iand, 1) := by decide +kernel
theorem dJ11_lowSurrogate_5068e_5 : decode cJ11_lowSurrogate_5068e 5 = .ok (.ldc 76, 2) := by decide +kernel
theorem dJ11_lowSurrogate_5068e_7 : decode cJ11_lowSurrogate_5068e 7 = .ok (.iadd, 1) := by decide +kernel
theorem dJ11_lowSurrogate_5068e_8 : decode cJ11_lowSurrogate_5068e 8 = .ok (.i2c, 1) := by decide +kernel
theorem dJ11_lowSurrogate_5068e_9 : decode cJ11_lowSurrogate_5068e 9 = .ok (.ireturn, 1) := by decide +kernel
theorem dL_law_0 : decode cL_law 0 = .ok (.new 7, 3) := by decide +kernel
theorem dL_law_3 : decode cL_law 3 = .ok (.dup, 1) := by decide +kernel
theorem dL_law_4 : decode cL_law 4 = .ok (.invokespecial 9, 3) := by decide +kernel
theorem dL_law_7 : decode cL_law 7 = .ok (.astore_n 1, 1) := by decide +kernel
theorem dL_law_8 : decode cL_law 8 = .ok (.new 10, 3) := by decide +kernel
theorem dL_law_11 : decode cL_law 11 = .ok (.dup, 1) := by decide +kernel
theorem dL_law_12 : decode cL_law 12 = .ok (.invokespecial 12, 3) := by decide +kernel
theorem dL_law_15 : decode cL_law 15 = .ok (.astore_n 2, 1) := by decide +kernel
theorem dL_law_16 : decode cL_law 16 = .ok (.iconst 0, 1) := by decide +kernel
theorem dL_law_17 : decode cL_law 17 = .ok (.istore_n 3, 1) := by decide +kernel
theorem dL_law_18 : decode cL_law 18 = .ok (.iload_n 3, 1) := by decide +kernel
theorem dL_law_19 : decode cL_law 19 = .ok (.aload_n 0, 1) := by decide +kernel
theorem dL_law_20 : decode cL_law 20 = .ok (.arraylength, 1) := by decide +kernel
theorem dL_law_21 : decode cL_law 21 = .ok (.bipush 6, 2) := by decide +kernel
theorem dL_law_23 : decode cL_law 23 = .ok (.isub, 1) := by decide +kernel
theorem dL_law_24 : decode cL_law 24 = .ok (.if_icmp .gt 1372, 3) := by decide +kernel
theorem dL_law_27 : decode cL_law 27 = .ok (.aload_n 0, 1) := by decide +kernel
theorem dL_law_28 : decode cL_law 28 = .ok (.iload_n 3, 1) := by decide +kernel
theorem dL_law_29 : decode cL_law 29 = .ok (.iaload, 1) := by decide +kernel
theorem dL_law_30 : decode cL_law 30 = .ok (.bipush 63, 2) := by decide +kernel
theorem dL_law_32 : decode cL_law 32 = .ok (.iand, 1) := by decide +kernel
theorem dL_law_33 : decode cL_law 33 = .ok (.tableswitch 1357 0 35 #[159, 182, 205, 258, 301, 334, 367, 400, 433, 466, 489, 502, 525, 558, 591, 614, 627, 650, 673, 696, 719, 752, 765, 778, 791, 804, 817, 870, 923, 976, 1039, 1102, 1145, 1188, 1211, 1294], 159) := by decide +kernel
theorem dL_law_192 : decode cL_law 192 = .ok (.aload_n 1, 1) := by decide +kernel
theorem dL_law_193 : decode cL_law 193 = .ok (.aload_n 0, 1) := by decide +kernel
theorem dL_law_194 : decode cL_law 194 = .ok (.iload_n 3, 1) := by decide +kernel
theorem dL_law_195 : decode cL_law 195 = .ok (.iconst 1, 1) := by decide +kernel
theorem dL_law_196 : decode cL_law 196 = .ok (.iadd, 1) := by decide +kernel
theorem dL_law_197 : decode cL_law 197 = .ok (.iaload, 1) := by decide +kernel
theorem dL_law_198 : decode cL_law 198 = .ok (.invokevirtual 13, 3) := by decide +kernel
theorem dL_law_201 : decode cL_law 201 = .ok (.aload_n 2, 1) := by decide +kernel
theorem dL_law_202 : decode cL_law 202 = .ok (.aload_n 0, 1) := by decide +kernel
theorem dL_law_203 : decode cL_law 203 = .ok (.iload_n 3, 1) := by decide +kernel
theorem dL_law_204 : decode cL_law 204 = .ok (.iconst 1, 1) := by decide +kernel
theorem dL_law_205 : decode cL_law 205 = .ok (.iadd, 1) := by decide +kernel
theorem dL_law_206 : decode cL_law 206 = .ok (.iaload, 1) := by decide +kernel
theorem dL_law_207 : decode cL_law 207 = .ok (.invokevirtual 17, 3) := by decide +kernel
theorem dL_law_210 : decode cL_law 210 = .ok (.if_icmp .eq 1180, 3) := by decide +kernel
theorem dL_law_213 : decode cL_law 213 = .ok (.iconst 0, 1) := by decide +kernel
theorem dL_law_214 : decode cL_law 214 = .ok (.ireturn, 1) := by decide +kernel
theorem dL_law_215 : decode cL_law 215 = .ok (.aload_n 1, 1) := by decide +kernel
theorem dL_law_216 : decode cL_law 216 = .ok (.aload_n 0, 1) := by decide +kernel
theorem dL_law_217 : decode cL_law 217 = .ok (.iload_n 3, 1) := by decide +kernel
theorem dL_law_218 : decode cL_law 218 = .ok (.iconst 1, 1) := by decide +kernel
theorem dL_law_219 : decode cL_law 219 = .ok (.iadd, 1) := by decide +kernel
theorem dL_law_220 : decode cL_law 220 = .ok (.iaload, 1) := by decide +kernel
theorem dL_law_221 : decode cL_law 221 = .ok (.invokevirtual 18, 3) := by decide +kernel
theorem dL_law_224 : decode cL_law 224 = .ok (.aload_n 2, 1) := by decide +kernel
theorem dL_law_225 : decode cL_law 225 = .ok (.aload_n 0, 1) := by decide +kernel
theorem dL_law_226 : decode cL_law 226 = .ok (.iload_n 3, 1) := by decide +kernel
theorem dL_law_227 : decode cL_law 227 = .ok (.iconst 1, 1) := by decide +kernel
theorem dL_law_228 : decode cL_law 228 = .ok (.iadd, 1) := by decide +kernel
theorem dL_law_229 : decode cL_law 229 = .ok (.iaload, 1) := by decide +kernel
theorem dL_law_230 : decode cL_law 230 = .ok (.invokevirtual 21, 3) := by decide +kernel
theorem dL_law_233 : decode cL_law 233 = .ok (.if_icmp .eq 1157, 3) := by decide +kernel
theorem dL_law_236 : decode cL_law 236 = .ok (.iconst 0, 1) := by decide +kernel
theorem dL_law_237 : decode cL_law 237 = .ok (.ireturn, 1) := by decide +kernel
theorem dL_law_238 : decode cL_law 238 = .ok (.aload_n 1, 1) := by decide +kernel
theorem dL_law_239 : decode cL_law 239 = .ok (.aload_n 0, 1) := by decide +kernel
theorem dL_law_240 : decode cL_law 240 = .ok (.iload_n 3, 1) := by decide +kernel
theorem dL_law_241 : decode cL_law 241 = .ok (.iconst 1, 1) := by decide +kernel
theorem dL_law_242 : decode cL_law 242 = .ok (.iadd, 1) := by decide +kernel
theorem dL_law_243 : decode cL_law 243 = .ok (.iaload, 1) := by decide +kernel
theorem dL_law_244 : decode cL_law 244 = .ok (.aload_n 0, 1) := by decide +kernel
theorem dL_law_245 : decode cL_law 245 = .ok (.iload_n 3, 1) := by decide +kernel
theorem dL_law_246 : decode cL_law 246 = .ok (.iconst 2, 1) := by decide +kernel
theorem dL_law_247 : decode cL_law 247 = .ok (.iadd, 1) := by decide +kernel
theorem dL_law_248 : decode cL_law 248 = .ok (.iaload, 1) := by decide +kernel
theorem dL_law_249 : decode cL_law 249 = .ok (.aload_n 0, 1) := by decide +kernel
theorem dL_law_250 : decode cL_law 250 = .ok (.iload_n 3, 1) := by decide +kernel
theorem dL_law_251 : decode cL_law 251 = .ok (.iconst 3, 1) := by decide +kernel
theorem dL_law_252 : decode cL_law 252 = .ok (.iadd, 1) := by decide +kernel
theorem dL_law_253 : decode cL_law 253 = .ok (.iaload, 1) := by decide +kernel
theorem dL_law_254 : decode cL_law 254 = .ok (.aload_n 0, 1) := by decide +kernel
end
section
theorem dL_law_255 : decode cL_law 255 = .ok (.iload_n 3, 1) := by decide +kernel
theorem dL_law_256 : decode cL_law 256 = .ok (.iconst 4, 1) := by decide +kernel
theorem dL_law_257 : decode cL_law 257 = .ok (.iadd, 1) := by decide +kernel
theorem dL_law_258 : decode cL_law 258 = .ok (.iaload, 1) := by decide +kernel
theorem dL_law_259 : decode cL_law 259 = .ok (.invokevirtual 22, 3) := by decide +kernel
theorem dL_law_262 : decode cL_law 262 = .ok (.aload_n 2, 1) := by decide +kernel
theorem dL_law_263 : decode cL_law 263 = .ok (.aload_n 0, 1) := by decide +kernel
theorem dL_law_264 : decode cL_law 264 = .ok (.iload_n 3, 1) := by decide +kernel
theorem dL_law_265 : decode cL_law 265 = .ok (.iconst 1, 1) := by decide +kernel
theorem dL_law_266 : decode cL_law 266 = .ok (.iadd, 1) := by decide +kernel
theorem dL_law_267 : decode cL_law 267 = .ok (.iaload, 1) := by decide +kernel
theorem dL_law_268 : decode cL_law 268 = .ok (.aload_n 0, 1) := by decide +kernel
theorem dL_law_269 : decode cL_law 269 = .ok (.iload_n 3, 1) := by decide +kernel
theorem dL_law_270 : decode cL_law 270 = .ok (.iconst 2, 1) := by decide +kernel
theorem dL_law_271 : decode cL_law 271 = .ok (.iadd, 1) := by decide +kernel
theorem dL_law_272 : decode cL_law 272 = .ok (.iaload, 1) := by decide +kernel
theorem dL_law_273 : decode cL_law 273 = .ok (.aload_n 0, 1) := by decide +kernel
theorem dL_law_274 : decode cL_law 274 = .ok (.iload_n 3, 1) := by decide +kernel
theorem dL_law_275 : decode cL_law 275 = .ok (.iconst 3, 1) := by decide +kernel
theorem dL_law_276 : decode cL_law 276 = .ok (.iadd, 1) := by decide +kernel
theorem dL_law_277 : decode cL_law 277 = .ok (.iaload, 1) := by decide +kernel
theorem dL_law_278 : decode cL_law 278 = .ok (.aload_n 0, 1) := by decide +kernel
theorem dL_law_279 : decode cL_law 279 = .ok (.iload_n 3, 1) := by decide +kernel
theorem dL_law_280 : decode cL_law 280 = .ok (.iconst 4, 1) := by decide +kernel
theorem dL_law_281 : decode cL_law 281 = .ok (.iadd, 1) := by decide +kernel
theorem dL_law_282 : decode cL_law 282 = .ok (.iaload, 1) := by decide +kernel
theorem dL_law_283 : decode cL_law 283 = .ok (.invokevirtual 26, 3) := by decide +kernel
theorem dL_law_286 : decode cL_law 286 = .ok (.if_icmp .eq 1104, 3) := by decide +kernel
theorem dL_law_289 : decode cL_law 289 = .ok (.iconst 0, 1) := by decide +kernel
theorem dL_law_290 : decode cL_law 290 = .ok (.ireturn, 1) := by decide +kernel
theorem dL_law_291 : decode cL_law 291 = .ok (.aload_n 1, 1) := by decide +kernel
theorem dL_law_292 : decode cL_law 292 = .ok (.aload_n 0, 1) := by decide +kernel
theorem dL_law_293 : decode cL_law 293 = .ok (.iload_n 3, 1) := by decide +kernel
theorem dL_law_294 : decode cL_law 294 = .ok (.iconst 1, 1) := by decide +kernel
theorem dL_law_295 : decode cL_law 295 = .ok (.iadd, 1) := by decide +kernel
theorem dL_law_296 : decode cL_law 296 = .ok (.iaload, 1) := by decide +kernel
theorem dL_law_297 : decode cL_law 297 = .ok (.aload_n 0, 1) := by decide +kernel
theorem dL_law_298 : decode cL_law 298 = .ok (.iload_n 3, 1) := by decide +kernel
theorem dL_law_299 : decode cL_law 299 = .ok (.iconst 2, 1) := by decide +kernel
theorem dL_law_300 : decode cL_law 300 = .ok (.iadd, 1) := by decide +kernel
theorem dL_law_301 : decode cL_law 301 = .ok (.iaload, 1) := by decide +kernel
theorem dL_law_302 : decode cL_law 302 = .ok (.aload_n 0, 1) := by decide +kernel
theorem dL_law_303 : decode cL_law 303 = .ok (.iload_n 3, 1) := by decide +kernel
theorem dL_law_304 : decode cL_law 304 = .ok (.iconst 3, 1) := by decide +kernel
theorem dL_law_305 : decode cL_law 305 = .ok (.iadd, 1) := by decide +kernel
theorem dL_law_306 : decode cL_law 306 = .ok (.iaload, 1) := by decide +kernel
theorem dL_law_307 : decode cL_law 307 = .ok (.invokevirtual 27, 3) := by decide +kernel
theorem dL_law_310 : decode cL_law 310 = .ok (.aload_n 2, 1) := by decide +kernel
theorem dL_law_311 : decode cL_law 311 = .ok (.aload_n 0, 1) := by decide +kernel
theorem dL_law_312 : decode cL_law 312 = .ok (.iload_n 3, 1) := by decide +kernel
theorem dL_law_313 : decode cL_law 313 = .ok (.iconst 1, 1) := by decide +kernel
theorem dL_law_314 : decode cL_law 314 = .ok (.iadd, 1) := by decide +kernel
theorem dL_law_315 : decode cL_law 315 = .ok (.iaload, 1) := by decide +kernel
theorem dL_law_316 : decode cL_law 316 = .ok (.aload_n 0, 1) := by decide +kernel
theorem dL_law_317 : decode cL_law 317 = .ok (.iload_n 3, 1) := by decide +kernel
theorem dL_law_318 : decode cL_law 318 = .ok (.iconst 2, 1) := by decide +kernel
theorem dL_law_319 : decode cL_law 319 = .ok (.iadd, 1) := by decide +kernel
theorem dL_law_320 : decode cL_law 320 = .ok (.iaload, 1) := by decide +kernel
theorem dL_law_321 : decode cL_law 321 = .ok (.aload_n 0, 1) := by decide +kernel
theorem dL_law_322 : decode cL_law 322 = .ok (.iload_n 3, 1) := by decide +kernel
theorem dL_law_323 : decode cL_law 323 = .ok (.iconst 3, 1) := by decide +kernel
theorem dL_law_324 : decode cL_law 324 = .ok (.iadd, 1) := by decide +kernel
theorem dL_law_325 : decode cL_law 325 = .ok (.iaload, 1) := by decide +kernel
theorem dL_law_326 : decode cL_law 326 = .ok (.invokevirtual 31, 3) := by decide +kernel
theorem dL_law_329 : decode cL_law 329 = .ok (.if_icmp .eq 1061, 3) := by decide +kernel
theorem dL_law_332 : decode cL_law 332 = .ok (.iconst 0, 1) := by decide +kernel
theorem dL_law_333 : decode cL_law 333 = .ok (.ireturn, 1) := by decide +kernel
theorem dL_law_334 : decode cL_law 334 = .ok (.aload_n 1, 1) := by decide +kernel
theorem dL_law_335 : decode cL_law 335 = .ok (.aload_n 0, 1) := by decide +kernel
theorem dL_law_336 : decode cL_law 336 = .ok (.iload_n 3, 1) := by decide +kernel
theorem dL_law_337 : decode cL_law 337 = .ok (.iconst 1, 1) := by decide +kernel
theorem dL_law_338 : decode cL_law 338 = .ok (.iadd, 1) := by decide +kernel
theorem dL_law_339 : decode cL_law 339 = .ok (.iaload, 1) := by decide +kernel
theorem dL_law_340 : decode cL_law 340 = .ok (.aload_n 0, 1) := by decide +kernel
theorem dL_law_341 : decode cL_law 341 = .ok (.iload_n 3, 1) := by decide +kernel
theorem dL_law_342 : decode cL_law 342 = .ok (.iconst 2, 1) := by decide +kernel
theorem dL_law_343 : decode cL_law 343 = .ok (.iadd, 1) := by decide +kernel
theorem dL_law_344 : decode cL_law 344 = .ok (.iaload, 1) := by decide +kernel
theorem dL_law_345 : decode cL_law 345 = .ok (.invokevirtual 32, 3) := by decide +kernel
theorem dL_law_348 : decode cL_law 348 = .ok (.aload_n 2, 1) := by decide +kernel
theorem dL_law_349 : decode cL_law 349 = .ok (.aload_n 0, 1) := by decide +kernel
theorem dL_law_350 : decode cL_law 350 = .ok (.iload_n 3, 1) := by decide +kernel
theorem dL_law_351 : decode cL_law 351 = .ok (.iconst 1, 1) := by decide +kernel
theorem dL_law_352 : decode cL_law 352 = .ok (.iadd, 1) := by decide +kernel
theorem dL_law_353 : decode cL_law 353 = .ok (.iaload, 1) := by decide +kernel
theorem dL_law_354 : decode cL_law 354 = .ok (.aload_n 0, 1) := by decide +kernel
theorem dL_law_355 : decode cL_law 355 = .ok (.iload_n 3, 1) := by decide +kernel
theorem dL_law_356 : decode cL_law 356 = .ok (.iconst 2, 1) := by decide +kernel
theorem dL_law_357 : decode cL_law 357 = .ok (.iadd, 1) := by decide +kernel
theorem dL_law_358 : decode cL_law 358 = .ok (.iaload, 1) := by decide +kernel
theorem dL_law_359 : decode cL_law 359 = .ok (.invokevirtual 36, 3) := by decide +kernel
theorem dL_law_362 : decode cL_law 362 = .ok (.if_icmp .eq 1028, 3) := by decide +kernel
theorem dL_law_365 : decode cL_law 365 = .ok (.iconst 0, 1) := by decide +kernel
theorem dL_law_366 : decode cL_law 366 = .ok (.ireturn, 1) := by decide +kernel
theorem dL_law_367 : decode cL_law 367 = .ok (.aload_n 1, 1) := by decide +kernel
theorem dL_law_368 : decode cL_law 368 = .ok (.aload_n 0, 1) := by decide +kernel
theorem dL_law_369 : decode cL_law 369 = .ok (.iload_n 3, 1) := by decide +kernel
theorem dL_law_370 : decode cL_law 370 = .ok (.iconst 1, 1) := by decide +kernel
theorem dL_law_371 : decode cL_law 371 = .ok (.iadd, 1) := by decide +kernel
theorem dL_law_372 : decode cL_law 372 = .ok (.iaload, 1) := by decide +kernel
theorem dL_law_373 : decode cL_law 373 = .ok (.aload_n 0, 1) := by decide +kernel
theorem dL_law_374 : decode cL_law 374 = .ok (.iload_n 3, 1) := by decide +kernel
theorem dL_law_375 : decode cL_law 375 = .ok (.iconst 2, 1) := by decide +kernel
theorem dL_law_376 : decode cL_law 376 = .ok (.iadd, 1) := by decide +kernel
theorem dL_law_377 : decode cL_law 377 = .ok (.iaload, 1) := by decide +kernel
theorem dL_law_378 : decode cL_law 378 = .ok (.invokevirtual 37, 3) := by decide +kernel
theorem dL_law_381 : decode cL_law 381 = .ok (.aload_n 2, 1) := by decide +kernel
theorem dL_law_382 : decode cL_law 382 = .ok (.aload_n 0, 1) := by decide +kernel
theorem dL_law_383 : decode cL_law 383 = .ok (.iload_n 3, 1) := by decide +kernel
theorem dL_law_384 : decode cL_law 384 = .ok (.iconst 1, 1) := by decide +kernel
theorem dL_law_385 : decode cL_law 385 = .ok (.iadd, 1) := by decide +kernel
theorem dL_law_386 : decode cL_law 386 = .ok (.iaload, 1) := by decide +kernel
theorem dL_law_387 : decode cL_law 387 = .ok (.aload_n 0, 1) := by decide +kernel
theorem dL_law_388 : decode cL_law 388 = .ok (.iload_n 3, 1) := by decide +kernel
theorem dL_law_389 : decode cL_law 389 = .ok (.iconst 2, 1) := by decide +kernel
theorem dL_law_390 : decode cL_law 390 = .ok (.iadd, 1) := by decide +kernel
theorem dL_law_391 : decode cL_law 391 = .ok (.iaload, 1) := by decide +kernel
theorem dL_law_392 : decode cL_law 392 = .ok (.invokevirtual 40, 3) := by decide +kernel
theorem dL_law_395 : decode cL_law 395 = .ok (.if_icmp .eq 995, 3) := by decide +kernel
theorem dL_law_398 : decode cL_law 398 = .ok (.iconst 0, 1) := by decide +kernel
theorem dL_law_399 : decode cL_law 399 = .ok (.ireturn, 1) := by decide +kernel
theorem dL_law_400 : decode cL_law 400 = .ok (.aload_n 1, 1) := by decide +kernel
theorem dL_law_401 : decode cL_law 401 = .ok (.aload_n 0, 1) := by decide +kernel
theorem dL_law_402 : decode cL_law 402 = .ok (.iload_n 3, 1) := by decide +kernel
theorem dL_law_403 : decode cL_law 403 = .ok (.iconst 1, 1) := by decide +kernel
theorem dL_law_404 : decode cL_law 404 = .ok (.iadd, 1) := by decide +kernel
theorem dL_law_405 : decode cL_law 405 = .ok (.iaload, 1) := by decide +kernel
theorem dL_law_406 : decode cL_law 406 = .ok (.aload_n 0, 1) := by decide +kernel
theorem dL_law_407 : decode cL_law 407 = .ok (.iload_n 3, 1) := by decide +kernel
theorem dL_law_408 : decode cL_law 408 = .ok (.iconst 2, 1) := by decide +kernel
theorem dL_law_409 : decode cL_law 409 = .ok (.iadd, 1) := by decide +kernel
theorem dL_law_410 : decode cL_law 410 = .ok (.iaload, 1) := by decide +kernel
theorem dL_law_411 : decode cL_law 411 = .ok (.invokevirtual 41, 3) := by decide +kernel
theorem dL_law_414 : decode cL_law 414 = .ok (.aload_n 2, 1) := by decide +kernel
theorem dL_law_415 : decode cL_law 415 = .ok (.aload_n 0, 1) := by decide +kernel
theorem dL_law_416 : decode cL_law 416 = .ok (.iload_n 3, 1) := by decide +kernel
theorem dL_law_417 : decode cL_law 417 = .ok (.iconst 1, 1) := by decide +kernel
theorem dL_law_418 : decode cL_law 418 = .ok (.iadd, 1) := by decide +kernel
theorem dL_law_419 : decode cL_law 419 = .ok (.iaload, 1) := by decide +kernel
theorem dL_law_420 : decode cL_law 420 = .ok (.aload_n 0, 1) := by decide +kernel
theorem dL_law_421 : decode cL_law 421 = .ok (.iload_n 3, 1) := by decide +kernel
theorem dL_law_422 : decode cL_law 422 = .ok (.iconst 2, 1) := by decide +kernel
theorem dL_law_423 : decode cL_law 423 = .ok (.iadd, 1) := by decide +kernel
theorem dL_law_424 : decode cL_law 424 = .ok (.iaload, 1) := by decide +kernel
theorem dL_law_425 : decode cL_law 425 = .ok (.invokevirtual 44, 3) := by decide +kernel
theorem dL_law_428 : decode cL_law 428 = .ok (.if_icmp .eq 962, 3) := by decide +kernel
theorem dL_law_431 : decode cL_law 431 = .ok (.iconst 0, 1) := by decide +kernel
theorem dL_law_432 : decode cL_law 432 = .ok (.ireturn, 1) := by decide +kernel
theorem dL_law_433 : decode cL_law 433 = .ok (.aload_n 1, 1) := by decide +kernel
theorem dL_law_434 : decode cL_law 434 = .ok (.aload_n 0, 1) := by decide +kernel
theorem dL_law_435 : decode cL_law 435 = .ok (.iload_n 3, 1) := by decide +kernel
theorem dL_law_436 : decode cL_law 436 = .ok (.iconst 1, 1) := by decide +kernel
theorem dL_law_437 : decode cL_law 437 = .ok (.iadd, 1) := by decide +kernel
theorem dL_law_438 : decode cL_law 438 = .ok (.iaload, 1) := by decide +kernel
theorem dL_law_439 : decode cL_law 439 = .ok (.aload_n 0, 1) := by decide +kernel
theorem dL_law_440 : decode cL_law 440 = .ok (.iload_n 3, 1) := by decide +kernel
theorem dL_law_441 : decode cL_law 441 = .ok (.iconst 2, 1) := by decide +kernel
theorem dL_law_442 : decode cL_law 442 = .ok (.iadd, 1) := by decide +kernel
theorem dL_law_443 : decode cL_law 443 = .ok (.iaload, 1) := by decide +kernel
theorem dL_law_444 : decode cL_law 444 = .ok (.invokevirtual 45, 3) := by decide +kernel
theorem dL_law_447 : decode cL_law 447 = .ok (.aload_n 2, 1) := by decide +kernel
theorem dL_law_448 : decode cL_law 448 = .ok (.aload_n 0, 1) := by decide +kernel
theorem dL_law_449 : decode cL_law 449 = .ok (.iload_n 3, 1) := by decide +kernel
theorem dL_law_450 : decode cL_law 450 = .ok (.iconst 1, 1) := by decide +kernel
theorem dL_law_451 : decode cL_law 451 = .ok (.iadd, 1) := by decide +kernel
theorem dL_law_452 : decode cL_law 452 = .ok (.iaload, 1) := by decide +kernel
theorem dL_law_453 : decode cL_law 453 = .ok (.aload_n 0, 1) := by decide +kernel
theorem dL_law_454 : decode cL_law 454 = .ok (.iload_n 3, 1) := by decide +kernel
theorem dL_law_455 : decode cL_law 455 = .ok (.iconst 2, 1) := by decide +kernel
theorem dL_law_456 : decode cL_law 456 = .ok (.iadd, 1) := by decide +kernel
theorem dL_law_457 : decode cL_law 457 = .ok (.iaload, 1) := by decide +kernel
theorem dL_law_458 : decode cL_law 458 = .ok (.invokevirtual 48, 3) := by decide +kernel
theorem dL_law_461 : decode cL_law 461 = .ok (.if_icmp .eq 929, 3) := by decide +kernel
theorem dL_law_464 : decode cL_law 464 = .ok (.iconst 0, 1) := by decide +kernel
theorem dL_law_465 : decode cL_law 465 = .ok (.ireturn, 1) := by decide +kernel
theorem dL_law_466 : decode cL_law 466 = .ok (.aload_n 1, 1) := by decide +kernel
theorem dL_law_467 : decode cL_law 467 = .ok (.aload_n 0, 1) := by decide +kernel
theorem dL_law_468 : decode cL_law 468 = .ok (.iload_n 3, 1) := by decide +kernel
theorem dL_law_469 : decode cL_law 469 = .ok (.iconst 1, 1) := by decide +kernel
theorem dL_law_470 : decode cL_law 470 = .ok (.iadd, 1) := by decide +kernel
theorem dL_law_471 : decode cL_law 471 = .ok (.iaload, 1) := by decide +kernel
theorem dL_law_472 : decode cL_law 472 = .ok (.aload_n 0, 1) := by decide +kernel
theorem dL_law_473 : decode cL_law 473 = .ok (.iload_n 3, 1) := by decide +kernel
theorem dL_law_474 : decode cL_law 474 = .ok (.iconst 2, 1) := by decide +kernel
theorem dL_law_475 : decode cL_law 475 = .ok (.iadd, 1) := by decide +kernel
theorem dL_law_476 : decode cL_law 476 = .ok (.iaload, 1) := by decide +kernel
theorem dL_law_477 : decode cL_law 477 = .ok (.invokevirtual 49, 3) := by decide +kernel
theorem dL_law_480 : decode cL_law 480 = .ok (.aload_n 2, 1) := by decide +kernel
theorem dL_law_481 : decode cL_law 481 = .ok (.aload_n 0, 1) := by decide +kernel
theorem dL_law_482 : decode cL_law 482 = .ok (.iload_n 3, 1) := by decide +kernel
theorem dL_law_483 : decode cL_law 483 = .ok (.iconst 1, 1) := by decide +kernel
theorem dL_law_484 : decode cL_law 484 = .ok (.iadd, 1) := by decide +kernel
theorem dL_law_485 : decode cL_law 485 = .ok (.iaload, 1) := by decide +kernel
theorem dL_law_486 : decode cL_law 486 = .ok (.aload_n 0, 1) := by decide +kernel
theorem dL_law_487 : decode cL_law 487 = .ok (.iload_n 3, 1) := by decide +kernel
theorem dL_law_488 : decode cL_law 488 = .ok (.iconst 2, 1) := by decide +kernel
theorem dL_law_489 : decode cL_law 489 = .ok (.iadd, 1) := by decide +kernel
theorem dL_law_490 : decode cL_law 490 = .ok (.iaload, 1) := by decide +kernel
theorem dL_law_491 : decode cL_law 491 = .ok (.invokevirtual 52, 3) := by decide +kernel
theorem dL_law_494 : decode cL_law 494 = .ok (.if_icmp .eq 896, 3) := by decide +kernel
theorem dL_law_497 : decode cL_law 497 = .ok (.iconst 0, 1) := by decide +kernel
theorem dL_law_498 : decode cL_law 498 = .ok (.ireturn, 1) := by decide +kernel
theorem dL_law_499 : decode cL_law 499 = .ok (.aload_n 1, 1) := by decide +kernel
theorem dL_law_500 : decode cL_law 500 = .ok (.aload_n 0, 1) := by decide +kernel
theorem dL_law_501 : decode cL_law 501 = .ok (.iload_n 3, 1) := by decide +kernel
theorem dL_law_502 : decode cL_law 502 = .ok (.iconst 1, 1) := by decide +kernel
theorem dL_law_503 : decode cL_law 503 = .ok (.iadd, 1) := by decide +kernel
theorem dL_law_504 : decode cL_law 504 = .ok (.iaload, 1) := by decide +kernel
theorem dL_law_505 : decode cL_law 505 = .ok (.invokevirtual 53, 3) := by decide +kernel
theorem dL_law_508 : decode cL_law 508 = .ok (.aload_n 2, 1) := by decide +kernel
theorem dL_law_509 : decode cL_law 509 = .ok (.aload_n 0, 1) := by decide +kernel
theorem dL_law_510 : decode cL_law 510 = .ok (.iload_n 3, 1) := by decide +kernel
theorem dL_law_511 : decode cL_law 511 = .ok (.iconst 1, 1) := by decide +kernel
theorem dL_law_512 : decode cL_law 512 = .ok (.iadd, 1) := by decide +kernel
theorem dL_law_513 : decode cL_law 513 = .ok (.iaload, 1) := by decide +kernel
theorem dL_law_514 : decode cL_law 514 = .ok (.invokevirtual 56, 3) := by decide +kernel
theorem dL_law_517 : decode cL_law 517 = .ok (.if_icmp .eq 873, 3) := by decide +kernel
theorem dL_law_520 : decode cL_law 520 = .ok (.iconst 0, 1) := by decide +kernel
theorem dL_law_521 : decode cL_law 521 = .ok (.ireturn, 1) := by decide +kernel
theorem dL_law_522 : decode cL_law 522 = .ok (.aload_n 1, 1) := by decide +kernel
theorem dL_law_523 : decode cL_law 523 = .ok (.invokevirtual 57, 3) := by decide +kernel
theorem dL_law_526 : decode cL_law 526 = .ok (.aload_n 2, 1) := by decide +kernel
theorem dL_law_527 : decode cL_law 527 = .ok (.invokevirtual 61, 3) := by decide +kernel
theorem dL_law_530 : decode cL_law 530 = .ok (.if_icmp .eq 860, 3) := by decide +kernel
theorem dL_law_533 : decode cL_law 533 = .ok (.iconst 0, 1) := by decide +kernel
theorem dL_law_534 : decode cL_law 534 = .ok (.ireturn, 1) := by decide +kernel
theorem dL_law_535 : decode cL_law 535 = .ok (.aload_n 1, 1) := by decide +kernel
theorem dL_law_536 : decode cL_law 536 = .ok (.aload_n 0, 1) := by decide +kernel
theorem dL_law_537 : decode cL_law 537 = .ok (.iload_n 3, 1) := by decide +kernel
theorem dL_law_538 : decode cL_law 538 = .ok (.iconst 1, 1) := by decide +kernel
theorem dL_law_539 : decode cL_law 539 = .ok (.iadd, 1) := by decide +kernel
theorem dL_law_540 : decode cL_law 540 = .ok (.iaload, 1) := by decide +kernel
theorem dL_law_541 : decode cL_law 541 = .ok (.invokevirtual 62, 3) := by decide +kernel
theorem dL_law_544 : decode cL_law 544 = .ok (.aload_n 2, 1) := by decide +kernel
theorem dL_law_545 : decode cL_law 545 = .ok (.aload_n 0, 1) := by decide +kernel
theorem dL_law_546 : decode cL_law 546 = .ok (.iload_n 3, 1) := by decide +kernel
theorem dL_law_547 : decode cL_law 547 = .ok (.iconst 1, 1) := by decide +kernel
theorem dL_law_548 : decode cL_law 548 = .ok (.iadd, 1) := by decide +kernel
theorem dL_law_549 : decode cL_law 549 = .ok (.iaload, 1) := by decide +kernel
theorem dL_law_550 : decode cL_law 550 = .ok (.invokevirtual 65, 3) := by decide +kernel
theorem dL_law_553 : decode cL_law 553 = .ok (.if_icmp .eq 837, 3) := by decide +kernel
theorem dL_law_556 : decode cL_law 556 = .ok (.iconst 0, 1) := by decide +kernel
theorem dL_law_557 : decode cL_law 557 = .ok (.ireturn, 1) := by decide +kernel
theorem dL_law_558 : decode cL_law 558 = .ok (.aload_n 1, 1) := by decide +kernel
theorem dL_law_559 : decode cL_law 559 = .ok (.aload_n 0, 1) := by decide +kernel
theorem dL_law_560 : decode cL_law 560 = .ok (.iload_n 3, 1) := by decide +kernel
theorem dL_law_561 : decode cL_law 561 = .ok (.iconst 1, 1) := by decide +kernel
theorem dL_law_562 : decode cL_law 562 = .ok (.iadd, 1) := by decide +kernel
theorem dL_law_563 : decode cL_law 563 = .ok (.iaload, 1) := by decide +kernel
theorem dL_law_564 : decode cL_law 564 = .ok (.aload_n 0, 1) := by decide +kernel
theorem dL_law_565 : decode cL_law 565 = .ok (.iload_n 3, 1) := by decide +kernel
theorem dL_law_566 : decode cL_law 566 = .ok (.iconst 2, 1) := by decide +kernel
theorem dL_law_567 : decode cL_law 567 = .ok (.iadd, 1) := by decide +kernel
theorem dL_law_568 : decode cL_law 568 = .ok (.iaload, 1) := by decide +kernel
theorem dL_law_569 : decode cL_law 569 = .ok (.invokevirtual 66, 3) := by decide +kernel
theorem dL_law_572 : decode cL_law 572 = .ok (.aload_n 2, 1) := by decide +kernel
theorem dL_law_573 : decode cL_law 573 = .ok (.aload_n 0, 1) := by decide +kernel
theorem dL_law_574 : decode cL_law 574 = .ok (.iload_n 3, 1) := by decide +kernel
theorem dL_law_575 : decode cL_law 575 = .ok (.iconst 1, 1) := by decide +kernel
theorem dL_law_576 : decode cL_law 576 = .ok (.iadd, 1) := by decide +kernel
theorem dL_law_577 : decode cL_law 577 = .ok (.iaload, 1) := by decide +kernel
theorem dL_law_578 : decode cL_law 578 = .ok (.aload_n 0, 1) := by decide +kernel
theorem dL_law_579 : decode cL_law 579 = .ok (.iload_n 3, 1) := by decide +kernel
theorem dL_law_580 : decode cL_law 580 = .ok (.iconst 2, 1) := by decide +kernel
theorem dL_law_581 : decode cL_law 581 = .ok (.iadd, 1) := by decide +kernel
theorem dL_law_582 : decode cL_law 582 = .ok (.iaload, 1) := by decide +kernel
theorem dL_law_583 : decode cL_law 583 = .ok (.invokevirtual 69, 3) := by decide +kernel
theorem dL_law_586 : decode cL_law 586 = .ok (.if_icmp .eq 804, 3) := by decide +kernel
theorem dL_law_589 : decode cL_law 589 = .ok (.iconst 0, 1) := by decide +kernel
theorem dL_law_590 : decode cL_law 590 = .ok (.ireturn, 1) := by decide +kernel
theorem dL_law_591 : decode cL_law 591 = .ok (.aload_n 1, 1) := by decide +kernel
theorem dL_law_592 : decode cL_law 592 = .ok (.aload_n 0, 1) := by decide +kernel
theorem dL_law_593 : decode cL_law 593 = .ok (.iload_n 3, 1) := by decide +kernel
theorem dL_law_594 : decode cL_law 594 = .ok (.iconst 1, 1) := by decide +kernel
theorem dL_law_595 : decode cL_law 595 = .ok (.iadd, 1) := by decide +kernel
theorem dL_law_596 : decode cL_law 596 = .ok (.iaload, 1) := by decide +kernel
theorem dL_law_597 : decode cL_law 597 = .ok (.aload_n 0, 1) := by decide +kernel
theorem dL_law_598 : decode cL_law 598 = .ok (.iload_n 3, 1) := by decide +kernel
theorem dL_law_599 : decode cL_law 599 = .ok (.iconst 2, 1) := by decide +kernel
theorem dL_law_600 : decode cL_law 600 = .ok (.iadd, 1) := by decide +kernel
theorem dL_law_601 : decode cL_law 601 = .ok (.iaload, 1) := by decide +kernel
theorem dL_law_602 : decode cL_law 602 = .ok (.invokevirtual 70, 3) := by decide +kernel
theorem dL_law_605 : decode cL_law 605 = .ok (.aload_n 2, 1) := by decide +kernel
theorem dL_law_606 : decode cL_law 606 = .ok (.aload_n 0, 1) := by decide +kernel
theorem dL_law_607 : decode cL_law 607 = .ok (.iload_n 3, 1) := by decide +kernel
theorem dL_law_608 : decode cL_law 608 = .ok (.iconst 1, 1) := by decide +kernel
theorem dL_law_609 : decode cL_law 609 = .ok (.iadd, 1) := by decide +kernel
theorem dL_law_610 : decode cL_law 610 = .ok (.iaload, 1) := by decide +kernel
theorem dL_law_611 : decode cL_law 611 = .ok (.aload_n 0, 1) := by decide +kernel
theorem dL_law_612 : decode cL_law 612 = .ok (.iload_n 3, 1) := by decide +kernel
theorem dL_law_613 : decode cL_law 613 = .ok (.iconst 2, 1) := by decide +kernel
theorem dL_law_614 : decode cL_law 614 = .ok (.iadd, 1) := by decide +kernel
theorem dL_law_615 : decode cL_law 615 = .ok (.iaload, 1) := by decide +kernel
theorem dL_law_616 : decode cL_law 616 = .ok (.invokevirtual 73, 3) := by decide +kernel
theorem dL_law_619 : decode cL_law 619 = .ok (.if_icmp .eq 771, 3) := by decide +kernel
theorem dL_law_622 : decode cL_law 622 = .ok (.iconst 0, 1) := by decide +kernel
theorem dL_law_623 : decode cL_law 623 = .ok (.ireturn, 1) := by decide +kernel
theorem dL_law_624 : decode cL_law 624 = .ok (.aload_n 1, 1) := by decide +kernel
theorem dL_law_625 : decode cL_law 625 = .ok (.aload_n 0, 1) := by decide +kernel
theorem dL_law_626 : decode cL_law 626 = .ok (.iload_n 3, 1) := by decide +kernel
theorem dL_law_627 : decode cL_law 627 = .ok (.iconst 1, 1) := by decide +kernel
theorem dL_law_628 : decode cL_law 628 = .ok (.iadd, 1) := by decide +kernel
theorem dL_law_629 : decode cL_law 629 = .ok (.iaload, 1) := by decide +kernel
theorem dL_law_630 : decode cL_law 630 = .ok (.invokevirtual 74, 3) := by decide +kernel
theorem dL_law_633 : decode cL_law 633 = .ok (.aload_n 2, 1) := by decide +kernel
theorem dL_law_634 : decode cL_law 634 = .ok (.aload_n 0, 1) := by decide +kernel
theorem dL_law_635 : decode cL_law 635 = .ok (.iload_n 3, 1) := by decide +kernel
theorem dL_law_636 : decode cL_law 636 = .ok (.iconst 1, 1) := by decide +kernel
theorem dL_law_637 : decode cL_law 637 = .ok (.iadd, 1) := by decide +kernel
theorem dL_law_638 : decode cL_law 638 = .ok (.iaload, 1) := by decide +kernel
theorem dL_law_639 : decode cL_law 639 = .ok (.invokevirtual 77, 3) := by decide +kernel
theorem dL_law_642 : decode cL_law 642 = .ok (.if_icmp .eq 748, 3) := by decide +kernel
theorem dL_law_645 : decode cL_law 645 = .ok (.iconst 0, 1) := by decide +kernel
theorem dL_law_646 : decode cL_law 646 = .ok (.ireturn, 1) := by decide +kernel
theorem dL_law_647 : decode cL_law 647 = .ok (.aload_n 1, 1) := by decide +kernel
theorem dL_law_648 : decode cL_law 648 = .ok (.invokevirtual 78, 3) := by decide +kernel
theorem dL_law_651 : decode cL_law 651 = .ok (.aload_n 2, 1) := by decide +kernel
theorem dL_law_652 : decode cL_law 652 = .ok (.invokevirtual 81, 3) := by decide +kernel
theorem dL_law_655 : decode cL_law 655 = .ok (.if_icmp .eq 735, 3) := by decide +kernel
theorem dL_law_658 : decode cL_law 658 = .ok (.iconst 0, 1) := by decide +kernel
theorem dL_law_659 : decode cL_law 659 = .ok (.ireturn, 1) := by decide +kernel
theorem dL_law_660 : decode cL_law 660 = .ok (.aload_n 1, 1) := by decide +kernel
theorem dL_law_661 : decode cL_law 661 = .ok (.aload_n 0, 1) := by decide +kernel
theorem dL_law_662 : decode cL_law 662 = .ok (.iload_n 3, 1) := by decide +kernel
theorem dL_law_663 : decode cL_law 663 = .ok (.iconst 1, 1) := by decide +kernel
theorem dL_law_664 : decode cL_law 664 = .ok (.iadd, 1) := by decide +kernel
theorem dL_law_665 : decode cL_law 665 = .ok (.iaload, 1) := by decide +kernel
theorem dL_law_666 : decode cL_law 666 = .ok (.invokevirtual 82, 3) := by decide +kernel
theorem dL_law_669 : decode cL_law 669 = .ok (.aload_n 2, 1) := by decide +kernel
theorem dL_law_670 : decode cL_law 670 = .ok (.aload_n 0, 1) := by decide +kernel
theorem dL_law_671 : decode cL_law 671 = .ok (.iload_n 3, 1) := by decide +kernel
theorem dL_law_672 : decode cL_law 672 = .ok (.iconst 1, 1) := by decide +kernel
theorem dL_law_673 : decode cL_law 673 = .ok (.iadd, 1) := by decide +kernel
theorem dL_law_674 : decode cL_law 674 = .ok (.iaload, 1) := by decide +kernel
theorem dL_law_675 : decode cL_law 675 = .ok (.invokevirtual 85, 3) := by decide +kernel
theorem dL_law_678 : decode cL_law 678 = .ok (.if_icmp .eq 712, 3) := by decide +kernel
theorem dL_law_681 : decode cL_law 681 = .ok (.iconst 0, 1) := by decide +kernel
theorem dL_law_682 : decode cL_law 682 = .ok (.ireturn, 1) := by decide +kernel
theorem dL_law_683 : decode cL_law 683 = .ok (.aload_n 1, 1) := by decide +kernel
theorem dL_law_684 : decode cL_law 684 = .ok (.aload_n 0, 1) := by decide +kernel
theorem dL_law_685 : decode cL_law 685 = .ok (.iload_n 3, 1) := by decide +kernel
theorem dL_law_686 : decode cL_law 686 = .ok (.iconst 1, 1) := by decide +kernel
theorem dL_law_687 : decode cL_law 687 = .ok (.iadd, 1) := by decide +kernel
theorem dL_law_688 : decode cL_law 688 = .ok (.iaload, 1) := by decide +kernel
theorem dL_law_689 : decode cL_law 689 = .ok (.invokevirtual 86, 3) := by decide +kernel
theorem dL_law_692 : decode cL_law 692 = .ok (.aload_n 2, 1) := by decide +kernel
theorem dL_law_693 : decode cL_law 693 = .ok (.aload_n 0, 1) := by decide +kernel
theorem dL_law_694 : decode cL_law 694 = .ok (.iload_n 3, 1) := by decide +kernel
theorem dL_law_695 : decode cL_law 695 = .ok (.iconst 1, 1) := by decide +kernel
theorem dL_law_696 : decode cL_law 696 = .ok (.iadd, 1) := by decide +kernel
theorem dL_law_697 : decode cL_law 697 = .ok (.iaload, 1) := by decide +kernel
theorem dL_law_698 : decode cL_law 698 = .ok (.invokevirtual 89, 3) := by decide +kernel
theorem dL_law_701 : decode cL_law 701 = .ok (.if_icmp .eq 689, 3) := by decide +kernel
theorem dL_law_704 : decode cL_law 704 = .ok (.iconst 0, 1) := by decide +kernel
theorem dL_law_705 : decode cL_law 705 = .ok (.ireturn, 1) := by decide +kernel
theorem dL_law_706 : decode cL_law 706 = .ok (.aload_n 1, 1) := by decide +kernel
theorem dL_law_707 : decode cL_law 707 = .ok (.aload_n 0, 1) := by decide +kernel
theorem dL_law_708 : decode cL_law 708 = .ok (.iload_n 3, 1) := by decide +kernel
theorem dL_law_709 : decode cL_law 709 = .ok (.iconst 1, 1) := by decide +kernel
theorem dL_law_710 : decode cL_law 710 = .ok (.iadd, 1) := by decide +kernel
theorem dL_law_711 : decode cL_law 711 = .ok (.iaload, 1) := by decide +kernel
theorem dL_law_712 : decode cL_law 712 = .ok (.invokevirtual 90, 3) := by decide +kernel
theorem dL_law_715 : decode cL_law 715 = .ok (.aload_n 2, 1) := by decide +kernel
theorem dL_law_716 : decode cL_law 716 = .ok (.aload_n 0, 1) := by decide +kernel
theorem dL_law_717 : decode cL_law 717 = .ok (.iload_n 3, 1) := by decide +kernel
theorem dL_law_718 : decode cL_law 718 = .ok (.iconst 1, 1) := by decide +kernel
theorem dL_law_719 : decode cL_law 719 = .ok (.iadd, 1) := by decide +kernel
theorem dL_law_720 : decode cL_law 720 = .ok (.iaload, 1) := by decide +kernel
theorem dL_law_721 : decode cL_law 721 = .ok (.invokevirtual 93, 3) := by decide +kernel
theorem dL_law_724 : decode cL_law 724 = .ok (.if_icmp .eq 666, 3) := by decide +kernel
theorem dL_law_727 : decode cL_law 727 = .ok (.iconst 0, 1) := by decide +kernel
theorem dL_law_728 : decode cL_law 728 = .ok (.ireturn, 1) := by decide +kernel
theorem dL_law_729 : decode cL_law 729 = .ok (.aload_n 1, 1) := by decide +kernel
theorem dL_law_730 : decode cL_law 730 = .ok (.aload_n 0, 1) := by decide +kernel
theorem dL_law_731 : decode cL_law 731 = .ok (.iload_n 3, 1) := by decide +kernel
theorem dL_law_732 : decode cL_law 732 = .ok (.iconst 1, 1) := by decide +kernel
theorem dL_law_733 : decode cL_law 733 = .ok (.iadd, 1) := by decide +kernel
theorem dL_law_734 : decode cL_law 734 = .ok (.iaload, 1) := by decide +kernel
theorem dL_law_735 : decode cL_law 735 = .ok (.invokevirtual 94, 3) := by decide +kernel
theorem dL_law_738 : decode cL_law 738 = .ok (.aload_n 2, 1) := by decide +kernel
theorem dL_law_739 : decode cL_law 739 = .ok (.aload_n 0, 1) := by decide +kernel
theorem dL_law_740 : decode cL_law 740 = .ok (.iload_n 3, 1) := by decide +kernel
theorem dL_law_741 : decode cL_law 741 = .ok (.iconst 1, 1) := by decide +kernel
theorem dL_law_742 : decode cL_law 742 = .ok (.iadd, 1) := by decide +kernel
theorem dL_law_743 : decode cL_law 743 = .ok (.iaload, 1) := by decide +kernel
theorem dL_law_744 : decode cL_law 744 = .ok (.invokevirtual 97, 3) := by decide +kernel
theorem dL_law_747 : decode cL_law 747 = .ok (.if_icmp .eq 643, 3) := by decide +kernel
theorem dL_law_750 : decode cL_law 750 = .ok (.iconst 0, 1) := by decide +kernel
theorem dL_law_751 : decode cL_law 751 = .ok (.ireturn, 1) := by decide +kernel
theorem dL_law_752 : decode cL_law 752 = .ok (.aload_n 1, 1) := by decide +kernel
theorem dL_law_753 : decode cL_law 753 = .ok (.aload_n 0, 1) := by decide +kernel
theorem dL_law_754 : decode cL_law 754 = .ok (.iload_n 3, 1) := by decide +kernel
theorem dL_law_755 : decode cL_law 755 = .ok (.iconst 1, 1) := by decide +kernel
theorem dL_law_756 : decode cL_law 756 = .ok (.iadd, 1) := by decide +kernel
theorem dL_law_757 : decode cL_law 757 = .ok (.iaload, 1) := by decide +kernel
theorem dL_law_758 : decode cL_law 758 = .ok (.aload_n 0, 1) := by decide +kernel
theorem dL_law_759 : decode cL_law 759 = .ok (.iload_n 3, 1) := by decide +kernel
theorem dL_law_760 : decode cL_law 760 = .ok (.iconst 2, 1) := by decide +kernel
theorem dL_law_761 : decode cL_law 761 = .ok (.iadd, 1) := by decide +kernel
theorem dL_law_762 : decode cL_law 762 = .ok (.iaload, 1) := by decide +kernel
theorem dL_law_763 : decode cL_law 763 = .ok (.invokevirtual 98, 3) := by decide +kernel
theorem dL_law_766 : decode cL_law 766 = .ok (.aload_n 2, 1) := by decide +kernel
theorem dL_law_767 : decode cL_law 767 = .ok (.aload_n 0, 1) := by decide +kernel
theorem dL_law_768 : decode cL_law 768 = .ok (.iload_n 3, 1) := by decide +kernel
theorem dL_law_769 : decode cL_law 769 = .ok (.iconst 1, 1) := by decide +kernel
theorem dL_law_770 : decode cL_law 770 = .ok (.iadd, 1) := by decide +kernel
theorem dL_law_771 : decode cL_law 771 = .ok (.iaload, 1) := by decide +kernel
theorem dL_law_772 : decode cL_law 772 = .ok (.aload_n 0, 1) := by decide +kernel
theorem dL_law_773 : decode cL_law 773 = .ok (.iload_n 3, 1) := by decide +kernel
theorem dL_law_774 : decode cL_law 774 = .ok (.iconst 2, 1) := by decide +kernel
theorem dL_law_775 : decode cL_law 775 = .ok (.iadd, 1) := by decide +kernel
theorem dL_law_776 : decode cL_law 776 = .ok (.iaload, 1) := by decide +kernel
theorem dL_law_777 : decode cL_law 777 = .ok (.invokevirtual 101, 3) := by decide +kernel
theorem dL_law_780 : decode cL_law 780 = .ok (.if_icmp .eq 610, 3) := by decide +kernel
theorem dL_law_783 : decode cL_law 783 = .ok (.iconst 0, 1) := by decide +kernel
theorem dL_law_784 : decode cL_law 784 = .ok (.ireturn, 1) := by decide +kernel
theorem dL_law_785 : decode cL_law 785 = .ok (.aload_n 1, 1) := by decide +kernel
theorem dL_law_786 : decode cL_law 786 = .ok (.invokevirtual 102, 3) := by decide +kernel
theorem dL_law_789 : decode cL_law 789 = .ok (.aload_n 2, 1) := by decide +kernel
theorem dL_law_790 : decode cL_law 790 = .ok (.invokevirtual 105, 3) := by decide +kernel
theorem dL_law_793 : decode cL_law 793 = .ok (.if_icmp .eq 597, 3) := by decide +kernel
theorem dL_law_796 : decode cL_law 796 = .ok (.iconst 0, 1) := by decide +kernel
theorem dL_law_797 : decode cL_law 797 = .ok (.ireturn, 1) := by decide +kernel
theorem dL_law_798 : decode cL_law 798 = .ok (.aload_n 1, 1) := by decide +kernel
theorem dL_law_799 : decode cL_law 799 = .ok (.invokevirtual 106, 3) := by decide +kernel
theorem dL_law_802 : decode cL_law 802 = .ok (.aload_n 2, 1) := by decide +kernel
theorem dL_law_803 : decode cL_law 803 = .ok (.invokevirtual 109, 3) := by decide +kernel
theorem dL_law_806 : decode cL_law 806 = .ok (.if_icmp .eq 584, 3) := by decide +kernel
theorem dL_law_809 : decode cL_law 809 = .ok (.iconst 0, 1) := by decide +kernel
theorem dL_law_810 : decode cL_law 810 = .ok (.ireturn, 1) := by decide +kernel
theorem dL_law_811 : decode cL_law 811 = .ok (.aload_n 1, 1) := by decide +kernel
theorem dL_law_812 : decode cL_law 812 = .ok (.invokevirtual 110, 3) := by decide +kernel
theorem dL_law_815 : decode cL_law 815 = .ok (.aload_n 2, 1) := by decide +kernel
theorem dL_law_816 : decode cL_law 816 = .ok (.invokevirtual 113, 3) := by decide +kernel
theorem dL_law_819 : decode cL_law 819 = .ok (.if_icmp .eq 571, 3) := by decide +kernel
theorem dL_law_822 : decode cL_law 822 = .ok (.iconst 0, 1) := by decide +kernel
theorem dL_law_823 : decode cL_law 823 = .ok (.ireturn, 1) := by decide +kernel
theorem dL_law_824 : decode cL_law 824 = .ok (.aload_n 1, 1) := by decide +kernel
theorem dL_law_825 : decode cL_law 825 = .ok (.invokevirtual 114, 3) := by decide +kernel
theorem dL_law_828 : decode cL_law 828 = .ok (.aload_n 2, 1) := by decide +kernel
theorem dL_law_829 : decode cL_law 829 = .ok (.invokevirtual 117, 3) := by decide +kernel
theorem dL_law_832 : decode cL_law 832 = .ok (.if_icmp .eq 558, 3) := by decide +kernel
theorem dL_law_835 : decode cL_law 835 = .ok (.iconst 0, 1) := by decide +kernel
theorem dL_law_836 : decode cL_law 836 = .ok (.ireturn, 1) := by decide +kernel
theorem dL_law_837 : decode cL_law 837 = .ok (.aload_n 1, 1) := by decide +kernel
theorem dL_law_838 : decode cL_law 838 = .ok (.invokevirtual 118, 3) := by decide +kernel
theorem dL_law_841 : decode cL_law 841 = .ok (.aload_n 2, 1) := by decide +kernel
theorem dL_law_842 : decode cL_law 842 = .ok (.invokevirtual 121, 3) := by decide +kernel
theorem dL_law_845 : decode cL_law 845 = .ok (.if_icmp .eq 545, 3) := by decide +kernel
theorem dL_law_848 : decode cL_law 848 = .ok (.iconst 0, 1) := by decide +kernel
theorem dL_law_849 : decode cL_law 849 = .ok (.ireturn, 1) := by decide +kernel
theorem dL_law_850 : decode cL_law 850 = .ok (.aload_n 1, 1) := by decide +kernel
theorem dL_law_851 : decode cL_law 851 = .ok (.aload_n 0, 1) := by decide +kernel
theorem dL_law_852 : decode cL_law 852 = .ok (.iload_n 3, 1) := by decide +kernel
theorem dL_law_853 : decode cL_law 853 = .ok (.iconst 1, 1) := by decide +kernel
theorem dL_law_854 : decode cL_law 854 = .ok (.iadd, 1) := by decide +kernel
theorem dL_law_855 : decode cL_law 855 = .ok (.iaload, 1) := by decide +kernel
theorem dL_law_856 : decode cL_law 856 = .ok (.aload_n 0, 1) := by decide +kernel
theorem dL_law_857 : decode cL_law 857 = .ok (.iload_n 3, 1) := by decide +kernel
theorem dL_law_858 : decode cL_law 858 = .ok (.iconst 2, 1) := by decide +kernel
theorem dL_law_859 : decode cL_law 859 = .ok (.iadd, 1) := by decide +kernel
theorem dL_law_860 : decode cL_law 860 = .ok (.iaload, 1) := by decide +kernel
theorem dL_law_861 : decode cL_law 861 = .ok (.aload_n 0, 1) := by decide +kernel
theorem dL_law_862 : decode cL_law 862 = .ok (.iload_n 3, 1) := by decide +kernel
theorem dL_law_863 : decode cL_law 863 = .ok (.iconst 3, 1) := by decide +kernel
theorem dL_law_864 : decode cL_law 864 = .ok (.iadd, 1) := by decide +kernel
theorem dL_law_865 : decode cL_law 865 = .ok (.iaload, 1) := by decide +kernel
theorem dL_law_866 : decode cL_law 866 = .ok (.aload_n 0, 1) := by decide +kernel
theorem dL_law_867 : decode cL_law 867 = .ok (.iload_n 3, 1) := by decide +kernel
theorem dL_law_868 : decode cL_law 868 = .ok (.iconst 4, 1) := by decide +kernel
theorem dL_law_869 : decode cL_law 869 = .ok (.iadd, 1) := by decide +kernel
theorem dL_law_870 : decode cL_law 870 = .ok (.iaload, 1) := by decide +kernel
theorem dL_law_871 : decode cL_law 871 = .ok (.invokevirtual 122, 3) := by decide +kernel
theorem dL_law_874 : decode cL_law 874 = .ok (.aload_n 2, 1) := by decide +kernel
theorem dL_law_875 : decode cL_law 875 = .ok (.aload_n 0, 1) := by decide +kernel
theorem dL_law_876 : decode cL_law 876 = .ok (.iload_n 3, 1) := by decide +kernel
theorem dL_law_877 : decode cL_law 877 = .ok (.iconst 1, 1) := by decide +kernel
theorem dL_law_878 : decode cL_law 878 = .ok (.iadd, 1) := by decide +kernel
theorem dL_law_879 : decode cL_law 879 = .ok (.iaload, 1) := by decide +kernel
theorem dL_law_880 : decode cL_law 880 = .ok (.aload_n 0, 1) := by decide +kernel
theorem dL_law_881 : decode cL_law 881 = .ok (.iload_n 3, 1) := by decide +kernel
theorem dL_law_882 : decode cL_law 882 = .ok (.iconst 2, 1) := by decide +kernel
theorem dL_law_883 : decode cL_law 883 = .ok (.iadd, 1) := by decide +kernel
theorem dL_law_884 : decode cL_law 884 = .ok (.iaload, 1) := by decide +kernel
theorem dL_law_885 : decode cL_law 885 = .ok (.aload_n 0, 1) := by decide +kernel
theorem dL_law_886 : decode cL_law 886 = .ok (.iload_n 3, 1) := by decide +kernel
theorem dL_law_887 : decode cL_law 887 = .ok (.iconst 3, 1) := by decide +kernel
theorem dL_law_888 : decode cL_law 888 = .ok (.iadd, 1) := by decide +kernel
theorem dL_law_889 : decode cL_law 889 = .ok (.iaload, 1) := by decide +kernel
theorem dL_law_890 : decode cL_law 890 = .ok (.aload_n 0, 1) := by decide +kernel
theorem dL_law_891 : decode cL_law 891 = .ok (.iload_n 3, 1) := by decide +kernel
theorem dL_law_892 : decode cL_law 892 = .ok (.iconst 4, 1) := by decide +kernel
theorem dL_law_893 : decode cL_law 893 = .ok (.iadd, 1) := by decide +kernel
theorem dL_law_894 : decode cL_law 894 = .ok (.iaload, 1) := by decide +kernel
theorem dL_law_895 : decode cL_law 895 = .ok (.invokevirtual 125, 3) := by decide +kernel
theorem dL_law_898 : decode cL_law 898 = .ok (.if_icmp .eq 492, 3) := by decide +kernel
theorem dL_law_901 : decode cL_law 901 = .ok (.iconst 0, 1) := by decide +kernel
theorem dL_law_902 : decode cL_law 902 = .ok (.ireturn, 1) := by decide +kernel
theorem dL_law_903 : decode cL_law 903 = .ok (.aload_n 1, 1) := by decide +kernel
theorem dL_law_904 : decode cL_law 904 = .ok (.aload_n 0, 1) := by decide +kernel
theorem dL_law_905 : decode cL_law 905 = .ok (.iload_n 3, 1) := by decide +kernel
theorem dL_law_906 : decode cL_law 906 = .ok (.iconst 1, 1) := by decide +kernel
theorem dL_law_907 : decode cL_law 907 = .ok (.iadd, 1) := by decide +kernel
theorem dL_law_908 : decode cL_law 908 = .ok (.iaload, 1) := by decide +kernel
theorem dL_law_909 : decode cL_law 909 = .ok (.aload_n 0, 1) := by decide +kernel
theorem dL_law_910 : decode cL_law 910 = .ok (.iload_n 3, 1) := by decide +kernel
theorem dL_law_911 : decode cL_law 911 = .ok (.iconst 2, 1) := by decide +kernel
theorem dL_law_912 : decode cL_law 912 = .ok (.iadd, 1) := by decide +kernel
theorem dL_law_913 : decode cL_law 913 = .ok (.iaload, 1) := by decide +kernel
theorem dL_law_914 : decode cL_law 914 = .ok (.aload_n 0, 1) := by decide +kernel
theorem dL_law_915 : decode cL_law 915 = .ok (.iload_n 3, 1) := by decide +kernel
theorem dL_law_916 : decode cL_law 916 = .ok (.iconst 3, 1) := by decide +kernel
theorem dL_law_917 : decode cL_law 917 = .ok (.iadd, 1) := by decide +kernel
theorem dL_law_918 : decode cL_law 918 = .ok (.iaload, 1) := by decide +kernel
theorem dL_law_919 : decode cL_law 919 = .ok (.aload_n 0, 1) := by decide +kernel
theorem dL_law_920 : decode cL_law 920 = .ok (.iload_n 3, 1) := by decide +kernel
theorem dL_law_921 : decode cL_law 921 = .ok (.iconst 4, 1) := by decide +kernel
theorem dL_law_922 : decode cL_law 922 = .ok (.iadd, 1) := by decide +kernel
theorem dL_law_923 : decode cL_law 923 = .ok (.iaload, 1) := by decide +kernel
theorem dL_law_924 : decode cL_law 924 = .ok (.invokevirtual 126, 3) := by decide +kernel
theorem dL_law_927 : decode cL_law 927 = .ok (.aload_n 2, 1) := by decide +kernel
theorem dL_law_928 : decode cL_law 928 = .ok (.aload_n 0, 1) := by decide +kernel
theorem dL_law_929 : decode cL_law 929 = .ok (.iload_n 3, 1) := by decide +kernel
theorem dL_law_930 : decode cL_law 930 = .ok (.iconst 1, 1) := by decide +kernel
theorem dL_law_931 : decode cL_law 931 = .ok (.iadd, 1) := by decide +kernel
theorem dL_law_932 : decode cL_law 932 = .ok (.iaload, 1) := by decide +kernel
theorem dL_law_933 : decode cL_law 933 = .ok (.aload_n 0, 1) := by decide +kernel
theorem dL_law_934 : decode cL_law 934 = .ok (.iload_n 3, 1) := by decide +kernel
theorem dL_law_935 : decode cL_law 935 = .ok (.iconst 2, 1) := by decide +kernel
theorem dL_law_936 : decode cL_law 936 = .ok (.iadd, 1) := by decide +kernel
theorem dL_law_937 : decode cL_law 937 = .ok (.iaload, 1) := by decide +kernel
theorem dL_law_938 : decode cL_law 938 = .ok (.aload_n 0, 1) := by decide +kernel
theorem dL_law_939 : decode cL_law 939 = .ok (.iload_n 3, 1) := by decide +kernel
theorem dL_law_940 : decode cL_law 940 = .ok (.iconst 3, 1) := by decide +kernel
theorem dL_law_941 : decode cL_law 941 = .ok (.iadd, 1) := by decide +kernel
theorem dL_law_942 : decode cL_law 942 = .ok (.iaload, 1) := by decide +kernel
theorem dL_law_943 : decode cL_law 943 = .ok (.aload_n 0, 1) := by decide +kernel
theorem dL_law_944 : decode cL_law 944 = .ok (.iload_n 3, 1) := by decide +kernel
theorem dL_law_945 : decode cL_law 945 = .ok (.iconst 4, 1) := by decide +kernel
theorem dL_law_946 : decode cL_law 946 = .ok (.iadd, 1) := by decide +kernel
theorem dL_law_947 : decode cL_law 947 = .ok (.iaload, 1) := by decide +kernel
theorem dL_law_948 : decode cL_law 948 = .ok (.invokevirtual 129, 3) := by decide +kernel
theorem dL_law_951 : decode cL_law 951 = .ok (.if_icmp .eq 439, 3) := by decide +kernel
theorem dL_law_954 : decode cL_law 954 = .ok (.iconst 0, 1) := by decide +kernel
theorem dL_law_955 : decode cL_law 955 = .ok (.ireturn, 1) := by decide +kernel
theorem dL_law_956 : decode cL_law 956 = .ok (.aload_n 1, 1) := by decide +kernel
theorem dL_law_957 : decode cL_law 957 = .ok (.aload_n 0, 1) := by decide +kernel
theorem dL_law_958 : decode cL_law 958 = .ok (.iload_n 3, 1) := by decide +kernel
theorem dL_law_959 : decode cL_law 959 = .ok (.iconst 1, 1) := by decide +kernel
theorem dL_law_960 : decode cL_law 960 = .ok (.iadd, 1) := by decide +kernel
theorem dL_law_961 : decode cL_law 961 = .ok (.iaload, 1) := by decide +kernel
theorem dL_law_962 : decode cL_law 962 = .ok (.aload_n 0, 1) := by decide +kernel
theorem dL_law_963 : decode cL_law 963 = .ok (.iload_n 3, 1) := by decide +kernel
theorem dL_law_964 : decode cL_law 964 = .ok (.iconst 2, 1) := by decide +kernel
theorem dL_law_965 : decode cL_law 965 = .ok (.iadd, 1) := by decide +kernel
theorem dL_law_966 : decode cL_law 966 = .ok (.iaload, 1) := by decide +kernel
theorem dL_law_967 : decode cL_law 967 = .ok (.aload_n 0, 1) := by decide +kernel
theorem dL_law_968 : decode cL_law 968 = .ok (.iload_n 3, 1) := by decide +kernel
theorem dL_law_969 : decode cL_law 969 = .ok (.iconst 3, 1) := by decide +kernel
theorem dL_law_970 : decode cL_law 970 = .ok (.iadd, 1) := by decide +kernel
theorem dL_law_971 : decode cL_law 971 = .ok (.iaload, 1) := by decide +kernel
theorem dL_law_972 : decode cL_law 972 = .ok (.aload_n 0, 1) := by decide +kernel
theorem dL_law_973 : decode cL_law 973 = .ok (.iload_n 3, 1) := by decide +kernel
theorem dL_law_974 : decode cL_law 974 = .ok (.iconst 4, 1) := by decide +kernel
theorem dL_law_975 : decode cL_law 975 = .ok (.iadd, 1) := by decide +kernel
theorem dL_law_976 : decode cL_law 976 = .ok (.iaload, 1) := by decide +kernel
theorem dL_law_977 : decode cL_law 977 = .ok (.invokevirtual 130, 3) := by decide +kernel
theorem dL_law_980 : decode cL_law 980 = .ok (.aload_n 2, 1) := by decide +kernel
theorem dL_law_981 : decode cL_law 981 = .ok (.aload_n 0, 1) := by decide +kernel
theorem dL_law_982 : decode cL_law 982 = .ok (.iload_n 3, 1) := by decide +kernel
theorem dL_law_983 : decode cL_law 983 = .ok (.iconst 1, 1) := by decide +kernel
theorem dL_law_984 : decode cL_law 984 = .ok (.iadd, 1) := by decide +kernel
theorem dL_law_985 : decode cL_law 985 = .ok (.iaload, 1) := by decide +kernel
theorem dL_law_986 : decode cL_law 986 = .ok (.aload_n 0, 1) := by decide +kernel
theorem dL_law_987 : decode cL_law 987 = .ok (.iload_n 3, 1) := by decide +kernel
theorem dL_law_988 : decode cL_law 988 = .ok (.iconst 2, 1) := by decide +kernel
theorem dL_law_989 : decode cL_law 989 = .ok (.iadd, 1) := by decide +kernel
theorem dL_law_990 : decode cL_law 990 = .ok (.iaload, 1) := by decide +kernel
theorem dL_law_991 : decode cL_law 991 = .ok (.aload_n 0, 1) := by decide +kernel
theorem dL_law_992 : decode cL_law 992 = .ok (.iload_n 3, 1) := by decide +kernel
theorem dL_law_993 : decode cL_law 993 = .ok (.iconst 3, 1) := by decide +kernel
theorem dL_law_994 : decode cL_law 994 = .ok (.iadd, 1) := by decide +kernel
theorem dL_law_995 : decode cL_law 995 = .ok (.iaload, 1) := by decide +kernel
theorem dL_law_996 : decode cL_law 996 = .ok (.aload_n 0, 1) := by decide +kernel
theorem dL_law_997 : decode cL_law 997 = .ok (.iload_n 3, 1) := by decide +kernel
theorem dL_law_998 : decode cL_law 998 = .ok (.iconst 4, 1) := by decide +kernel
theorem dL_law_999 : decode cL_law 999 = .ok (.iadd, 1) := by decide +kernel
theorem dL_law_1000 : decode cL_law 1000 = .ok (.iaload, 1) := by decide +kernel
theorem dL_law_1001 : decode cL_law 1001 = .ok (.invokevirtual 133, 3) := by decide +kernel
theorem dL_law_1004 : decode cL_law 1004 = .ok (.if_icmp .eq 386, 3) := by decide +kernel
theorem dL_law_1007 : decode cL_law 1007 = .ok (.iconst 0, 1) := by decide +kernel
theorem dL_law_1008 : decode cL_law 1008 = .ok (.ireturn, 1) := by decide +kernel
theorem dL_law_1009 : decode cL_law 1009 = .ok (.aload_n 1, 1) := by decide +kernel
theorem dL_law_1010 : decode cL_law 1010 = .ok (.aload_n 0, 1) := by decide +kernel
theorem dL_law_1011 : decode cL_law 1011 = .ok (.iload_n 3, 1) := by decide +kernel
theorem dL_law_1012 : decode cL_law 1012 = .ok (.iconst 1, 1) := by decide +kernel
theorem dL_law_1013 : decode cL_law 1013 = .ok (.iadd, 1) := by decide +kernel
theorem dL_law_1014 : decode cL_law 1014 = .ok (.iaload, 1) := by decide +kernel
theorem dL_law_1015 : decode cL_law 1015 = .ok (.aload_n 0, 1) := by decide +kernel
theorem dL_law_1016 : decode cL_law 1016 = .ok (.iload_n 3, 1) := by decide +kernel
theorem dL_law_1017 : decode cL_law 1017 = .ok (.iconst 2, 1) := by decide +kernel
theorem dL_law_1018 : decode cL_law 1018 = .ok (.iadd, 1) := by decide +kernel
theorem dL_law_1019 : decode cL_law 1019 = .ok (.iaload, 1) := by decide +kernel
theorem dL_law_1020 : decode cL_law 1020 = .ok (.aload_n 0, 1) := by decide +kernel
theorem dL_law_1021 : decode cL_law 1021 = .ok (.iload_n 3, 1) := by decide +kernel
theorem dL_law_1022 : decode cL_law 1022 = .ok (.iconst 3, 1) := by decide +kernel
theorem dL_law_1023 : decode cL_law 1023 = .ok (.iadd, 1) := by decide +kernel
theorem dL_law_1024 : decode cL_law 1024 = .ok (.iaload, 1) := by decide +kernel
theorem dL_law_1025 : decode cL_law 1025 = .ok (.aload_n 0, 1) := by decide +kernel
theorem dL_law_1026 : decode cL_law 1026 = .ok (.iload_n 3, 1) := by decide +kernel
theorem dL_law_1027 : decode cL_law 1027 = .ok (.iconst 4, 1) := by decide +kernel
theorem dL_law_1028 : decode cL_law 1028 = .ok (.iadd, 1) := by decide +kernel
theorem dL_law_1029 : decode cL_law 1029 = .ok (.iaload, 1) := by decide +kernel
theorem dL_law_1030 : decode cL_law 1030 = .ok (.aload_n 0, 1) := by decide +kernel
theorem dL_law_1031 : decode cL_law 1031 = .ok (.iload_n 3, 1) := by decide +kernel
theorem dL_law_1032 : decode cL_law 1032 = .ok (.iconst 5, 1) := by decide +kernel
theorem dL_law_1033 : decode cL_law 1033 = .ok (.iadd, 1) := by decide +kernel
theorem dL_law_1034 : decode cL_law 1034 = .ok (.iaload, 1) := by decide +kernel
theorem dL_law_1035 : decode cL_law 1035 = .ok (.invokevirtual 134, 3) := by decide +kernel
theorem dL_law_1038 : decode cL_law 1038 = .ok (.aload_n 2, 1) := by decide +kernel
theorem dL_law_1039 : decode cL_law 1039 = .ok (.aload_n 0, 1) := by decide +kernel
theorem dL_law_1040 : decode cL_law 1040 = .ok (.iload_n 3, 1) := by decide +kernel
theorem dL_law_1041 : decode cL_law 1041 = .ok (.iconst 1, 1) := by decide +kernel
theorem dL_law_1042 : decode cL_law 1042 = .ok (.iadd, 1) := by decide +kernel
theorem dL_law_1043 : decode cL_law 1043 = .ok (.iaload, 1) := by decide +kernel
theorem dL_law_1044 : decode cL_law 1044 = .ok (.aload_n 0, 1) := by decide +kernel
theorem dL_law_1045 : decode cL_law 1045 = .ok (.iload_n 3, 1) := by decide +kernel
theorem dL_law_1046 : decode cL_law 1046 = .ok (.iconst 2, 1) := by decide +kernel
theorem dL_law_1047 : decode cL_law 1047 = .ok (.iadd, 1) := by decide +kernel
theorem dL_law_1048 : decode cL_law 1048 = .ok (.iaload, 1) := by decide +kernel
theorem dL_law_1049 : decode cL_law 1049 = .ok (.aload_n 0, 1) := by decide +kernel
theorem dL_law_1050 : decode cL_law 1050 = .ok (.iload_n 3, 1) := by decide +kernel
theorem dL_law_1051 : decode cL_law 1051 = .ok (.iconst 3, 1) := by decide +kernel
theorem dL_law_1052 : decode cL_law 1052 = .ok (.iadd, 1) := by decide +kernel
theorem dL_law_1053 : decode cL_law 1053 = .ok (.iaload, 1) := by decide +kernel
theorem dL_law_1054 : decode cL_law 1054 = .ok (.aload_n 0, 1) := by decide +kernel
theorem dL_law_1055 : decode cL_law 1055 = .ok (.iload_n 3, 1) := by decide +kernel
theorem dL_law_1056 : decode cL_law 1056 = .ok (.iconst 4, 1) := by decide +kernel
theorem dL_law_1057 : decode cL_law 1057 = .ok (.iadd, 1) := by decide +kernel
theorem dL_law_1058 : decode cL_law 1058 = .ok (.iaload, 1) := by decide +kernel
theorem dL_law_1059 : decode cL_law 1059 = .ok (.aload_n 0, 1) := by decide +kernel
theorem dL_law_1060 : decode cL_law 1060 = .ok (.iload_n 3, 1) := by decide +kernel
theorem dL_law_1061 : decode cL_law 1061 = .ok (.iconst 5, 1) := by decide +kernel
theorem dL_law_1062 : decode cL_law 1062 = .ok (.iadd, 1) := by decide +kernel
theorem dL_law_1063 : decode cL_law 1063 = .ok (.iaload, 1) := by decide +kernel
theorem dL_law_1064 : decode cL_law 1064 = .ok (.invokevirtual 138, 3) := by decide +kernel
theorem dL_law_1067 : decode cL_law 1067 = .ok (.if_icmp .eq 323, 3) := by decide +kernel
theorem dL_law_1070 : decode cL_law 1070 = .ok (.iconst 0, 1) := by decide +kernel
theorem dL_law_1071 : decode cL_law 1071 = .ok (.ireturn, 1) := by decide +kernel
theorem dL_law_1072 : decode cL_law 1072 = .ok (.aload_n 1, 1) := by decide +kernel
theorem dL_law_1073 : decode cL_law 1073 = .ok (.aload_n 0, 1) := by decide +kernel
theorem dL_law_1074 : decode cL_law 1074 = .ok (.iload_n 3, 1) := by decide +kernel
theorem dL_law_1075 : decode cL_law 1075 = .ok (.iconst 1, 1) := by decide +kernel
theorem dL_law_1076 : decode cL_law 1076 = .ok (.iadd, 1) := by decide +kernel
theorem dL_law_1077 : decode cL_law 1077 = .ok (.iaload, 1) := by decide +kernel
theorem dL_law_1078 : decode cL_law 1078 = .ok (.aload_n 0, 1) := by decide +kernel
theorem dL_law_1079 : decode cL_law 1079 = .ok (.iload_n 3, 1) := by decide +kernel
theorem dL_law_1080 : decode cL_law 1080 = .ok (.iconst 2, 1) := by decide +kernel
theorem dL_law_1081 : decode cL_law 1081 = .ok (.iadd, 1) := by decide +kernel
theorem dL_law_1082 : decode cL_law 1082 = .ok (.iaload, 1) := by decide +kernel
theorem dL_law_1083 : decode cL_law 1083 = .ok (.aload_n 0, 1) := by decide +kernel
theorem dL_law_1084 : decode cL_law 1084 = .ok (.iload_n 3, 1) := by decide +kernel
theorem dL_law_1085 : decode cL_law 1085 = .ok (.iconst 3, 1) := by decide +kernel
theorem dL_law_1086 : decode cL_law 1086 = .ok (.iadd, 1) := by decide +kernel
theorem dL_law_1087 : decode cL_law 1087 = .ok (.iaload, 1) := by decide +kernel
theorem dL_law_1088 : decode cL_law 1088 = .ok (.aload_n 0, 1) := by decide +kernel
theorem dL_law_1089 : decode cL_law 1089 = .ok (.iload_n 3, 1) := by decide +kernel
theorem dL_law_1090 : decode cL_law 1090 = .ok (.iconst 4, 1) := by decide +kernel
theorem dL_law_1091 : decode cL_law 1091 = .ok (.iadd, 1) := by decide +kernel
theorem dL_law_1092 : decode cL_law 1092 = .ok (.iaload, 1) := by decide +kernel
theorem dL_law_1093 : decode cL_law 1093 = .ok (.aload_n 0, 1) := by decide +kernel
theorem dL_law_1094 : decode cL_law 1094 = .ok (.iload_n 3, 1) := by decide +kernel
theorem dL_law_1095 : decode cL_law 1095 = .ok (.iconst 5, 1) := by decide +kernel
theorem dL_law_1096 : decode cL_law 1096 = .ok (.iadd, 1) := by decide +kernel
theorem dL_law_1097 : decode cL_law 1097 = .ok (.iaload, 1) := by decide +kernel
theorem dL_law_1098 : decode cL_law 1098 = .ok (.invokevirtual 139, 3) := by decide +kernel
theorem dL_law_1101 : decode cL_law 1101 = .ok (.aload_n 2, 1) := by decide +kernel
theorem dL_law_1102 : decode cL_law 1102 = .ok (.aload_n 0, 1) := by decide +kernel
theorem dL_law_1103 : decode cL_law 1103 = .ok (.iload_n 3, 1) := by decide +kernel
theorem dL_law_1104 : decode cL_law 1104 = .ok (.iconst 1, 1) := by decide +kernel
theorem dL_law_1105 : decode cL_law 1105 = .ok (.iadd, 1) := by decide +kernel
theorem dL_law_1106 : decode cL_law 1106 = .ok (.iaload, 1) := by decide +kernel
theorem dL_law_1107 : decode cL_law 1107 = .ok (.aload_n 0, 1) := by decide +kernel
theorem dL_law_1108 : decode cL_law 1108 = .ok (.iload_n 3, 1) := by decide +kernel
theorem dL_law_1109 : decode cL_law 1109 = .ok (.iconst 2, 1) := by decide +kernel
theorem dL_law_1110 : decode cL_law 1110 = .ok (.iadd, 1) := by decide +kernel
theorem dL_law_1111 : decode cL_law 1111 = .ok (.iaload, 1) := by decide +kernel
theorem dL_law_1112 : decode cL_law 1112 = .ok (.aload_n 0, 1) := by decide +kernel
theorem dL_law_1113 : decode cL_law 1113 = .ok (.iload_n 3, 1) := by decide +kernel
theorem dL_law_1114 : decode cL_law 1114 = .ok (.iconst 3, 1) := by decide +kernel
theorem dL_law_1115 : decode cL_law 1115 = .ok (.iadd, 1) := by decide +kernel
theorem dL_law_1116 : decode cL_law 1116 = .ok (.iaload, 1) := by decide +kernel
theorem dL_law_1117 : decode cL_law 1117 = .ok (.aload_n 0, 1) := by decide +kernel
theorem dL_law_1118 : decode cL_law 1118 = .ok (.iload_n 3, 1) := by decide +kernel
theorem dL_law_1119 : decode cL_law 1119 = .ok (.iconst 4, 1) := by decide +kernel
theorem dL_law_1120 : decode cL_law 1120 = .ok (.iadd, 1) := by decide +kernel
theorem dL_law_1121 : decode cL_law 1121 = .ok (.iaload, 1) := by decide +kernel
theorem dL_law_1122 : decode cL_law 1122 = .ok (.aload_n 0, 1) := by decide +kernel
theorem dL_law_1123 : decode cL_law 1123 = .ok (.iload_n 3, 1) := by decide +kernel
theorem dL_law_1124 : decode cL_law 1124 = .ok (.iconst 5, 1) := by decide +kernel
end
section
theorem dL_law_1125 : decode cL_law 1125 = .ok (.iadd, 1) := by decide +kernel
theorem dL_law_1126 : decode cL_law 1126 = .ok (.iaload, 1) := by decide +kernel
theorem dL_law_1127 : decode cL_law 1127 = .ok (.invokevirtual 142, 3) := by decide +kernel
theorem dL_law_1130 : decode cL_law 1130 = .ok (.if_icmp .eq 260, 3) := by decide +kernel
theorem dL_law_1133 : decode cL_law 1133 = .ok (.iconst 0, 1) := by decide +kernel
theorem dL_law_1134 : decode cL_law 1134 = .ok (.ireturn, 1) := by decide +kernel
theorem dL_law_1135 : decode cL_law 1135 = .ok (.aload_n 1, 1) := by decide +kernel
theorem dL_law_1136 : decode cL_law 1136 = .ok (.aload_n 0, 1) := by decide +kernel
theorem dL_law_1137 : decode cL_law 1137 = .ok (.iload_n 3, 1) := by decide +kernel
theorem dL_law_1138 : decode cL_law 1138 = .ok (.iconst 1, 1) := by decide +kernel
theorem dL_law_1139 : decode cL_law 1139 = .ok (.iadd, 1) := by decide +kernel
theorem dL_law_1140 : decode cL_law 1140 = .ok (.iaload, 1) := by decide +kernel
theorem dL_law_1141 : decode cL_law 1141 = .ok (.aload_n 0, 1) := by decide +kernel
theorem dL_law_1142 : decode cL_law 1142 = .ok (.iload_n 3, 1) := by decide +kernel
theorem dL_law_1143 : decode cL_law 1143 = .ok (.iconst 2, 1) := by decide +kernel
theorem dL_law_1144 : decode cL_law 1144 = .ok (.iadd, 1) := by decide +kernel
theorem dL_law_1145 : decode cL_law 1145 = .ok (.iaload, 1) := by decide +kernel
theorem dL_law_1146 : decode cL_law 1146 = .ok (.aload_n 0, 1) := by decide +kernel
theorem dL_law_1147 : decode cL_law 1147 = .ok (.iload_n 3, 1) := by decide +kernel
theorem dL_law_1148 : decode cL_law 1148 = .ok (.iconst 3, 1) := by decide +kernel
theorem dL_law_1149 : decode cL_law 1149 = .ok (.iadd, 1) := by decide +kernel
theorem dL_law_1150 : decode cL_law 1150 = .ok (.iaload, 1) := by decide +kernel
theorem dL_law_1151 : decode cL_law 1151 = .ok (.invokevirtual 143, 3) := by decide +kernel
theorem dL_law_1154 : decode cL_law 1154 = .ok (.aload_n 2, 1) := by decide +kernel
theorem dL_law_1155 : decode cL_law 1155 = .ok (.aload_n 0, 1) := by decide +kernel
theorem dL_law_1156 : decode cL_law 1156 = .ok (.iload_n 3, 1) := by decide +kernel
theorem dL_law_1157 : decode cL_law 1157 = .ok (.iconst 1, 1) := by decide +kernel
theorem dL_law_1158 : decode cL_law 1158 = .ok (.iadd, 1) := by decide +kernel
theorem dL_law_1159 : decode cL_law 1159 = .ok (.iaload, 1) := by decide +kernel
theorem dL_law_1160 : decode cL_law 1160 = .ok (.aload_n 0, 1) := by decide +kernel
theorem dL_law_1161 : decode cL_law 1161 = .ok (.iload_n 3, 1) := by decide +kernel
theorem dL_law_1162 : decode cL_law 1162 = .ok (.iconst 2, 1) := by decide +kernel
theorem dL_law_1163 : decode cL_law 1163 = .ok (.iadd, 1) := by decide +kernel
theorem dL_law_1164 : decode cL_law 1164 = .ok (.iaload, 1) := by decide +kernel
theorem dL_law_1165 : decode cL_law 1165 = .ok (.aload_n 0, 1) := by decide +kernel
theorem dL_law_1166 : decode cL_law 1166 = .ok (.iload_n 3, 1) := by decide +kernel
theorem dL_law_1167 : decode cL_law 1167 = .ok (.iconst 3, 1) := by decide +kernel
theorem dL_law_1168 : decode cL_law 1168 = .ok (.iadd, 1) := by decide +kernel
theorem dL_law_1169 : decode cL_law 1169 = .ok (.iaload, 1) := by decide +kernel
theorem dL_law_1170 : decode cL_law 1170 = .ok (.invokevirtual 146, 3) := by decide +kernel
theorem dL_law_1173 : decode cL_law 1173 = .ok (.if_icmp .eq 217, 3) := by decide +kernel
theorem dL_law_1176 : decode cL_law 1176 = .ok (.iconst 0, 1) := by decide +kernel
theorem dL_law_1177 : decode cL_law 1177 = .ok (.ireturn, 1) := by decide +kernel
theorem dL_law_1178 : decode cL_law 1178 = .ok (.aload_n 1, 1) := by decide +kernel
theorem dL_law_1179 : decode cL_law 1179 = .ok (.aload_n 0, 1) := by decide +kernel
theorem dL_law_1180 : decode cL_law 1180 = .ok (.iload_n 3, 1) := by decide +kernel
theorem dL_law_1181 : decode cL_law 1181 = .ok (.iconst 1, 1) := by decide +kernel
theorem dL_law_1182 : decode cL_law 1182 = .ok (.iadd, 1) := by decide +kernel
theorem dL_law_1183 : decode cL_law 1183 = .ok (.iaload, 1) := by decide +kernel
theorem dL_law_1184 : decode cL_law 1184 = .ok (.aload_n 0, 1) := by decide +kernel
theorem dL_law_1185 : decode cL_law 1185 = .ok (.iload_n 3, 1) := by decide +kernel
theorem dL_law_1186 : decode cL_law 1186 = .ok (.iconst 2, 1) := by decide +kernel
theorem dL_law_1187 : decode cL_law 1187 = .ok (.iadd, 1) := by decide +kernel
theorem dL_law_1188 : decode cL_law 1188 = .ok (.iaload, 1) := by decide +kernel
theorem dL_law_1189 : decode cL_law 1189 = .ok (.aload_n 0, 1) := by decide +kernel
theorem dL_law_1190 : decode cL_law 1190 = .ok (.iload_n 3, 1) := by decide +kernel
theorem dL_law_1191 : decode cL_law 1191 = .ok (.iconst 3, 1) := by decide +kernel
theorem dL_law_1192 : decode cL_law 1192 = .ok (.iadd, 1) := by decide +kernel
theorem dL_law_1193 : decode cL_law 1193 = .ok (.iaload, 1) := by decide +kernel
theorem dL_law_1194 : decode cL_law 1194 = .ok (.invokevirtual 147, 3) := by decide +kernel
theorem dL_law_1197 : decode cL_law 1197 = .ok (.aload_n 2, 1) := by decide +kernel
theorem dL_law_1198 : decode cL_law 1198 = .ok (.aload_n 0, 1) := by decide +kernel
theorem dL_law_1199 : decode cL_law 1199 = .ok (.iload_n 3, 1) := by decide +kernel
theorem dL_law_1200 : decode cL_law 1200 = .ok (.iconst 1, 1) := by decide +kernel
theorem dL_law_1201 : decode cL_law 1201 = .ok (.iadd, 1) := by decide +kernel
theorem dL_law_1202 : decode cL_law 1202 = .ok (.iaload, 1) := by decide +kernel
theorem dL_law_1203 : decode cL_law 1203 = .ok (.aload_n 0, 1) := by decide +kernel
theorem dL_law_1204 : decode cL_law 1204 = .ok (.iload_n 3, 1) := by decide +kernel
theorem dL_law_1205 : decode cL_law 1205 = .ok (.iconst 2, 1) := by decide +kernel
theorem dL_law_1206 : decode cL_law 1206 = .ok (.iadd, 1) := by decide +kernel
theorem dL_law_1207 : decode cL_law 1207 = .ok (.iaload, 1) := by decide +kernel
theorem dL_law_1208 : decode cL_law 1208 = .ok (.aload_n 0, 1) := by decide +kernel
theorem dL_law_1209 : decode cL_law 1209 = .ok (.iload_n 3, 1) := by decide +kernel
theorem dL_law_1210 : decode cL_law 1210 = .ok (.iconst 3, 1) := by decide +kernel
theorem dL_law_1211 : decode cL_law 1211 = .ok (.iadd, 1) := by decide +kernel
theorem dL_law_1212 : decode cL_law 1212 = .ok (.iaload, 1) := by decide +kernel
theorem dL_law_1213 : decode cL_law 1213 = .ok (.invokevirtual 150, 3) := by decide +kernel
theorem dL_law_1216 : decode cL_law 1216 = .ok (.if_icmp .eq 174, 3) := by decide +kernel
theorem dL_law_1219 : decode cL_law 1219 = .ok (.iconst 0, 1) := by decide +kernel
theorem dL_law_1220 : decode cL_law 1220 = .ok (.ireturn, 1) := by decide +kernel
theorem dL_law_1221 : decode cL_law 1221 = .ok (.aload_n 1, 1) := by decide +kernel
theorem dL_law_1222 : decode cL_law 1222 = .ok (.aload_n 0, 1) := by decide +kernel
theorem dL_law_1223 : decode cL_law 1223 = .ok (.iload_n 3, 1) := by decide +kernel
theorem dL_law_1224 : decode cL_law 1224 = .ok (.iconst 1, 1) := by decide +kernel
theorem dL_law_1225 : decode cL_law 1225 = .ok (.iadd, 1) := by decide +kernel
theorem dL_law_1226 : decode cL_law 1226 = .ok (.iaload, 1) := by decide +kernel
theorem dL_law_1227 : decode cL_law 1227 = .ok (.invokevirtual 151, 3) := by decide +kernel
theorem dL_law_1230 : decode cL_law 1230 = .ok (.aload_n 2, 1) := by decide +kernel
theorem dL_law_1231 : decode cL_law 1231 = .ok (.aload_n 0, 1) := by decide +kernel
theorem dL_law_1232 : decode cL_law 1232 = .ok (.iload_n 3, 1) := by decide +kernel
theorem dL_law_1233 : decode cL_law 1233 = .ok (.iconst 1, 1) := by decide +kernel
theorem dL_law_1234 : decode cL_law 1234 = .ok (.iadd, 1) := by decide +kernel
theorem dL_law_1235 : decode cL_law 1235 = .ok (.iaload, 1) := by decide +kernel
theorem dL_law_1236 : decode cL_law 1236 = .ok (.invokevirtual 154, 3) := by decide +kernel
theorem dL_law_1239 : decode cL_law 1239 = .ok (.if_icmp .eq 151, 3) := by decide +kernel
theorem dL_law_1242 : decode cL_law 1242 = .ok (.iconst 0, 1) := by decide +kernel
theorem dL_law_1243 : decode cL_law 1243 = .ok (.ireturn, 1) := by decide +kernel
theorem dL_law_1244 : decode cL_law 1244 = .ok (.aload_n 1, 1) := by decide +kernel
theorem dL_law_1245 : decode cL_law 1245 = .ok (.aload_n 0, 1) := by decide +kernel
theorem dL_law_1246 : decode cL_law 1246 = .ok (.iload_n 3, 1) := by decide +kernel
theorem dL_law_1247 : decode cL_law 1247 = .ok (.iconst 1, 1) := by decide +kernel
theorem dL_law_1248 : decode cL_law 1248 = .ok (.iadd, 1) := by decide +kernel
theorem dL_law_1249 : decode cL_law 1249 = .ok (.iaload, 1) := by decide +kernel
theorem dL_law_1250 : decode cL_law 1250 = .ok (.aload_n 0, 1) := by decide +kernel
theorem dL_law_1251 : decode cL_law 1251 = .ok (.iload_n 3, 1) := by decide +kernel
theorem dL_law_1252 : decode cL_law 1252 = .ok (.iconst 2, 1) := by decide +kernel
theorem dL_law_1253 : decode cL_law 1253 = .ok (.iadd, 1) := by decide +kernel
theorem dL_law_1254 : decode cL_law 1254 = .ok (.iaload, 1) := by decide +kernel
theorem dL_law_1255 : decode cL_law 1255 = .ok (.aload_n 0, 1) := by decide +kernel
theorem dL_law_1256 : decode cL_law 1256 = .ok (.iload_n 3, 1) := by decide +kernel
theorem dL_law_1257 : decode cL_law 1257 = .ok (.iconst 3, 1) := by decide +kernel
theorem dL_law_1258 : decode cL_law 1258 = .ok (.iadd, 1) := by decide +kernel
theorem dL_law_1259 : decode cL_law 1259 = .ok (.iaload, 1) := by decide +kernel
theorem dL_law_1260 : decode cL_law 1260 = .ok (.aload_n 0, 1) := by decide +kernel
theorem dL_law_1261 : decode cL_law 1261 = .ok (.iload_n 3, 1) := by decide +kernel
theorem dL_law_1262 : decode cL_law 1262 = .ok (.iconst 4, 1) := by decide +kernel
theorem dL_law_1263 : decode cL_law 1263 = .ok (.iadd, 1) := by decide +kernel
theorem dL_law_1264 : decode cL_law 1264 = .ok (.iaload, 1) := by decide +kernel
theorem dL_law_1265 : decode cL_law 1265 = .ok (.i2l, 1) := by decide +kernel
theorem dL_law_1266 : decode cL_law 1266 = .ok (.bipush 32, 2) := by decide +kernel
theorem dL_law_1268 : decode cL_law 1268 = .ok (.lshl, 1) := by decide +kernel
theorem dL_law_1269 : decode cL_law 1269 = .ok (.aload_n 0, 1) := by decide +kernel
theorem dL_law_1270 : decode cL_law 1270 = .ok (.iload_n 3, 1) := by decide +kernel
theorem dL_law_1271 : decode cL_law 1271 = .ok (.iconst 5, 1) := by decide +kernel
theorem dL_law_1272 : decode cL_law 1272 = .ok (.iadd, 1) := by decide +kernel
theorem dL_law_1273 : decode cL_law 1273 = .ok (.iaload, 1) := by decide +kernel
theorem dL_law_1274 : decode cL_law 1274 = .ok (.i2l, 1) := by decide +kernel
theorem dL_law_1275 : decode cL_law 1275 = .ok (.ldc2_w 155, 3) := by decide +kernel
theorem dL_law_1278 : decode cL_law 1278 = .ok (.land, 1) := by decide +kernel
theorem dL_law_1279 : decode cL_law 1279 = .ok (.lor, 1) := by decide +kernel
theorem dL_law_1280 : decode cL_law 1280 = .ok (.invokevirtual 157, 3) := by decide +kernel
theorem dL_law_1283 : decode cL_law 1283 = .ok (.aload_n 2, 1) := by decide +kernel
theorem dL_law_1284 : decode cL_law 1284 = .ok (.aload_n 0, 1) := by decide +kernel
theorem dL_law_1285 : decode cL_law 1285 = .ok (.iload_n 3, 1) := by decide +kernel
theorem dL_law_1286 : decode cL_law 1286 = .ok (.iconst 1, 1) := by decide +kernel
theorem dL_law_1287 : decode cL_law 1287 = .ok (.iadd, 1) := by decide +kernel
theorem dL_law_1288 : decode cL_law 1288 = .ok (.iaload, 1) := by decide +kernel
theorem dL_law_1289 : decode cL_law 1289 = .ok (.aload_n 0, 1) := by decide +kernel
theorem dL_law_1290 : decode cL_law 1290 = .ok (.iload_n 3, 1) := by decide +kernel
theorem dL_law_1291 : decode cL_law 1291 = .ok (.iconst 2, 1) := by decide +kernel
theorem dL_law_1292 : decode cL_law 1292 = .ok (.iadd, 1) := by decide +kernel
theorem dL_law_1293 : decode cL_law 1293 = .ok (.iaload, 1) := by decide +kernel
theorem dL_law_1294 : decode cL_law 1294 = .ok (.aload_n 0, 1) := by decide +kernel
theorem dL_law_1295 : decode cL_law 1295 = .ok (.iload_n 3, 1) := by decide +kernel
theorem dL_law_1296 : decode cL_law 1296 = .ok (.iconst 3, 1) := by decide +kernel
theorem dL_law_1297 : decode cL_law 1297 = .ok (.iadd, 1) := by decide +kernel
theorem dL_law_1298 : decode cL_law 1298 = .ok (.iaload, 1) := by decide +kernel
theorem dL_law_1299 : decode cL_law 1299 = .ok (.aload_n 0, 1) := by decide +kernel
theorem dL_law_1300 : decode cL_law 1300 = .ok (.iload_n 3, 1) := by decide +kernel
theorem dL_law_1301 : decode cL_law 1301 = .ok (.iconst 4, 1) := by decide +kernel
theorem dL_law_1302 : decode cL_law 1302 = .ok (.iadd, 1) := by decide +kernel
theorem dL_law_1303 : decode cL_law 1303 = .ok (.iaload, 1) := by decide +kernel
theorem dL_law_1304 : decode cL_law 1304 = .ok (.i2l, 1) := by decide +kernel
theorem dL_law_1305 : decode cL_law 1305 = .ok (.bipush 32, 2) := by decide +kernel
theorem dL_law_1307 : decode cL_law 1307 = .ok (.lshl, 1) := by decide +kernel
theorem dL_law_1308 : decode cL_law 1308 = .ok (.aload_n 0, 1) := by decide +kernel
theorem dL_law_1309 : decode cL_law 1309 = .ok (.iload_n 3, 1) := by decide +kernel
theorem dL_law_1310 : decode cL_law 1310 = .ok (.iconst 5, 1) := by decide +kernel
theorem dL_law_1311 : decode cL_law 1311 = .ok (.iadd, 1) := by decide +kernel
theorem dL_law_1312 : decode cL_law 1312 = .ok (.iaload, 1) := by decide +kernel
theorem dL_law_1313 : decode cL_law 1313 = .ok (.i2l, 1) := by decide +kernel
theorem dL_law_1314 : decode cL_law 1314 = .ok (.ldc2_w 155, 3) := by decide +kernel
theorem dL_law_1317 : decode cL_law 1317 = .ok (.land, 1) := by decide +kernel
theorem dL_law_1318 : decode cL_law 1318 = .ok (.lor, 1) := by decide +kernel
theorem dL_law_1319 : decode cL_law 1319 = .ok (.invokevirtual 161, 3) := by decide +kernel
theorem dL_law_1322 : decode cL_law 1322 = .ok (.if_icmp .eq 68, 3) := by decide +kernel
theorem dL_law_1325 : decode cL_law 1325 = .ok (.iconst 0, 1) := by decide +kernel
theorem dL_law_1326 : decode cL_law 1326 = .ok (.ireturn, 1) := by decide +kernel
theorem dL_law_1327 : decode cL_law 1327 = .ok (.aload_n 1, 1) := by decide +kernel
theorem dL_law_1328 : decode cL_law 1328 = .ok (.aload_n 0, 1) := by decide +kernel
theorem dL_law_1329 : decode cL_law 1329 = .ok (.iload_n 3, 1) := by decide +kernel
theorem dL_law_1330 : decode cL_law 1330 = .ok (.iconst 1, 1) := by decide +kernel
theorem dL_law_1331 : decode cL_law 1331 = .ok (.iadd, 1) := by decide +kernel
theorem dL_law_1332 : decode cL_law 1332 = .ok (.iaload, 1) := by decide +kernel
theorem dL_law_1333 : decode cL_law 1333 = .ok (.aload_n 0, 1) := by decide +kernel
theorem dL_law_1334 : decode cL_law 1334 = .ok (.iload_n 3, 1) := by decide +kernel
theorem dL_law_1335 : decode cL_law 1335 = .ok (.iconst 2, 1) := by decide +kernel
theorem dL_law_1336 : decode cL_law 1336 = .ok (.iadd, 1) := by decide +kernel
theorem dL_law_1337 : decode cL_law 1337 = .ok (.iaload, 1) := by decide +kernel
theorem dL_law_1338 : decode cL_law 1338 = .ok (.aload_n 0, 1) := by decide +kernel
theorem dL_law_1339 : decode cL_law 1339 = .ok (.iload_n 3, 1) := by decide +kernel
theorem dL_law_1340 : decode cL_law 1340 = .ok (.iconst 3, 1) := by decide +kernel
theorem dL_law_1341 : decode cL_law 1341 = .ok (.iadd, 1) := by decide +kernel
theorem dL_law_1342 : decode cL_law 1342 = .ok (.iaload, 1) := by decide +kernel
theorem dL_law_1343 : decode cL_law 1343 = .ok (.aload_n 0, 1) := by decide +kernel
theorem dL_law_1344 : decode cL_law 1344 = .ok (.iload_n 3, 1) := by decide +kernel
theorem dL_law_1345 : decode cL_law 1345 = .ok (.iconst 4, 1) := by decide +kernel
theorem dL_law_1346 : decode cL_law 1346 = .ok (.iadd, 1) := by decide +kernel
theorem dL_law_1347 : decode cL_law 1347 = .ok (.iaload, 1) := by decide +kernel
theorem dL_law_1348 : decode cL_law 1348 = .ok (.aload_n 0, 1) := by decide +kernel
theorem dL_law_1349 : decode cL_law 1349 = .ok (.iload_n 3, 1) := by decide +kernel
theorem dL_law_1350 : decode cL_law 1350 = .ok (.iconst 5, 1) := by decide +kernel
theorem dL_law_1351 : decode cL_law 1351 = .ok (.iadd, 1) := by decide +kernel
theorem dL_law_1352 : decode cL_law 1352 = .ok (.iaload, 1) := by decide +kernel
theorem dL_law_1353 : decode cL_law 1353 = .ok (.invokevirtual 162, 3) := by decide +kernel
theorem dL_law_1356 : decode cL_law 1356 = .ok (.aload_n 2, 1) := by decide +kernel
theorem dL_law_1357 : decode cL_law 1357 = .ok (.aload_n 0, 1) := by decide +kernel
theorem dL_law_1358 : decode cL_law 1358 = .ok (.iload_n 3, 1) := by decide +kernel
theorem dL_law_1359 : decode cL_law 1359 = .ok (.iconst 1, 1) := by decide +kernel
theorem dL_law_1360 : decode cL_law 1360 = .ok (.iadd, 1) := by decide +kernel
theorem dL_law_1361 : decode cL_law 1361 = .ok (.iaload, 1) := by decide +kernel
theorem dL_law_1362 : decode cL_law 1362 = .ok (.aload_n 0, 1) := by decide +kernel
theorem dL_law_1363 : decode cL_law 1363 = .ok (.iload_n 3, 1) := by decide +kernel
theorem dL_law_1364 : decode cL_law 1364 = .ok (.iconst 2, 1) := by decide +kernel
theorem dL_law_1365 : decode cL_law 1365 = .ok (.iadd, 1) := by decide +kernel
theorem dL_law_1366 : decode cL_law 1366 = .ok (.iaload, 1) := by decide +kernel
theorem dL_law_1367 : decode cL_law 1367 = .ok (.aload_n 0, 1) := by decide +kernel
theorem dL_law_1368 : decode cL_law 1368 = .ok (.iload_n 3, 1) := by decide +kernel
theorem dL_law_1369 : decode cL_law 1369 = .ok (.iconst 3, 1) := by decide +kernel
theorem dL_law_1370 : decode cL_law 1370 = .ok (.iadd, 1) := by decide +kernel
theorem dL_law_1371 : decode cL_law 1371 = .ok (.iaload, 1) := by decide +kernel
theorem dL_law_1372 : decode cL_law 1372 = .ok (.aload_n 0, 1) := by decide +kernel
theorem dL_law_1373 : decode cL_law 1373 = .ok (.iload_n 3, 1) := by decide +kernel
theorem dL_law_1374 : decode cL_law 1374 = .ok (.iconst 4, 1) := by decide +kernel
theorem dL_law_1375 : decode cL_law 1375 = .ok (.iadd, 1) := by decide +kernel
theorem dL_law_1376 : decode cL_law 1376 = .ok (.iaload, 1) := by decide +kernel
theorem dL_law_1377 : decode cL_law 1377 = .ok (.aload_n 0, 1) := by decide +kernel
theorem dL_law_1378 : decode cL_law 1378 = .ok (.iload_n 3, 1) := by decide +kernel
theorem dL_law_1379 : decode cL_law 1379 = .ok (.iconst 5, 1) := by decide +kernel
theorem dL_law_1380 : decode cL_law 1380 = .ok (.iadd, 1) := by decide +kernel
theorem dL_law_1381 : decode cL_law 1381 = .ok (.iaload, 1) := by decide +kernel
theorem dL_law_1382 : decode cL_law 1382 = .ok (.invokevirtual 165, 3) := by decide +kernel
theorem dL_law_1385 : decode cL_law 1385 = .ok (.if_icmp .eq 5, 3) := by decide +kernel
theorem dL_law_1388 : decode cL_law 1388 = .ok (.iconst 0, 1) := by decide +kernel
theorem dL_law_1389 : decode cL_law 1389 = .ok (.ireturn, 1) := by decide +kernel
theorem dL_law_1390 : decode cL_law 1390 = .ok (.iinc 3 6, 3) := by decide +kernel
theorem dL_law_1393 : decode cL_law 1393 = .ok (.goto (-1375), 3) := by decide +kernel
theorem dL_law_1396 : decode cL_law 1396 = .ok (.iconst 1, 1) := by decide +kernel
theorem dL_law_1397 : decode cL_law 1397 = .ok (.ireturn, 1) := by decide +kernel
end
section
/-! THE LAYOUT: cell numbers of all objects and arrays of the class and of the reference; the memory as a function; the heap that holds it -/
abbrev fr_Me : Type := Int → Int → Int
abbrev fr_Ka : Type := va_G × (Nat → ClassId) × (Int → Nat) × Heap
abbrev fr_Mi : Type := MethodName × ByteArray × Nat × Option FieldType
abbrev fr_i (z : Int) : Value := .int (Int32.ofInt z)
abbrev fr_j (z : Int) : Value := .long (Int64.ofInt z)
abbrev fr_r (κ : fr_Ka) (c : Int) : Value := .ref (κ.2.2.1 c)
def fr_shL : List ((Nat × Nat) ⊕ Nat) := [.inr 10, .inr 1, .inl (3, 6), .inl (4, 5), .inl (0, 10), .inr 1, .inl (3, 6), .inl (4, 5), .inl (0, 10), .inr 6, .inl (0, 60), .inl (0, 6), .inl (0, 6), .inl (0, 6), .inl (5, 4), .inr 3, .inl (0, 6), .inl (0, 6), .inl (0, 6), .inl (0, 6), .inl (0, 7), .inl (0, 36), .inl (0, 6), .inl (0, 6), .inr 2, .inl (0, 224), .inl (0, 6), .inr 9, .inl (0, 10), .inl (0, 6), .inl (0, 6), .inr 8, .inl (0, 4096), .inr 4, .inl (0, 8), .inl (0, 6),
  .inr 7, .inr 7, .inr 7, .inr 7, .inr 7, .inr 7, .inr 7, .inr 7, .inr 7, .inr 7, .inr 7, .inr 7, .inr 0, .inr 0, .inr 0, .inr 0, .inr 0, .inr 0, .inr 0, .inr 0, .inr 0, .inr 0, .inr 5, .inr 5, .inr 5, .inr 5, .inl (1, 16), .inl (1, 16), .inl (1, 16), .inl (1, 16),
  .inr 11, .inl (0, 154), .inl (0, 60), .inl (0, 18), .inl (0, 6), .inl (0, 36), .inl (0, 4096), .inl (2, 4096), .inl (0, 16), .inl (0, 4), .inl (0, 4), .inl (1, 64), .inl (1, 16), .inl (0, 4824)]
def fr_sh (c : Int) : (Nat × Nat) ⊕ Nat := fr_shL.getD c.toNat (.inl (0, 0))
/-- what a field or a place of a row of references names, for good -/
def fr_rf (c : Int) (k : Nat) : Int := match c.toNat with
  | 0 => [1, 5, 0, 9, 14, 15, 24, 27, 31, 33, 35].getD k 0
  | 1 => 2 + k
  | 2 => 36 + k
  | 3 => 48 + k
  | 5 => 6 + k
  | 6 => 42 + k
  | 7 => 53 + k
  | 9 => 10 + k
  | 14 => 58 + k
  | 15 => 16 + k
  | 24 => [15, 25, 26].getD k 0
  | 27 => [15, 28, 29, 30].getD k 0
  | 31 => [15, 32].getD k 0
  | 33 => [1, 34].getD k 0
  | 66 => [67, 0, 68, 0, 0, 0, 69, 70, 71, 0, 72, 73, 74, 75, 76, 77, 78, 79].getD k 0
  | n => n + 4
def fr_isR (ci k : Nat) : Bool := match ci with
  | 0 => false
  | 1 => k < 3
  | 2 => k < 3
  | 3 => k < 8
  | 4 => k < 2
  | 5 => k < 1
  | 6 => k < 4
  | 7 => false
  | 8 => k < 2
  | 9 => k < 4
  | 10 => !(k == 2)
  | _ => k == 0 || k == 2 || k == 6 || k == 7 || k == 8 || 9 < k
def fr_nf (ci : Nat) : Nat := [4, 8, 7, 11, 5, 4, 6, 7, 3, 6, 11, 18].getD ci 0
def fr_fv (κ : fr_Ka) (μ : fr_Me) (c : Int) (ci k : Nat) : Value := if fr_isR ci k = true then fr_r κ (fr_rf c k) else fr_i (μ c k)
def fr_ar (κ : fr_Ka) (μ : fr_Me) (c : Int) (a : Nat) : (Nat → Int32) ⊕ (Nat → Int64) ⊕ (Nat → UInt32) ⊕ (Nat → UInt64) ⊕ (Nat → Option Nat) := match a with
  | 0 => .inl (fun k => Int32.ofInt (μ c k))
  | 1 => .inr (.inl (fun k => Int64.ofInt (μ c k)))
  | 2 => .inl (fun k => Int32.ofInt (μ c k))
  | _ => .inr (.inr (.inr (.inr (fun k => some (κ.2.2.1 (fr_rf c k))))))
def fr_ct (κ : fr_Ka) (μ : fr_Me) (c : Int) : va_E := match fr_sh c with
  | .inl (a, n) => .inl (κ.2.1 a, n, fr_ar κ μ c a)
  | .inr ci => .inr (ci, (List.range (fr_nf ci)).map (fr_fv κ μ c ci))
def fr_wl (κ : fr_Ka) (μ : fr_Me) : va_W := (List.range 80).map (fun c : Nat => (κ.2.2.1 (c : Int), fr_ct κ μ (c : Int)))
def fr_tys (κ : fr_Ka) : List (ClassId × FieldType) := [(κ.2.1 0, .int), (κ.2.1 1, .long), (κ.2.1 2, .boolean), (κ.2.1 3, .object RX7), (κ.2.1 4, .object RX0), (κ.2.1 5, .object RX5)]
def fr_nest : Cond → Bool
  | .fieldLinkNest _ _ _ _ _ _ => true
  | .methodLinkNest _ _ _ _ => true
  | _ => false
def fr_tb : List Cond := lw_tbl.filter goodWord
def fr_nw : List Cond := lw_tbl.filter fr_nest
def fr_up (μ : fr_Me) (c k z : Int) : fr_Me := fun c' k' => if c' = c ∧ k' = k then z else μ c' k'
def fr_Ok (κ : fr_Ka) : Prop := (∀ i j : Nat, i < 80 → j < 80 → κ.2.2.1 i = κ.2.2.1 j → i = j) ∧ ∀ i : Nat, i < 80 → κ.2.2.2.size ≤ κ.2.2.1 i
def fr_In (κ : fr_Ka) (μ : fr_Me) (H : Heap) : Prop := fr_Ok κ ∧ va_P κ.1 vwCl (fr_wl κ μ) H ∧ κ.2.2.2.size ≤ H.size ∧ ∀ q : Nat, q < κ.2.2.2.size → H[q]? = κ.2.2.2[q]?
def fr_Vm (κ : fr_Ka) (U : State) : Prop := va_K κ.1 vwCl (fr_tys κ) U ∧ ∀ w ∈ fr_nw, va_Nw w U
abbrev fr_fA (κ : fr_Ka) : Nat → Prop := fun q => κ.2.2.2.size ≤ q
def fr_ws (mi : fr_Mi) : List Cond := .code mi.1 mi.2.1 mi.2.2.1 mi.2.2.2 :: fr_tb
def fr_rm (k : Nat) : Room := { frames := k, cells := 0, slots := 0, locals := 64 * k }
def fr_Pc (κ : fr_Ka) (as : List Value) (μ : fr_Me) : Array Value → State → Prop := fun a U => a = as.toArray ∧ fr_In κ μ U.heap ∧ fr_Vm κ U
def fr_Qc (κ : fr_Ka) (Q : Option Value → fr_Me → Prop) : Array Value → State → Outcome → State → Prop := fun _ _ o t => ∃ v μ', o = .returned v ∧ Q v μ' ∧ fr_In κ μ' t.heap
/-- THE CONTRACT of a method: with these arguments, in this memory, with room k, it returns, and Q holds of its answer and of the memory then -/
def fr_C (l : Launch) (κ : fr_Ka) (mi : fr_Mi) (k : Nat) (as : List Value) (μ : fr_Me) (Q : Option Value → fr_Me → Prop) : Prop :=
  Met l mi.1 (fr_ws mi) (fr_rm k) (fr_Pc κ as μ) (fr_Qc κ Q) 0 0 (fr_fA κ)
def fr_F (κ : fr_Ka) (mi : fr_Mi) (p : Program) (s : State) (m : MethodId) (args : Array Value) (meth : Method) (c : Code) : Prop :=
  p.tables.exec = Jvm.exec ∧ c.code = mi.2.1 ∧ meth.sig.returnType = mi.2.2.2 ∧ c.maxLocals = mi.2.2.1 ∧ s.vm.findClass mi.1.cls = some m.cls ∧ (∀ w ∈ fr_tb, w.before args s = true) ∧ meth.locks = false ∧ fr_Vm κ s
def fr_lh (lsA : Array Slot) (n : Nat) (ls : List (Option Value)) : Prop := lsA.size = n ∧ lv_wf lsA ∧ ∀ (i : Nat) (v : Value), ls[i]? = some (some v) → lsA[i]? = some (.val v)
/-- THE WALK: at pc, with these locals, this stack, this memory, the method comes to its end with Q -/
def fr_A (l : Launch) (κ : fr_Ka) (mi : fr_Mi) (k : Nat) (Q : Option Value → fr_Me → Prop) (pc : Nat) (ls : List (Option Value)) (st : List Value) (μ : fr_Me) : Prop :=
  ∀ (p : Program) (e : Env) (s : State) (m : MethodId) (args : Array Value) (below : List Frame) (meth : Method) (c : Code), fr_F κ mi p s m args meth c →
  ∀ (H : Heap) (locs : List Loc) (lsA : Array Slot), fr_In κ μ H → (∀ q ∈ locs, fr_fA κ q.base) → fr_lh lsA mi.2.2.1 ls →
  W p l e (fr_rm k) s m args below meth c H locs 0 0 (MQ below (fr_Qc κ Q) args s 0 0 (fr_fA κ)) (F0 m pc lsA st)
theorem fr_shlen : fr_shL.length = 80 := by decide +kernel
theorem fr_wl_at (κ : fr_Ka) (μ : fr_Me) {c : Int} (h0 : 0 ≤ c) (h1 : c < 80) : (fr_wl κ μ)[c.toNat]? = some (κ.2.2.1 c, fr_ct κ μ c) := by
  have hc : ((c.toNat : Nat) : Int) = c := Int.toNat_of_nonneg h0
  have hl : c.toNat < 80 := by omega
  simp only [fr_wl, List.getElem?_map, List.getElem?_range hl, Option.map_some, hc]
theorem fr_wD {κ : fr_Ka} (h : fr_Ok κ) (μ : fr_Me) : va_D (fr_fA κ) (fr_wl κ μ) := by
  have key : ∀ (i : Nat) (p : Nat × va_E), (fr_wl κ μ)[i]? = some p → i < 80 ∧ p.1 = κ.2.2.1 i := by
    intro i p hp
    have hl : i < 80 := by
      have := (List.getElem?_eq_some_iff.mp hp).1
      simpa [fr_wl] using this
    simp only [fr_wl, List.getElem?_map, List.getElem?_range hl, Option.map_some] at hp
    cases hp
    exact ⟨hl, rfl⟩
  refine ⟨fun i j p q hp hq he => ?_, fun i q hq => ?_⟩
  · obtain ⟨a1, a2⟩ := key i p hp
    obtain ⟨b1, b2⟩ := key j q hq
    exact h.1 i j a1 b1 (by rw [← a2, ← b2, he])
  · obtain ⟨a1, a2⟩ := key i q hq
    show κ.2.2.2.size ≤ q.1
    rw [a2]
    exact h.2 i a1
theorem fr_In.S {κ : fr_Ka} {μ : fr_Me} {H : Heap} {locs : List Loc} (h : fr_In κ μ H) (hl : ∀ q ∈ locs, fr_fA κ q.base) : va_S (fr_fA κ) κ.2.2.2 H locs :=
  ⟨h.2.2.1, fun q h1 _ => h.2.2.2 q h1, hl⟩
theorem fr_In.of {κ : fr_Ka} {μ : fr_Me} {H : Heap} {locs : List Loc} (ho : fr_Ok κ) (hP : va_P κ.1 vwCl (fr_wl κ μ) H) (hS : va_S (fr_fA κ) κ.2.2.2 H locs) : fr_In κ μ H ∧ ∀ q ∈ locs, fr_fA κ q.base :=
  ⟨⟨ho, hP, hS.1, fun q h1 => hS.2.1 q h1 (Nat.not_le.mpr h1)⟩, hS.2.2⟩
theorem fr_nest_spec {w : Cond} (h : fr_nest w = true) : (∃ a i b n d o, w = .fieldLinkNest a i b n d o) ∨ ∃ a i x o, w = .methodLinkNest a i x o := by
  cases w <;> first | exact Or.inl ⟨_, _, _, _, _, _, rfl⟩ | exact Or.inr ⟨_, _, _, _, rfl⟩ | cases h
theorem fr_Vm.warm {κ : fr_Ka} {s U : State} (hW : s.WarmedH U.vm) (h : fr_Vm κ s) : fr_Vm κ U := by
  refine ⟨va_K.moved hW.alike h.1, fun w hw => ?_⟩
  have hn := (List.mem_filter.mp hw).2
  have h1 := h.2 w hw
  rcases fr_nest_spec hn with ⟨a, i, b, n, d, o, rfl⟩ | ⟨a, i, x, o, rfl⟩
  · exact va_Nw.warmF hW h1
  · exact va_Nw.warmM hW h1
theorem fr_Pc.blind (κ : fr_Ka) (as : List Value) (μ : fr_Me) : FrameBlind (fr_Pc κ as μ) := by
  intro a U g mk q
  obtain ⟨q0, q1, q2, q3⟩ := q
  refine ⟨q0, q1, va_K.moved (u := U) (U := U.calling g mk a) (Vm.Alike.refl U.vm) q2, fun w hw => ?_⟩
  have hn := (List.mem_filter.mp hw).2
  refine va_Nw.same ?_ (rfl : U.vm = (U.calling g mk a).vm) (q3 w hw)
  rcases fr_nest_spec hn with ⟨a, i, b, n, d, o, rfl⟩ | ⟨a, i, x, o, rfl⟩ <;> rfl
theorem fr_good (mi mi' : fr_Mi) (h : Cond.code mi'.1 mi'.2.1 mi'.2.2.1 mi'.2.2.2 ∈ fr_tb) : GoodIn fr_tb (fr_ws mi') := by
  intro w hw
  have hm : w ∈ fr_tb := by
    rcases List.mem_cons.mp hw with rfl | h1
    · exact h
    · exact h1
  exact ⟨hm, good_of_word (List.mem_filter.mp hm).2⟩
end
section
section RULES
variable {l : Launch} {κ : fr_Ka} {mi : fr_Mi} {k : Nat} {Q : Option Value → fr_Me → Prop} {pc : Nat} {ls : List (Option Value)} {st : List Value} {μ : fr_Me}
def fr_and (a b : Int) : Int := (Int32.ofInt a &&& Int32.ofInt b).toInt
def fr_or (a b : Int) : Int := (Int32.ofInt a ||| Int32.ofInt b).toInt
def fr_xor (a b : Int) : Int := (Int32.ofInt a ^^^ Int32.ofInt b).toInt
def fr_shl (a b : Int) : Int := (Int32.ofInt a <<< (Int32.ofInt b &&& 31)).toInt
def fr_shr (a b : Int) : Int := (Int32.ofInt a >>> (Int32.ofInt b &&& 31)).toInt
def fr_land (a b : Int) : Int := (Int64.ofInt a &&& Int64.ofInt b).toInt
def fr_lor (a b : Int) : Int := (Int64.ofInt a ||| Int64.ofInt b).toInt
def fr_lshl (a b : Int) : Int := (Int64.ofInt a <<< ((Int32.ofInt b).toInt64 &&& 63)).toInt
theorem fr_ofle {a : Int} (h : -2147483648 ≤ a ∧ a ≤ 2147483647) : (Int32.ofInt a).toInt = a := Int32.toInt_ofInt_of_le (by omega) (by omega)
theorem fr_oflj {a : Int} (h : -9223372036854775808 ≤ a ∧ a ≤ 9223372036854775807) : (Int64.ofInt a).toInt = a := Int64.toInt_ofInt_of_le (by omega) (by omega)
theorem fr_lt_iff {a b : Int} (ha : -2147483648 ≤ a ∧ a ≤ 2147483647) (hb : -2147483648 ≤ b ∧ b ≤ 2147483647) : Int32.ofInt a < Int32.ofInt b ↔ a < b := by rw [Int32.lt_iff_toInt_lt, fr_ofle ha, fr_ofle hb]
theorem fr_le_iff {a b : Int} (ha : -2147483648 ≤ a ∧ a ≤ 2147483647) (hb : -2147483648 ≤ b ∧ b ≤ 2147483647) : Int32.ofInt a ≤ Int32.ofInt b ↔ a ≤ b := by rw [Int32.le_iff_toInt_le, fr_ofle ha, fr_ofle hb]
theorem fr_eq_iff {a b : Int} (ha : -2147483648 ≤ a ∧ a ≤ 2147483647) (hb : -2147483648 ≤ b ∧ b ≤ 2147483647) : Int32.ofInt a = Int32.ofInt b ↔ a = b := by rw [← Int32.toInt_inj, fr_ofle ha, fr_ofle hb]

theorem fr_iadd {a b : Int} (hd : decode mi.2.1 pc = .ok (.iadd, 1)) (kk : fr_A l κ mi k Q (pc + 1) ls (fr_i (a + b) :: st) μ) : fr_A l κ mi k Q pc ls (fr_i b :: fr_i a :: st) μ := by
  intro p e s m args below meth c hF H locs lsA hI hL hl
  refine lv_iadd hF.1 hF.2.1 hd ?_
  have K := kk p e s m args below meth c hF H locs lsA hI hL hl
  rw [fr_i, Int32.ofInt_add] at K; exact K

theorem fr_isub {a b : Int} (hd : decode mi.2.1 pc = .ok (.isub, 1)) (kk : fr_A l κ mi k Q (pc + 1) ls (fr_i (a - b) :: st) μ) : fr_A l κ mi k Q pc ls (fr_i b :: fr_i a :: st) μ := by
  intro p e s m args below meth c hF H locs lsA hI hL hl
  refine lv_isub hF.1 hF.2.1 hd ?_
  have K := kk p e s m args below meth c hF H locs lsA hI hL hl
  rw [fr_i, Int32.ofInt_sub] at K; exact K

theorem fr_imul {a b : Int} (hd : decode mi.2.1 pc = .ok (.imul, 1)) (kk : fr_A l κ mi k Q (pc + 1) ls (fr_i (a * b) :: st) μ) : fr_A l κ mi k Q pc ls (fr_i b :: fr_i a :: st) μ := by
  intro p e s m args below meth c hF H locs lsA hI hL hl
  refine lv_imul hF.1 hF.2.1 hd ?_
  have K := kk p e s m args below meth c hF H locs lsA hI hL hl
  rw [fr_i, Int32.ofInt_mul] at K; exact K

theorem fr_iand {a b : Int} (hd : decode mi.2.1 pc = .ok (.iand, 1)) (kk : fr_A l κ mi k Q (pc + 1) ls (fr_i (fr_and a b) :: st) μ) : fr_A l κ mi k Q pc ls (fr_i b :: fr_i a :: st) μ := by
  intro p e s m args below meth c hF H locs lsA hI hL hl
  refine lv_iand hF.1 hF.2.1 hd ?_
  have K := kk p e s m args below meth c hF H locs lsA hI hL hl
  rw [fr_i, fr_and, Int32.ofInt_toInt] at K; exact K

theorem fr_ior {a b : Int} (hd : decode mi.2.1 pc = .ok (.ior, 1)) (kk : fr_A l κ mi k Q (pc + 1) ls (fr_i (fr_or a b) :: st) μ) : fr_A l κ mi k Q pc ls (fr_i b :: fr_i a :: st) μ := by
  intro p e s m args below meth c hF H locs lsA hI hL hl
  refine lv_ior hF.1 hF.2.1 hd ?_
  have K := kk p e s m args below meth c hF H locs lsA hI hL hl
  rw [fr_i, fr_or, Int32.ofInt_toInt] at K; exact K

theorem fr_ixor {a b : Int} (hd : decode mi.2.1 pc = .ok (.ixor, 1)) (kk : fr_A l κ mi k Q (pc + 1) ls (fr_i (fr_xor a b) :: st) μ) : fr_A l κ mi k Q pc ls (fr_i b :: fr_i a :: st) μ := by
  intro p e s m args below meth c hF H locs lsA hI hL hl
  refine lv_ixor hF.1 hF.2.1 hd ?_
  have K := kk p e s m args below meth c hF H locs lsA hI hL hl
  rw [fr_i, fr_xor, Int32.ofInt_toInt] at K; exact K

theorem fr_ishl {a b : Int} (hd : decode mi.2.1 pc = .ok (.ishl, 1)) (kk : fr_A l κ mi k Q (pc + 1) ls (fr_i (fr_shl a b) :: st) μ) : fr_A l κ mi k Q pc ls (fr_i b :: fr_i a :: st) μ := by
  intro p e s m args below meth c hF H locs lsA hI hL hl
  refine lv_ishl hF.1 hF.2.1 hd ?_
  have K := kk p e s m args below meth c hF H locs lsA hI hL hl
  rw [fr_i, fr_shl, Int32.ofInt_toInt] at K; exact K

theorem fr_ishr {a b : Int} (hd : decode mi.2.1 pc = .ok (.ishr, 1)) (kk : fr_A l κ mi k Q (pc + 1) ls (fr_i (fr_shr a b) :: st) μ) : fr_A l κ mi k Q pc ls (fr_i b :: fr_i a :: st) μ := by
  intro p e s m args below meth c hF H locs lsA hI hL hl
  refine lv_ishr hF.1 hF.2.1 hd ?_
  have K := kk p e s m args below meth c hF H locs lsA hI hL hl
  rw [fr_i, fr_shr, Int32.ofInt_toInt] at K; exact K

theorem fr_idiv {a b : Int} (hd : decode mi.2.1 pc = .ok (.idiv, 1)) (ha : -2147483648 ≤ a ∧ a ≤ 2147483647) (hb : -2147483648 ≤ b ∧ b ≤ 2147483647) (hn : b ≠ 0) (hm : b ≠ -1) (kk : fr_A l κ mi k Q (pc + 1) ls (fr_i (a.tdiv b) :: st) μ) : fr_A l κ mi k Q pc ls (fr_i b :: fr_i a :: st) μ := by
  intro p e s m args below meth c hF H locs lsA hI hL hl
  refine lv_idiv hF.1 hF.2.1 hd (fun h => hn ((fr_eq_iff hb (by omega)).mp h)) ?_
  have K := kk p e s m args below meth c hF H locs lsA hI hL hl
  rw [fr_i, show Int32.ofInt (a.tdiv b) = Int32.ofInt a / Int32.ofInt b from Int32.ofInt_tdiv (show (-2147483648 : Int) ≤ a from ha.1) (show a ≤ (2147483647 : Int) from ha.2) (show (-2147483648 : Int) ≤ b from hb.1) (show b ≤ (2147483647 : Int) from hb.2)] at K; exact K

theorem fr_irem {a b : Int} (hd : decode mi.2.1 pc = .ok (.irem, 1)) (ha : -2147483648 ≤ a ∧ a ≤ 2147483647) (hb : -2147483648 ≤ b ∧ b ≤ 2147483647) (hn : b ≠ 0) (kk : fr_A l κ mi k Q (pc + 1) ls (fr_i (a.tmod b) :: st) μ) : fr_A l κ mi k Q pc ls (fr_i b :: fr_i a :: st) μ := by
  intro p e s m args below meth c hF H locs lsA hI hL hl
  refine lv_irem hF.1 hF.2.1 hd (fun h => hn ((fr_eq_iff hb (by omega)).mp h)) ?_
  have K := kk p e s m args below meth c hF H locs lsA hI hL hl
  rw [fr_i, Int.tmod_def, Int32.ofInt_sub, Int.mul_comm, Int32.ofInt_mul, show Int32.ofInt (a.tdiv b) = Int32.ofInt a / Int32.ofInt b from Int32.ofInt_tdiv (show (-2147483648 : Int) ≤ a from ha.1) (show a ≤ (2147483647 : Int) from ha.2) (show (-2147483648 : Int) ≤ b from hb.1) (show b ≤ (2147483647 : Int) from hb.2)] at K; exact K

theorem fr_ladd {a b : Int} (hd : decode mi.2.1 pc = .ok (.ladd, 1)) (kk : fr_A l κ mi k Q (pc + 1) ls (fr_j (a + b) :: st) μ) : fr_A l κ mi k Q pc ls (fr_j b :: fr_j a :: st) μ := by
  intro p e s m args below meth c hF H locs lsA hI hL hl
  refine lv_ladd hF.1 hF.2.1 hd ?_
  have K := kk p e s m args below meth c hF H locs lsA hI hL hl
  rw [fr_j, Int64.ofInt_add] at K; exact K

theorem fr_lsub {a b : Int} (hd : decode mi.2.1 pc = .ok (.lsub, 1)) (kk : fr_A l κ mi k Q (pc + 1) ls (fr_j (a - b) :: st) μ) : fr_A l κ mi k Q pc ls (fr_j b :: fr_j a :: st) μ := by
  intro p e s m args below meth c hF H locs lsA hI hL hl
  refine lv_lsub hF.1 hF.2.1 hd ?_
  have K := kk p e s m args below meth c hF H locs lsA hI hL hl
  rw [fr_j, Int64.ofInt_sub] at K; exact K

theorem fr_lmul {a b : Int} (hd : decode mi.2.1 pc = .ok (.lmul, 1)) (kk : fr_A l κ mi k Q (pc + 1) ls (fr_j (a * b) :: st) μ) : fr_A l κ mi k Q pc ls (fr_j b :: fr_j a :: st) μ := by
  intro p e s m args below meth c hF H locs lsA hI hL hl
  refine lv_lmul hF.1 hF.2.1 hd ?_
  have K := kk p e s m args below meth c hF H locs lsA hI hL hl
  rw [fr_j, Int64.ofInt_mul] at K; exact K

theorem fr_landR {a b : Int} (hd : decode mi.2.1 pc = .ok (.land, 1)) (kk : fr_A l κ mi k Q (pc + 1) ls (fr_j (fr_land a b) :: st) μ) : fr_A l κ mi k Q pc ls (fr_j b :: fr_j a :: st) μ := by
  intro p e s m args below meth c hF H locs lsA hI hL hl
  refine lv_land hF.1 hF.2.1 hd ?_
  have K := kk p e s m args below meth c hF H locs lsA hI hL hl
  rw [fr_j, fr_land, Int64.ofInt_toInt] at K; exact K

theorem fr_lorR {a b : Int} (hd : decode mi.2.1 pc = .ok (.lor, 1)) (kk : fr_A l κ mi k Q (pc + 1) ls (fr_j (fr_lor a b) :: st) μ) : fr_A l κ mi k Q pc ls (fr_j b :: fr_j a :: st) μ := by
  intro p e s m args below meth c hF H locs lsA hI hL hl
  refine lv_lor hF.1 hF.2.1 hd ?_
  have K := kk p e s m args below meth c hF H locs lsA hI hL hl
  rw [fr_j, fr_lor, Int64.ofInt_toInt] at K; exact K

theorem fr_lshlR {a b : Int} (hd : decode mi.2.1 pc = .ok (.lshl, 1)) (kk : fr_A l κ mi k Q (pc + 1) ls (fr_j (fr_lshl a b) :: st) μ) : fr_A l κ mi k Q pc ls (fr_i b :: fr_j a :: st) μ := by
  intro p e s m args below meth c hF H locs lsA hI hL hl
  refine lv_lshl hF.1 hF.2.1 hd rfl ?_
  have K := kk p e s m args below meth c hF H locs lsA hI hL hl
  rw [fr_j, fr_lshl, Int64.ofInt_toInt] at K; exact K
theorem fr_ineg {a : Int} (hd : decode mi.2.1 pc = .ok (.ineg, 1)) (kk : fr_A l κ mi k Q (pc + 1) ls (fr_i (-a) :: st) μ) : fr_A l κ mi k Q pc ls (fr_i a :: st) μ := by
  intro p e s m args below meth c hF H locs lsA hI hL hl
  refine lv_ineg hF.1 hF.2.1 hd ?_
  have K := kk p e s m args below meth c hF H locs lsA hI hL hl
  rw [fr_i, Int32.ofInt_neg] at K; exact K
theorem fr_iconst {n : Int} (hd : decode mi.2.1 pc = .ok (.iconst n, 1)) (kk : fr_A l κ mi k Q (pc + 1) ls (fr_i n :: st) μ) : fr_A l κ mi k Q pc ls st μ := by
  intro p e s m args below meth c hF H locs lsA hI hL hl
  exact lv_iconst hF.1 hF.2.1 hd rfl (kk p e s m args below meth c hF H locs lsA hI hL hl)
theorem fr_bipush {n : Int} (hd : decode mi.2.1 pc = .ok (.bipush n, 2)) (hv : (Int8.ofInt n).toInt32 = Int32.ofInt n) (kk : fr_A l κ mi k Q (pc + 2) ls (fr_i n :: st) μ) : fr_A l κ mi k Q pc ls st μ := by
  intro p e s m args below meth c hF H locs lsA hI hL hl
  exact lv_bipush hF.1 hF.2.1 hd hv (kk p e s m args below meth c hF H locs lsA hI hL hl)
theorem fr_sipush {n : Int} (hd : decode mi.2.1 pc = .ok (.sipush n, 3)) (hv : (Int16.ofInt n).toInt32 = Int32.ofInt n) (kk : fr_A l κ mi k Q (pc + 3) ls (fr_i n :: st) μ) : fr_A l κ mi k Q pc ls st μ := by
  intro p e s m args below meth c hF H locs lsA hI hL hl
  exact lv_sipush hF.1 hF.2.1 hd hv (kk p e s m args below meth c hF H locs lsA hI hL hl)
theorem fr_lconst0 (hd : decode mi.2.1 pc = .ok (.lconst 0, 1)) (kk : fr_A l κ mi k Q (pc + 1) ls (fr_j 0 :: st) μ) : fr_A l κ mi k Q pc ls st μ := by
  intro p e s m args below meth c hF H locs lsA hI hL hl
  exact lv_lconst hF.1 hF.2.1 hd rfl (kk p e s m args below meth c hF H locs lsA hI hL hl)
theorem fr_lconst1 (hd : decode mi.2.1 pc = .ok (.lconst 1, 1)) (kk : fr_A l κ mi k Q (pc + 1) ls (fr_j 1 :: st) μ) : fr_A l κ mi k Q pc ls st μ := by
  intro p e s m args below meth c hF H locs lsA hI hL hl
  exact lv_lconst hF.1 hF.2.1 hd rfl (kk p e s m args below meth c hF H locs lsA hI hL hl)
def fr_cn (own : String) (idx : Nat) (z : Int) : Prop := Cond.constant own idx (Int32.ofInt z) ∈ fr_tb
def fr_cl (own : String) (idx : Nat) (z : Int) : Prop := Cond.constantLong own idx (Int64.ofInt z) ∈ fr_tb
theorem fr_ldc {idx : Nat} {z : Int} (hd : decode mi.2.1 pc = .ok (.ldc idx, 2)) (hc : fr_cn mi.1.cls idx z) (kk : fr_A l κ mi k Q (pc + 2) ls (fr_i z :: st) μ) : fr_A l κ mi k Q pc ls st μ := by
  intro p e s m args below meth c hF H locs lsA hI hL hl
  exact lv_ldc hF.1 hF.2.1 hF.2.2.2.2.1 (hF.2.2.2.2.2.1 _ hc) hd (kk p e s m args below meth c hF H locs lsA hI hL hl)
theorem fr_ldcw {idx : Nat} {z : Int} (hd : decode mi.2.1 pc = .ok (.ldc_w idx, 3)) (hc : fr_cn mi.1.cls idx z) (kk : fr_A l κ mi k Q (pc + 3) ls (fr_i z :: st) μ) : fr_A l κ mi k Q pc ls st μ := by
  intro p e s m args below meth c hF H locs lsA hI hL hl
  exact lv_ldcw hF.1 hF.2.1 hF.2.2.2.2.1 (hF.2.2.2.2.2.1 _ hc) hd (kk p e s m args below meth c hF H locs lsA hI hL hl)
theorem fr_ldc2 {idx : Nat} {z : Int} (hd : decode mi.2.1 pc = .ok (.ldc2_w idx, 3)) (hc : fr_cl mi.1.cls idx z) (kk : fr_A l κ mi k Q (pc + 3) ls (fr_j z :: st) μ) : fr_A l κ mi k Q pc ls st μ := by
  intro p e s m args below meth c hF H locs lsA hI hL hl
  exact lv_ldc2 hF.1 hF.2.1 hF.2.2.2.2.1 (hF.2.2.2.2.2.1 _ hc) hd (kk p e s m args below meth c hF H locs lsA hI hL hl)
theorem fr_i2l {a : Int} (hd : decode mi.2.1 pc = .ok (.i2l, 1)) (ha : -2147483648 ≤ a ∧ a ≤ 2147483647) (kk : fr_A l κ mi k Q (pc + 1) ls (fr_j a :: st) μ) : fr_A l κ mi k Q pc ls (fr_i a :: st) μ := by
  intro p e s m args below meth c hF H locs lsA hI hL hl
  refine lv_i2l (v := Int64.ofInt a) hF.1 hF.2.1 hd ?_ (kk p e s m args below meth c hF H locs lsA hI hL hl)
  rw [← Int64.toInt_inj, Int32.toInt_toInt64, fr_ofle ha, fr_oflj (by omega)]
theorem fr_l2i {a : Int} (hd : decode mi.2.1 pc = .ok (.l2i, 1)) (kk : fr_A l κ mi k Q (pc + 1) ls (fr_i a :: st) μ) : fr_A l κ mi k Q pc ls (fr_j a :: st) μ := by
  intro p e s m args below meth c hF H locs lsA hI hL hl
  exact lv_l2i (v := Int32.ofInt a) hF.1 hF.2.1 hd (by simp) (kk p e s m args below meth c hF H locs lsA hI hL hl)
theorem fr_i2b {a : Int} (hd : decode mi.2.1 pc = .ok (.i2b, 1)) (kk : fr_A l κ mi k Q (pc + 1) ls (fr_i (a.bmod 256) :: st) μ) : fr_A l κ mi k Q pc ls (fr_i a :: st) μ := by
  intro p e s m args below meth c hF H locs lsA hI hL hl
  exact lv_i2b (v := Int32.ofInt (a.bmod 256)) hF.1 hF.2.1 hd (by rw [Int32.toInt8_ofInt, ← Int32.ofInt_int8ToInt, Int8.toInt_ofInt]) (kk p e s m args below meth c hF H locs lsA hI hL hl)
theorem fr_i2s {a : Int} (hd : decode mi.2.1 pc = .ok (.i2s, 1)) (kk : fr_A l κ mi k Q (pc + 1) ls (fr_i (a.bmod 65536) :: st) μ) : fr_A l κ mi k Q pc ls (fr_i a :: st) μ := by
  intro p e s m args below meth c hF H locs lsA hI hL hl
  exact lv_i2s (v := Int32.ofInt (a.bmod 65536)) hF.1 hF.2.1 hd (by rw [Int32.toInt16_ofInt, ← Int32.ofInt_int16ToInt, Int16.toInt_ofInt]) (kk p e s m args below meth c hF H locs lsA hI hL hl)
theorem fr_lcmpR {a b : Int} (hd : decode mi.2.1 pc = .ok (.lcmp, 1)) (ha : -9223372036854775808 ≤ a ∧ a ≤ 9223372036854775807) (hb : -9223372036854775808 ≤ b ∧ b ≤ 9223372036854775807) (kk : fr_A l κ mi k Q (pc + 1) ls (fr_i (if a < b then -1 else if a = b then 0 else 1) :: st) μ) : fr_A l κ mi k Q pc ls (fr_j b :: fr_j a :: st) μ := by
  intro p e s m args below meth c hF H locs lsA hI hL hl
  refine W.lcmp hF.1 hF.2.1 hd ?_
  have K := kk p e s m args below meth c hF H locs lsA hI hL hl
  have e : lg_cmp (Int64.ofInt a) (Int64.ofInt b) = Int32.ofInt (if a < b then -1 else if a = b then 0 else 1) := by
    have h1 : Int64.ofInt a < Int64.ofInt b ↔ a < b := by rw [Int64.lt_iff_toInt_lt, fr_oflj ha, fr_oflj hb]
    have h2 : Int64.ofInt a = Int64.ofInt b ↔ a = b := by rw [← Int64.toInt_inj, fr_oflj ha, fr_oflj hb]
    have h3 : Int64.ofInt b < Int64.ofInt a ↔ b < a := by rw [Int64.lt_iff_toInt_lt, fr_oflj hb, fr_oflj ha]
    unfold lg_cmp
    simp only [h1, h2, h3]
    split <;> (try split) <;> (try split) <;> (try split) <;> first | rfl | omega
  rw [e]
  exact K
theorem fr_dup {v : Value} (hd : decode mi.2.1 pc = .ok (.dup, 1)) (hv : v.category = 1) (kk : fr_A l κ mi k Q (pc + 1) ls (v :: v :: st) μ) : fr_A l κ mi k Q pc ls (v :: st) μ := by
  intro p e s m args below meth c hF H locs lsA hI hL hl
  exact lv_dup hF.1 hF.2.1 hd hv (kk p e s m args below meth c hF H locs lsA hI hL hl)
theorem fr_dupx1 {v u : Value} (hd : decode mi.2.1 pc = .ok (.dup_x1, 1)) (hv : v.category = 1) (hu : u.category = 1) (kk : fr_A l κ mi k Q (pc + 1) ls (v :: u :: v :: st) μ) : fr_A l κ mi k Q pc ls (v :: u :: st) μ := by
  intro p e s m args below meth c hF H locs lsA hI hL hl
  exact lv_dup_x1 hF.1 hF.2.1 hd hv hu (kk p e s m args below meth c hF H locs lsA hI hL hl)
theorem fr_dup2 {v u : Value} (hd : decode mi.2.1 pc = .ok (.dup2, 1)) (hv : v.category = 1) (hu : u.category = 1) (kk : fr_A l κ mi k Q (pc + 1) ls (v :: u :: v :: u :: st) μ) : fr_A l κ mi k Q pc ls (v :: u :: st) μ := by
  intro p e s m args below meth c hF H locs lsA hI hL hl
  exact lv_dup2_11 hF.1 hF.2.1 hd hv hu (kk p e s m args below meth c hF H locs lsA hI hL hl)
theorem fr_pop {v : Value} (hd : decode mi.2.1 pc = .ok (.pop, 1)) (hv : v.category = 1) (kk : fr_A l κ mi k Q (pc + 1) ls st μ) : fr_A l κ mi k Q pc ls (v :: st) μ := by
  intro p e s m args below meth c hF H locs lsA hI hL hl
  exact lv_pop hF.1 hF.2.1 hd hv (kk p e s m args below meth c hF H locs lsA hI hL hl)
theorem fr_goto {off : Int} {tgt : Nat} (hd : decode mi.2.1 pc = .ok (.goto off, 3)) (ht : (pc : Int) + off = (tgt : Int)) (kk : fr_A l κ mi k Q tgt ls st μ) : fr_A l κ mi k Q pc ls st μ := by
  intro p e s m args below meth c hF H locs lsA hI hL hl
  exact lv_goto hF.1 hF.2.1 hd ht (kk p e s m args below meth c hF H locs lsA hI hL hl)

theorem fr_icmp_eq {a b : Int} {off : Int} {tgt : Nat} (hd : decode mi.2.1 pc = .ok (.if_icmp .eq off, 3)) (ht : (pc : Int) + off = (tgt : Int)) (ha : -2147483648 ≤ a ∧ a ≤ 2147483647) (hb : -2147483648 ≤ b ∧ b ≤ 2147483647) (kt : a = b → fr_A l κ mi k Q tgt ls st μ) (kf : a ≠ b → fr_A l κ mi k Q (pc + 3) ls st μ) : fr_A l κ mi k Q pc ls (fr_i b :: fr_i a :: st) μ := by
  intro p e s m args below meth c hF H locs lsA hI hL hl
  exact lv_icmp_eq hF.1 hF.2.1 hd ht (fun h => kt ((fun h => (fr_eq_iff ha hb).mp h) h) p e s m args below meth c hF H locs lsA hI hL hl) (fun h => kf ((fun h e => h ((fr_eq_iff ha hb).mpr e)) h) p e s m args below meth c hF H locs lsA hI hL hl)

theorem fr_if_eq {a : Int} {off : Int} {tgt : Nat} (hd : decode mi.2.1 pc = .ok (.ifCond .eq off, 3)) (ht : (pc : Int) + off = (tgt : Int)) (ha : -2147483648 ≤ a ∧ a ≤ 2147483647) (kt : a = 0 → fr_A l κ mi k Q tgt ls st μ) (kf : a ≠ 0 → fr_A l κ mi k Q (pc + 3) ls st μ) : fr_A l κ mi k Q pc ls (fr_i a :: st) μ := by
  intro p e s m args below meth c hF H locs lsA hI hL hl
  have hz : (-2147483648 : Int) ≤ 0 ∧ (0 : Int) ≤ 2147483647 := by omega
  exact lv_if_eq hF.1 hF.2.1 hd ht (fun h => kt ((fun h => (fr_eq_iff ha hz).mp h) h) p e s m args below meth c hF H locs lsA hI hL hl) (fun h => kf ((fun h e => h ((fr_eq_iff ha hz).mpr e)) h) p e s m args below meth c hF H locs lsA hI hL hl)

theorem fr_icmp_ne {a b : Int} {off : Int} {tgt : Nat} (hd : decode mi.2.1 pc = .ok (.if_icmp .ne off, 3)) (ht : (pc : Int) + off = (tgt : Int)) (ha : -2147483648 ≤ a ∧ a ≤ 2147483647) (hb : -2147483648 ≤ b ∧ b ≤ 2147483647) (kt : a ≠ b → fr_A l κ mi k Q tgt ls st μ) (kf : a = b → fr_A l κ mi k Q (pc + 3) ls st μ) : fr_A l κ mi k Q pc ls (fr_i b :: fr_i a :: st) μ := by
  intro p e s m args below meth c hF H locs lsA hI hL hl
  exact lv_icmp_ne hF.1 hF.2.1 hd ht (fun h => kt ((fun h e => h ((fr_eq_iff ha hb).mpr e)) h) p e s m args below meth c hF H locs lsA hI hL hl) (fun h => kf ((fun h => (fr_eq_iff ha hb).mp h) h) p e s m args below meth c hF H locs lsA hI hL hl)

theorem fr_if_ne {a : Int} {off : Int} {tgt : Nat} (hd : decode mi.2.1 pc = .ok (.ifCond .ne off, 3)) (ht : (pc : Int) + off = (tgt : Int)) (ha : -2147483648 ≤ a ∧ a ≤ 2147483647) (kt : a ≠ 0 → fr_A l κ mi k Q tgt ls st μ) (kf : a = 0 → fr_A l κ mi k Q (pc + 3) ls st μ) : fr_A l κ mi k Q pc ls (fr_i a :: st) μ := by
  intro p e s m args below meth c hF H locs lsA hI hL hl
  have hz : (-2147483648 : Int) ≤ 0 ∧ (0 : Int) ≤ 2147483647 := by omega
  exact lv_if_ne hF.1 hF.2.1 hd ht (fun h => kt ((fun h e => h ((fr_eq_iff ha hz).mpr e)) h) p e s m args below meth c hF H locs lsA hI hL hl) (fun h => kf ((fun h => (fr_eq_iff ha hz).mp h) h) p e s m args below meth c hF H locs lsA hI hL hl)

theorem fr_icmp_lt {a b : Int} {off : Int} {tgt : Nat} (hd : decode mi.2.1 pc = .ok (.if_icmp .lt off, 3)) (ht : (pc : Int) + off = (tgt : Int)) (ha : -2147483648 ≤ a ∧ a ≤ 2147483647) (hb : -2147483648 ≤ b ∧ b ≤ 2147483647) (kt : a < b → fr_A l κ mi k Q tgt ls st μ) (kf : b ≤ a → fr_A l κ mi k Q (pc + 3) ls st μ) : fr_A l κ mi k Q pc ls (fr_i b :: fr_i a :: st) μ := by
  intro p e s m args below meth c hF H locs lsA hI hL hl
  exact lv_icmp_lt hF.1 hF.2.1 hd ht (fun h => kt ((fun h => (fr_lt_iff ha hb).mp h) h) p e s m args below meth c hF H locs lsA hI hL hl) (fun h => kf ((fun h => Int.not_lt.mp fun e => h ((fr_lt_iff ha hb).mpr e)) h) p e s m args below meth c hF H locs lsA hI hL hl)

theorem fr_if_lt {a : Int} {off : Int} {tgt : Nat} (hd : decode mi.2.1 pc = .ok (.ifCond .lt off, 3)) (ht : (pc : Int) + off = (tgt : Int)) (ha : -2147483648 ≤ a ∧ a ≤ 2147483647) (kt : a < 0 → fr_A l κ mi k Q tgt ls st μ) (kf : 0 ≤ a → fr_A l κ mi k Q (pc + 3) ls st μ) : fr_A l κ mi k Q pc ls (fr_i a :: st) μ := by
  intro p e s m args below meth c hF H locs lsA hI hL hl
  have hz : (-2147483648 : Int) ≤ 0 ∧ (0 : Int) ≤ 2147483647 := by omega
  exact lv_if_lt hF.1 hF.2.1 hd ht (fun h => kt ((fun h => (fr_lt_iff ha hz).mp h) h) p e s m args below meth c hF H locs lsA hI hL hl) (fun h => kf ((fun h => Int.not_lt.mp fun e => h ((fr_lt_iff ha hz).mpr e)) h) p e s m args below meth c hF H locs lsA hI hL hl)

theorem fr_icmp_ge {a b : Int} {off : Int} {tgt : Nat} (hd : decode mi.2.1 pc = .ok (.if_icmp .ge off, 3)) (ht : (pc : Int) + off = (tgt : Int)) (ha : -2147483648 ≤ a ∧ a ≤ 2147483647) (hb : -2147483648 ≤ b ∧ b ≤ 2147483647) (kt : b ≤ a → fr_A l κ mi k Q tgt ls st μ) (kf : a < b → fr_A l κ mi k Q (pc + 3) ls st μ) : fr_A l κ mi k Q pc ls (fr_i b :: fr_i a :: st) μ := by
  intro p e s m args below meth c hF H locs lsA hI hL hl
  exact lv_icmp_ge hF.1 hF.2.1 hd ht (fun h => kt ((fun h => (fr_le_iff hb ha).mp h) h) p e s m args below meth c hF H locs lsA hI hL hl) (fun h => kf ((fun h => Int.not_le.mp fun e => h ((fr_le_iff hb ha).mpr e)) h) p e s m args below meth c hF H locs lsA hI hL hl)

theorem fr_if_ge {a : Int} {off : Int} {tgt : Nat} (hd : decode mi.2.1 pc = .ok (.ifCond .ge off, 3)) (ht : (pc : Int) + off = (tgt : Int)) (ha : -2147483648 ≤ a ∧ a ≤ 2147483647) (kt : 0 ≤ a → fr_A l κ mi k Q tgt ls st μ) (kf : a < 0 → fr_A l κ mi k Q (pc + 3) ls st μ) : fr_A l κ mi k Q pc ls (fr_i a :: st) μ := by
  intro p e s m args below meth c hF H locs lsA hI hL hl
  have hz : (-2147483648 : Int) ≤ 0 ∧ (0 : Int) ≤ 2147483647 := by omega
  exact lv_if_ge hF.1 hF.2.1 hd ht (fun h => kt ((fun h => (fr_le_iff hz ha).mp h) h) p e s m args below meth c hF H locs lsA hI hL hl) (fun h => kf ((fun h => Int.not_le.mp fun e => h ((fr_le_iff hz ha).mpr e)) h) p e s m args below meth c hF H locs lsA hI hL hl)

theorem fr_icmp_gt {a b : Int} {off : Int} {tgt : Nat} (hd : decode mi.2.1 pc = .ok (.if_icmp .gt off, 3)) (ht : (pc : Int) + off = (tgt : Int)) (ha : -2147483648 ≤ a ∧ a ≤ 2147483647) (hb : -2147483648 ≤ b ∧ b ≤ 2147483647) (kt : b < a → fr_A l κ mi k Q tgt ls st μ) (kf : a ≤ b → fr_A l κ mi k Q (pc + 3) ls st μ) : fr_A l κ mi k Q pc ls (fr_i b :: fr_i a :: st) μ := by
  intro p e s m args below meth c hF H locs lsA hI hL hl
  exact lv_icmp_gt hF.1 hF.2.1 hd ht (fun h => kt ((fun h => (fr_lt_iff hb ha).mp h) h) p e s m args below meth c hF H locs lsA hI hL hl) (fun h => kf ((fun h => Int.not_lt.mp fun e => h ((fr_lt_iff hb ha).mpr e)) h) p e s m args below meth c hF H locs lsA hI hL hl)

theorem fr_if_gt {a : Int} {off : Int} {tgt : Nat} (hd : decode mi.2.1 pc = .ok (.ifCond .gt off, 3)) (ht : (pc : Int) + off = (tgt : Int)) (ha : -2147483648 ≤ a ∧ a ≤ 2147483647) (kt : 0 < a → fr_A l κ mi k Q tgt ls st μ) (kf : a ≤ 0 → fr_A l κ mi k Q (pc + 3) ls st μ) : fr_A l κ mi k Q pc ls (fr_i a :: st) μ := by
  intro p e s m args below meth c hF H locs lsA hI hL hl
  have hz : (-2147483648 : Int) ≤ 0 ∧ (0 : Int) ≤ 2147483647 := by omega
  exact lv_if_gt hF.1 hF.2.1 hd ht (fun h => kt ((fun h => (fr_lt_iff hz ha).mp h) h) p e s m args below meth c hF H locs lsA hI hL hl) (fun h => kf ((fun h => Int.not_lt.mp fun e => h ((fr_lt_iff hz ha).mpr e)) h) p e s m args below meth c hF H locs lsA hI hL hl)

theorem fr_icmp_le {a b : Int} {off : Int} {tgt : Nat} (hd : decode mi.2.1 pc = .ok (.if_icmp .le off, 3)) (ht : (pc : Int) + off = (tgt : Int)) (ha : -2147483648 ≤ a ∧ a ≤ 2147483647) (hb : -2147483648 ≤ b ∧ b ≤ 2147483647) (kt : a ≤ b → fr_A l κ mi k Q tgt ls st μ) (kf : b < a → fr_A l κ mi k Q (pc + 3) ls st μ) : fr_A l κ mi k Q pc ls (fr_i b :: fr_i a :: st) μ := by
  intro p e s m args below meth c hF H locs lsA hI hL hl
  exact lv_icmp_le hF.1 hF.2.1 hd ht (fun h => kt ((fun h => (fr_le_iff ha hb).mp h) h) p e s m args below meth c hF H locs lsA hI hL hl) (fun h => kf ((fun h => Int.not_le.mp fun e => h ((fr_le_iff ha hb).mpr e)) h) p e s m args below meth c hF H locs lsA hI hL hl)

theorem fr_if_le {a : Int} {off : Int} {tgt : Nat} (hd : decode mi.2.1 pc = .ok (.ifCond .le off, 3)) (ht : (pc : Int) + off = (tgt : Int)) (ha : -2147483648 ≤ a ∧ a ≤ 2147483647) (kt : a ≤ 0 → fr_A l κ mi k Q tgt ls st μ) (kf : 0 < a → fr_A l κ mi k Q (pc + 3) ls st μ) : fr_A l κ mi k Q pc ls (fr_i a :: st) μ := by
  intro p e s m args below meth c hF H locs lsA hI hL hl
  have hz : (-2147483648 : Int) ≤ 0 ∧ (0 : Int) ≤ 2147483647 := by omega
  exact lv_if_le hF.1 hF.2.1 hd ht (fun h => kt ((fun h => (fr_le_iff ha hz).mp h) h) p e s m args below meth c hF H locs lsA hI hL hl) (fun h => kf ((fun h => Int.not_le.mp fun e => h ((fr_le_iff ha hz).mpr e)) h) p e s m args below meth c hF H locs lsA hI hL hl)

theorem fr_tswIn {a : Int} {dflt lo hi off : Int} {offs : Array Int} {len tgt : Nat} (hd : decode mi.2.1 pc = .ok (.tableswitch dflt lo hi offs, len)) (ha : -2147483648 ≤ a ∧ a ≤ 2147483647) (h1 : lo ≤ a) (h2 : a ≤ hi) (ho : offs[(a - lo).toNat]? = some off) (ht : (pc : Int) + off = (tgt : Int)) (kk : fr_A l κ mi k Q tgt ls st μ) : fr_A l κ mi k Q pc ls (fr_i a :: st) μ := by
  intro p e s m args below meth c hF H locs lsA hI hL hl
  exact lv_tableIn hF.1 hF.2.1 hd (by rw [fr_ofle ha]; omega) (by rw [fr_ofle ha]; omega) (by rw [fr_ofle ha]; exact ho) ht (kk p e s m args below meth c hF H locs lsA hI hL hl)
theorem fr_tswOut {a : Int} {dflt lo hi : Int} {offs : Array Int} {len tgt : Nat} (hd : decode mi.2.1 pc = .ok (.tableswitch dflt lo hi offs, len)) (ha : -2147483648 ≤ a ∧ a ≤ 2147483647) (h : a < lo ∨ hi < a) (ht : (pc : Int) + dflt = (tgt : Int)) (kk : fr_A l κ mi k Q tgt ls st μ) : fr_A l κ mi k Q pc ls (fr_i a :: st) μ := by
  intro p e s m args below meth c hF H locs lsA hI hL hl
  exact lv_tableOut hF.1 hF.2.1 hd (by rw [fr_ofle ha]; exact h) ht (kk p e s m args below meth c hF H locs lsA hI hL hl)
theorem fr_lsw {a : Int} {dflt off : Int} {ps : Array (Int × Int)} {len tgt : Nat} (hd : decode mi.2.1 pc = .ok (.lookupswitch dflt ps, len)) (ha : -2147483648 ≤ a ∧ a ≤ 2147483647) (hp : (ps.toList.zip (ps.toList.drop 1)).all (fun (a, next) => a.1 < next.1) = true) (ho : Op.lookupswitch.offset ps.toList dflt a = off) (ht : (pc : Int) + off = (tgt : Int)) (kk : fr_A l κ mi k Q tgt ls st μ) : fr_A l κ mi k Q pc ls (fr_i a :: st) μ := by
  intro p e s m args below meth c hF H locs lsA hI hL hl
  exact lv_lookup hF.1 hF.2.1 hd hp (by rw [fr_ofle ha]; exact ho) ht (kk p e s m args below meth c hF H locs lsA hI hL hl)
theorem fr_iret {z : Int} (hd : decode mi.2.1 pc = .ok (.ireturn, 1)) (hr : mi.2.2.2 = some .int) (hq : Q (some (fr_i z)) μ) : fr_A l κ mi k Q pc ls [fr_i z] μ := by
  intro p e s m args below meth c hF H locs lsA hI hL hl
  exact W.iret hF.1 hF.2.1 (hF.2.2.1.trans hr) (fun t ht _ => ⟨_, μ, rfl, hq, by rw [ht]; exact hI⟩) hL hd (hlocks := hF.2.2.2.2.2.2.1)
theorem fr_zret {z : Int} (hd : decode mi.2.1 pc = .ok (.ireturn, 1)) (hr : mi.2.2.2 = some .boolean) (hz : z = 0 ∨ z = 1) (hq : Q (some (fr_i z)) μ) : fr_A l κ mi k Q pc ls [fr_i z] μ := by
  intro p e s m args below meth c hF H locs lsA hI hL hl
  exact W.zret hF.1 hF.2.1 (hF.2.2.1.trans hr) (by rcases hz with rfl | rfl <;> rfl) (fun t ht _ => ⟨_, μ, rfl, hq, by rw [ht]; exact hI⟩) hL hd (hlocks := hF.2.2.2.2.2.2.1)
theorem fr_vret (hd : decode mi.2.1 pc = .ok (.return_, 1)) (hr : mi.2.2.2 = none) (hq : Q none μ) : fr_A l κ mi k Q pc ls [] μ := by
  intro p e s m args below meth c hF H locs lsA hI hL hl
  exact W.vret hF.1 hF.2.1 (hF.2.2.1.trans hr) (fun t ht _ => ⟨_, μ, rfl, hq, by rw [ht]; exact hI⟩) hL hd (hlocks := hF.2.2.2.2.2.2.1)
theorem fr_lret {z : Int} (hd : decode mi.2.1 pc = .ok (.lreturn, 1)) (hr : mi.2.2.2 = some .long) (hq : Q (some (fr_j z)) μ) : fr_A l κ mi k Q pc ls [fr_j z] μ := by
  intro p e s m args below meth c hF H locs lsA hI hL hl
  exact W.lret hF.1 hF.2.1 (hF.2.2.1.trans hr) (fun t ht _ => ⟨_, μ, rfl, hq, by rw [ht]; exact hI⟩) hL hd (hlocks := hF.2.2.2.2.2.2.1)
end RULES
end
section
section LOCALS
variable {l : Launch} {κ : fr_Ka} {mi : fr_Mi} {k : Nat} {Q : Option Value → fr_Me → Prop} {pc : Nat} {st : List Value} {μ : fr_Me} {r : List (Option Value)}
def fr_as (n : Nat) (ls : List (Option Value)) : List (Nat × Value) := (List.range n).filterMap (fun j => (ls[j]?.join).map (fun v => (j, v)))
theorem fr_as_mem {n : Nat} {ls : List (Option Value)} {q : Nat × Value} : q ∈ fr_as n ls ↔ q.1 < n ∧ ls[q.1]? = some (some q.2) := by
  simp only [fr_as, List.mem_filterMap, List.mem_range, Option.map_eq_some_iff, Option.join_eq_some_iff]
  constructor
  · rintro ⟨j, hj, v, hv, rfl⟩
    exact ⟨hj, hv⟩
  · rintro ⟨h1, h2⟩
    exact ⟨q.1, h1, q.2, h2, rfl⟩
theorem fr_lh.has {lsA : Array Slot} {n : Nat} {ls : List (Option Value)} (h : fr_lh lsA n ls) : lv_has lsA n (fr_as n ls) :=
  ⟨h.1, h.2.1, fun q hq => h.2.2 q.1 q.2 (fr_as_mem.mp hq).2⟩
def fr_c1 : Option Value → Bool
  | some v => v.category == 1
  | none => true
theorem fr_cat (v : Value) : v.category = 1 ∨ v.category = 2 := by cases v <;> simp [Value.category]
theorem fr_lh.set1 {lsA lsB : Array Slot} {n i : Nat} {ls : List (Option Value)} {v : Value} (h : fr_lh lsA n ls) (hi : i < ls.length) (hp : ∀ (j : Nat) (x : Option Value), j + 1 = i → ls[j]? = some x → fr_c1 x = true)
    (h2 : lv_has lsB n ((i, v) :: (fr_as n ls).filter (fun q => !(q.1 == i) && !(q.1 + 1 == i && q.2.category == 2)))) : fr_lh lsB n (ls.set i (some v)) := by
  refine ⟨h2.1, h2.2.1, fun j x hx => ?_⟩
  by_cases hj : j = i
  · subst hj
    rw [List.getElem?_set_self hi] at hx
    cases hx
    exact h2.2.2 (j, v) List.mem_cons_self
  · rw [List.getElem?_set_ne (Ne.symm hj)] at hx
    refine h2.2.2 (j, x) (List.mem_cons_of_mem _ (List.mem_filter.mpr ⟨fr_as_mem.mpr ⟨?_, hx⟩, ?_⟩))
    · have := lv_lt (h.2.2 j x hx)
      rw [h.1] at this
      exact this
    · by_cases hj2 : j + 1 = i
      · have hc := hp j (some x) hj2 hx
        simp only [fr_c1, beq_iff_eq] at hc
        simp [hj, hc]
      · simp [hj, hj2]
theorem fr_lh.set2 {lsA lsB : Array Slot} {n i : Nat} {ls : List (Option Value)} {v : Value} (h : fr_lh lsA n ls) (hi : i < ls.length) (hp : ∀ (j : Nat) (x : Option Value), j + 1 = i → ls[j]? = some x → fr_c1 x = true)
    (h2 : lv_has lsB n ((i, v) :: (fr_as n ls).filter (fun q => !(q.1 == i) && (!(q.1 == i + 1) && !(q.1 + 1 == i && q.2.category == 2))))) : fr_lh lsB n ((ls.set i (some v)).set (i + 1) none) := by
  refine ⟨h2.1, h2.2.1, fun j x hx => ?_⟩
  by_cases hk : j = i + 1
  · subst hk
    by_cases hl : i + 1 < ls.length
    · rw [List.getElem?_set_self (by simpa using hl)] at hx
      cases hx
    · rw [List.getElem?_eq_none (by simp; omega)] at hx
      cases hx
  rw [List.getElem?_set_ne (Ne.symm hk)] at hx
  by_cases hj : j = i
  · subst hj
    rw [List.getElem?_set_self hi] at hx
    cases hx
    exact h2.2.2 (j, v) List.mem_cons_self
  · rw [List.getElem?_set_ne (Ne.symm hj)] at hx
    refine h2.2.2 (j, x) (List.mem_cons_of_mem _ (List.mem_filter.mpr ⟨fr_as_mem.mpr ⟨?_, hx⟩, ?_⟩))
    · have := lv_lt (h.2.2 j x hx)
      rw [h.1] at this
      exact this
    · by_cases hj2 : j + 1 = i
      · have hc := hp j (some x) hj2 hx
        simp only [fr_c1, beq_iff_eq] at hc
        simp [hj, hc, hk]
      · simp [hj, hj2, hk]
theorem fr_hp {ls : List (Option Value)} {i : Nat} {y : Option Value} (h : ls[i]? = some y) (hc : fr_c1 y = true) : ∀ (j : Nat) (x : Option Value), j + 1 = i + 1 → ls[j]? = some x → fr_c1 x = true := by
  intro j x hj hx
  have : j = i := by omega
  subst this
  rw [h] at hx
  cases hx
  exact hc
theorem fr_hp0 {ls : List (Option Value)} : ∀ (j : Nat) (x : Option Value), j + 1 = 0 → ls[j]? = some x → fr_c1 x = true := fun _ _ h => by omega

theorem fr_il0 {z : Int} (hd : decode mi.2.1 pc = .ok (.iload_n 0, 1)) (kk : fr_A l κ mi k Q (pc + 1) (some (fr_i z) :: r) (fr_i z :: st) μ) : fr_A l κ mi k Q pc (some (fr_i z) :: r) st μ := by
  intro p e s m args below meth c hF H locs lsA hI hL hl
  exact lv_iload_n hF.1 hF.2.1 hd rfl (hl.2.2 0 _ rfl) (kk p e s m args below meth c hF H locs lsA hI hL hl)
theorem fr_al0 {z : Nat} (hd : decode mi.2.1 pc = .ok (.aload_n 0, 1)) (kk : fr_A l κ mi k Q (pc + 1) (some (Value.ref z) :: r) (Value.ref z :: st) μ) : fr_A l κ mi k Q pc (some (Value.ref z) :: r) st μ := by
  intro p e s m args below meth c hF H locs lsA hI hL hl
  exact lv_aload_n hF.1 hF.2.1 hd rfl (hl.2.2 0 _ rfl) (kk p e s m args below meth c hF H locs lsA hI hL hl)
theorem fr_ll0 {z : Int} (hd : decode mi.2.1 pc = .ok (.lload_n 0, 1)) (kk : fr_A l κ mi k Q (pc + 1) (some (fr_j z) :: r) (fr_j z :: st) μ) : fr_A l κ mi k Q pc (some (fr_j z) :: r) st μ := by
  intro p e s m args below meth c hF H locs lsA hI hL hl
  exact lv_lload_n hF.1 hF.2.1 hd rfl (hl.2.2 0 _ rfl) (kk p e s m args below meth c hF H locs lsA hI hL hl)
theorem fr_is0 {y : Option Value} {z : Int} (hd : decode mi.2.1 pc = .ok (.istore_n 0, 1)) (hn : 0 < mi.2.2.1) (kk : fr_A l κ mi k Q (pc + 1) (some (fr_i z) :: r) st μ) : fr_A l κ mi k Q pc (y :: r) (fr_i z :: st) μ := by
  intro p e s m args below meth c hF H locs lsA hI hL hl
  exact lv_istore_n hF.1 hF.2.1 hd rfl hl.has hn rfl (fun lsB hB => kk p e s m args below meth c hF H locs lsB hI hL (hl.set1 (by simp) fr_hp0 hB))
theorem fr_as0 {y : Option Value} {z : Nat} (hd : decode mi.2.1 pc = .ok (.astore_n 0, 1)) (hn : 0 < mi.2.2.1) (kk : fr_A l κ mi k Q (pc + 1) (some (Value.ref z) :: r) st μ) : fr_A l κ mi k Q pc (y :: r) (Value.ref z :: st) μ := by
  intro p e s m args below meth c hF H locs lsA hI hL hl
  exact lv_astore_n hF.1 hF.2.1 hd rfl hl.has hn rfl (fun lsB hB => kk p e s m args below meth c hF H locs lsB hI hL (hl.set1 (by simp) fr_hp0 hB))
theorem fr_ls0 {y y2 : Option Value} {z : Int} (hd : decode mi.2.1 pc = .ok (.lstore_n 0, 1)) (hn : 0 + 1 < mi.2.2.1) (kk : fr_A l κ mi k Q (pc + 1) (some (fr_j z) :: none :: r) st μ) : fr_A l κ mi k Q pc (y :: y2 :: r) (fr_j z :: st) μ := by
  intro p e s m args below meth c hF H locs lsA hI hL hl
  exact lv_lstore_n hF.1 hF.2.1 hd rfl hl.has hn rfl (fun lsB hB => kk p e s m args below meth c hF H locs lsB hI hL (hl.set2 (by simp) fr_hp0 hB))
theorem fr_ii0 {z n : Int} (hd : decode mi.2.1 pc = .ok (.iinc 0 n, 3)) (hn : 0 < mi.2.2.1) (kk : fr_A l κ mi k Q (pc + 3) (some (fr_i (z + n)) :: r) st μ) : fr_A l κ mi k Q pc (some (fr_i z) :: r) st μ := by
  intro p e s m args below meth c hF H locs lsA hI hL hl
  have hm : ((0, fr_i z) : Nat × Value) ∈ fr_as mi.2.2.1 (some (fr_i z) :: r) := fr_as_mem.mpr ⟨hn, rfl⟩
  obtain ⟨j, hj⟩ := List.getElem?_of_mem hm
  exact lv_iinc hF.1 hF.2.1 hd hl.has hj (Int32.ofInt_add z n).symm hn rfl (fun lsB hB => kk p e s m args below meth c hF H locs lsB hI hL (hl.set1 (by simp) fr_hp0 hB))
theorem fr_il1 {x0 : Option Value} {z : Int} (hd : decode mi.2.1 pc = .ok (.iload_n 1, 1)) (kk : fr_A l κ mi k Q (pc + 1) (x0 :: some (fr_i z) :: r) (fr_i z :: st) μ) : fr_A l κ mi k Q pc (x0 :: some (fr_i z) :: r) st μ := by
  intro p e s m args below meth c hF H locs lsA hI hL hl
  exact lv_iload_n hF.1 hF.2.1 hd rfl (hl.2.2 1 _ rfl) (kk p e s m args below meth c hF H locs lsA hI hL hl)
theorem fr_al1 {x0 : Option Value} {z : Nat} (hd : decode mi.2.1 pc = .ok (.aload_n 1, 1)) (kk : fr_A l κ mi k Q (pc + 1) (x0 :: some (Value.ref z) :: r) (Value.ref z :: st) μ) : fr_A l κ mi k Q pc (x0 :: some (Value.ref z) :: r) st μ := by
  intro p e s m args below meth c hF H locs lsA hI hL hl
  exact lv_aload_n hF.1 hF.2.1 hd rfl (hl.2.2 1 _ rfl) (kk p e s m args below meth c hF H locs lsA hI hL hl)
theorem fr_ll1 {x0 : Option Value} {z : Int} (hd : decode mi.2.1 pc = .ok (.lload_n 1, 1)) (kk : fr_A l κ mi k Q (pc + 1) (x0 :: some (fr_j z) :: r) (fr_j z :: st) μ) : fr_A l κ mi k Q pc (x0 :: some (fr_j z) :: r) st μ := by
  intro p e s m args below meth c hF H locs lsA hI hL hl
  exact lv_lload_n hF.1 hF.2.1 hd rfl (hl.2.2 1 _ rfl) (kk p e s m args below meth c hF H locs lsA hI hL hl)
theorem fr_is1 {x0 : Option Value} {y : Option Value} {z : Int} (hd : decode mi.2.1 pc = .ok (.istore_n 1, 1)) (hc : fr_c1 x0 = true) (hn : 1 < mi.2.2.1) (kk : fr_A l κ mi k Q (pc + 1) (x0 :: some (fr_i z) :: r) st μ) : fr_A l κ mi k Q pc (x0 :: y :: r) (fr_i z :: st) μ := by
  intro p e s m args below meth c hF H locs lsA hI hL hl
  exact lv_istore_n hF.1 hF.2.1 hd rfl hl.has hn rfl (fun lsB hB => kk p e s m args below meth c hF H locs lsB hI hL (hl.set1 (by simp) (fr_hp (i := 0) (y := x0) rfl hc) hB))
theorem fr_as1 {x0 : Option Value} {y : Option Value} {z : Nat} (hd : decode mi.2.1 pc = .ok (.astore_n 1, 1)) (hc : fr_c1 x0 = true) (hn : 1 < mi.2.2.1) (kk : fr_A l κ mi k Q (pc + 1) (x0 :: some (Value.ref z) :: r) st μ) : fr_A l κ mi k Q pc (x0 :: y :: r) (Value.ref z :: st) μ := by
  intro p e s m args below meth c hF H locs lsA hI hL hl
  exact lv_astore_n hF.1 hF.2.1 hd rfl hl.has hn rfl (fun lsB hB => kk p e s m args below meth c hF H locs lsB hI hL (hl.set1 (by simp) (fr_hp (i := 0) (y := x0) rfl hc) hB))
theorem fr_ls1 {x0 : Option Value} {y y2 : Option Value} {z : Int} (hd : decode mi.2.1 pc = .ok (.lstore_n 1, 1)) (hc : fr_c1 x0 = true) (hn : 1 + 1 < mi.2.2.1) (kk : fr_A l κ mi k Q (pc + 1) (x0 :: some (fr_j z) :: none :: r) st μ) : fr_A l κ mi k Q pc (x0 :: y :: y2 :: r) (fr_j z :: st) μ := by
  intro p e s m args below meth c hF H locs lsA hI hL hl
  exact lv_lstore_n hF.1 hF.2.1 hd rfl hl.has hn rfl (fun lsB hB => kk p e s m args below meth c hF H locs lsB hI hL (hl.set2 (by simp) (fr_hp (i := 0) (y := x0) rfl hc) hB))
theorem fr_ii1 {x0 : Option Value} {z n : Int} (hd : decode mi.2.1 pc = .ok (.iinc 1 n, 3)) (hc : fr_c1 x0 = true) (hn : 1 < mi.2.2.1) (kk : fr_A l κ mi k Q (pc + 3) (x0 :: some (fr_i (z + n)) :: r) st μ) : fr_A l κ mi k Q pc (x0 :: some (fr_i z) :: r) st μ := by
  intro p e s m args below meth c hF H locs lsA hI hL hl
  have hm : ((1, fr_i z) : Nat × Value) ∈ fr_as mi.2.2.1 (x0 :: some (fr_i z) :: r) := fr_as_mem.mpr ⟨hn, rfl⟩
  obtain ⟨j, hj⟩ := List.getElem?_of_mem hm
  exact lv_iinc hF.1 hF.2.1 hd hl.has hj (Int32.ofInt_add z n).symm hn rfl (fun lsB hB => kk p e s m args below meth c hF H locs lsB hI hL (hl.set1 (by simp) (fr_hp (i := 0) (y := x0) rfl hc) hB))
theorem fr_il2 {x0 x1 : Option Value} {z : Int} (hd : decode mi.2.1 pc = .ok (.iload_n 2, 1)) (kk : fr_A l κ mi k Q (pc + 1) (x0 :: x1 :: some (fr_i z) :: r) (fr_i z :: st) μ) : fr_A l κ mi k Q pc (x0 :: x1 :: some (fr_i z) :: r) st μ := by
  intro p e s m args below meth c hF H locs lsA hI hL hl
  exact lv_iload_n hF.1 hF.2.1 hd rfl (hl.2.2 2 _ rfl) (kk p e s m args below meth c hF H locs lsA hI hL hl)
theorem fr_al2 {x0 x1 : Option Value} {z : Nat} (hd : decode mi.2.1 pc = .ok (.aload_n 2, 1)) (kk : fr_A l κ mi k Q (pc + 1) (x0 :: x1 :: some (Value.ref z) :: r) (Value.ref z :: st) μ) : fr_A l κ mi k Q pc (x0 :: x1 :: some (Value.ref z) :: r) st μ := by
  intro p e s m args below meth c hF H locs lsA hI hL hl
  exact lv_aload_n hF.1 hF.2.1 hd rfl (hl.2.2 2 _ rfl) (kk p e s m args below meth c hF H locs lsA hI hL hl)
theorem fr_ll2 {x0 x1 : Option Value} {z : Int} (hd : decode mi.2.1 pc = .ok (.lload_n 2, 1)) (kk : fr_A l κ mi k Q (pc + 1) (x0 :: x1 :: some (fr_j z) :: r) (fr_j z :: st) μ) : fr_A l κ mi k Q pc (x0 :: x1 :: some (fr_j z) :: r) st μ := by
  intro p e s m args below meth c hF H locs lsA hI hL hl
  exact lv_lload_n hF.1 hF.2.1 hd rfl (hl.2.2 2 _ rfl) (kk p e s m args below meth c hF H locs lsA hI hL hl)
theorem fr_is2 {x0 x1 : Option Value} {y : Option Value} {z : Int} (hd : decode mi.2.1 pc = .ok (.istore_n 2, 1)) (hc : fr_c1 x1 = true) (hn : 2 < mi.2.2.1) (kk : fr_A l κ mi k Q (pc + 1) (x0 :: x1 :: some (fr_i z) :: r) st μ) : fr_A l κ mi k Q pc (x0 :: x1 :: y :: r) (fr_i z :: st) μ := by
  intro p e s m args below meth c hF H locs lsA hI hL hl
  exact lv_istore_n hF.1 hF.2.1 hd rfl hl.has hn rfl (fun lsB hB => kk p e s m args below meth c hF H locs lsB hI hL (hl.set1 (by simp) (fr_hp (i := 1) (y := x1) rfl hc) hB))
theorem fr_as2 {x0 x1 : Option Value} {y : Option Value} {z : Nat} (hd : decode mi.2.1 pc = .ok (.astore_n 2, 1)) (hc : fr_c1 x1 = true) (hn : 2 < mi.2.2.1) (kk : fr_A l κ mi k Q (pc + 1) (x0 :: x1 :: some (Value.ref z) :: r) st μ) : fr_A l κ mi k Q pc (x0 :: x1 :: y :: r) (Value.ref z :: st) μ := by
  intro p e s m args below meth c hF H locs lsA hI hL hl
  exact lv_astore_n hF.1 hF.2.1 hd rfl hl.has hn rfl (fun lsB hB => kk p e s m args below meth c hF H locs lsB hI hL (hl.set1 (by simp) (fr_hp (i := 1) (y := x1) rfl hc) hB))
theorem fr_ls2 {x0 x1 : Option Value} {y y2 : Option Value} {z : Int} (hd : decode mi.2.1 pc = .ok (.lstore_n 2, 1)) (hc : fr_c1 x1 = true) (hn : 2 + 1 < mi.2.2.1) (kk : fr_A l κ mi k Q (pc + 1) (x0 :: x1 :: some (fr_j z) :: none :: r) st μ) : fr_A l κ mi k Q pc (x0 :: x1 :: y :: y2 :: r) (fr_j z :: st) μ := by
  intro p e s m args below meth c hF H locs lsA hI hL hl
  exact lv_lstore_n hF.1 hF.2.1 hd rfl hl.has hn rfl (fun lsB hB => kk p e s m args below meth c hF H locs lsB hI hL (hl.set2 (by simp) (fr_hp (i := 1) (y := x1) rfl hc) hB))
theorem fr_ii2 {x0 x1 : Option Value} {z n : Int} (hd : decode mi.2.1 pc = .ok (.iinc 2 n, 3)) (hc : fr_c1 x1 = true) (hn : 2 < mi.2.2.1) (kk : fr_A l κ mi k Q (pc + 3) (x0 :: x1 :: some (fr_i (z + n)) :: r) st μ) : fr_A l κ mi k Q pc (x0 :: x1 :: some (fr_i z) :: r) st μ := by
  intro p e s m args below meth c hF H locs lsA hI hL hl
  have hm : ((2, fr_i z) : Nat × Value) ∈ fr_as mi.2.2.1 (x0 :: x1 :: some (fr_i z) :: r) := fr_as_mem.mpr ⟨hn, rfl⟩
  obtain ⟨j, hj⟩ := List.getElem?_of_mem hm
  exact lv_iinc hF.1 hF.2.1 hd hl.has hj (Int32.ofInt_add z n).symm hn rfl (fun lsB hB => kk p e s m args below meth c hF H locs lsB hI hL (hl.set1 (by simp) (fr_hp (i := 1) (y := x1) rfl hc) hB))
theorem fr_il3 {x0 x1 x2 : Option Value} {z : Int} (hd : decode mi.2.1 pc = .ok (.iload_n 3, 1)) (kk : fr_A l κ mi k Q (pc + 1) (x0 :: x1 :: x2 :: some (fr_i z) :: r) (fr_i z :: st) μ) : fr_A l κ mi k Q pc (x0 :: x1 :: x2 :: some (fr_i z) :: r) st μ := by
  intro p e s m args below meth c hF H locs lsA hI hL hl
  exact lv_iload_n hF.1 hF.2.1 hd rfl (hl.2.2 3 _ rfl) (kk p e s m args below meth c hF H locs lsA hI hL hl)
theorem fr_al3 {x0 x1 x2 : Option Value} {z : Nat} (hd : decode mi.2.1 pc = .ok (.aload_n 3, 1)) (kk : fr_A l κ mi k Q (pc + 1) (x0 :: x1 :: x2 :: some (Value.ref z) :: r) (Value.ref z :: st) μ) : fr_A l κ mi k Q pc (x0 :: x1 :: x2 :: some (Value.ref z) :: r) st μ := by
  intro p e s m args below meth c hF H locs lsA hI hL hl
  exact lv_aload_n hF.1 hF.2.1 hd rfl (hl.2.2 3 _ rfl) (kk p e s m args below meth c hF H locs lsA hI hL hl)
theorem fr_ll3 {x0 x1 x2 : Option Value} {z : Int} (hd : decode mi.2.1 pc = .ok (.lload_n 3, 1)) (kk : fr_A l κ mi k Q (pc + 1) (x0 :: x1 :: x2 :: some (fr_j z) :: r) (fr_j z :: st) μ) : fr_A l κ mi k Q pc (x0 :: x1 :: x2 :: some (fr_j z) :: r) st μ := by
  intro p e s m args below meth c hF H locs lsA hI hL hl
  exact lv_lload_n hF.1 hF.2.1 hd rfl (hl.2.2 3 _ rfl) (kk p e s m args below meth c hF H locs lsA hI hL hl)
theorem fr_is3 {x0 x1 x2 : Option Value} {y : Option Value} {z : Int} (hd : decode mi.2.1 pc = .ok (.istore_n 3, 1)) (hc : fr_c1 x2 = true) (hn : 3 < mi.2.2.1) (kk : fr_A l κ mi k Q (pc + 1) (x0 :: x1 :: x2 :: some (fr_i z) :: r) st μ) : fr_A l κ mi k Q pc (x0 :: x1 :: x2 :: y :: r) (fr_i z :: st) μ := by
  intro p e s m args below meth c hF H locs lsA hI hL hl
  exact lv_istore_n hF.1 hF.2.1 hd rfl hl.has hn rfl (fun lsB hB => kk p e s m args below meth c hF H locs lsB hI hL (hl.set1 (by simp) (fr_hp (i := 2) (y := x2) rfl hc) hB))
theorem fr_as3 {x0 x1 x2 : Option Value} {y : Option Value} {z : Nat} (hd : decode mi.2.1 pc = .ok (.astore_n 3, 1)) (hc : fr_c1 x2 = true) (hn : 3 < mi.2.2.1) (kk : fr_A l κ mi k Q (pc + 1) (x0 :: x1 :: x2 :: some (Value.ref z) :: r) st μ) : fr_A l κ mi k Q pc (x0 :: x1 :: x2 :: y :: r) (Value.ref z :: st) μ := by
  intro p e s m args below meth c hF H locs lsA hI hL hl
  exact lv_astore_n hF.1 hF.2.1 hd rfl hl.has hn rfl (fun lsB hB => kk p e s m args below meth c hF H locs lsB hI hL (hl.set1 (by simp) (fr_hp (i := 2) (y := x2) rfl hc) hB))
theorem fr_ls3 {x0 x1 x2 : Option Value} {y y2 : Option Value} {z : Int} (hd : decode mi.2.1 pc = .ok (.lstore_n 3, 1)) (hc : fr_c1 x2 = true) (hn : 3 + 1 < mi.2.2.1) (kk : fr_A l κ mi k Q (pc + 1) (x0 :: x1 :: x2 :: some (fr_j z) :: none :: r) st μ) : fr_A l κ mi k Q pc (x0 :: x1 :: x2 :: y :: y2 :: r) (fr_j z :: st) μ := by
  intro p e s m args below meth c hF H locs lsA hI hL hl
  exact lv_lstore_n hF.1 hF.2.1 hd rfl hl.has hn rfl (fun lsB hB => kk p e s m args below meth c hF H locs lsB hI hL (hl.set2 (by simp) (fr_hp (i := 2) (y := x2) rfl hc) hB))
theorem fr_ii3 {x0 x1 x2 : Option Value} {z n : Int} (hd : decode mi.2.1 pc = .ok (.iinc 3 n, 3)) (hc : fr_c1 x2 = true) (hn : 3 < mi.2.2.1) (kk : fr_A l κ mi k Q (pc + 3) (x0 :: x1 :: x2 :: some (fr_i (z + n)) :: r) st μ) : fr_A l κ mi k Q pc (x0 :: x1 :: x2 :: some (fr_i z) :: r) st μ := by
  intro p e s m args below meth c hF H locs lsA hI hL hl
  have hm : ((3, fr_i z) : Nat × Value) ∈ fr_as mi.2.2.1 (x0 :: x1 :: x2 :: some (fr_i z) :: r) := fr_as_mem.mpr ⟨hn, rfl⟩
  obtain ⟨j, hj⟩ := List.getElem?_of_mem hm
  exact lv_iinc hF.1 hF.2.1 hd hl.has hj (Int32.ofInt_add z n).symm hn rfl (fun lsB hB => kk p e s m args below meth c hF H locs lsB hI hL (hl.set1 (by simp) (fr_hp (i := 2) (y := x2) rfl hc) hB))
theorem fr_il4 {x0 x1 x2 x3 : Option Value} {z : Int} (hd : decode mi.2.1 pc = .ok (.iload 4, 2)) (kk : fr_A l κ mi k Q (pc + 2) (x0 :: x1 :: x2 :: x3 :: some (fr_i z) :: r) (fr_i z :: st) μ) : fr_A l κ mi k Q pc (x0 :: x1 :: x2 :: x3 :: some (fr_i z) :: r) st μ := by
  intro p e s m args below meth c hF H locs lsA hI hL hl
  exact lv_iload hF.1 hF.2.1 hd (hl.2.2 4 _ rfl) (kk p e s m args below meth c hF H locs lsA hI hL hl)
theorem fr_al4 {x0 x1 x2 x3 : Option Value} {z : Nat} (hd : decode mi.2.1 pc = .ok (.aload 4, 2)) (kk : fr_A l κ mi k Q (pc + 2) (x0 :: x1 :: x2 :: x3 :: some (Value.ref z) :: r) (Value.ref z :: st) μ) : fr_A l κ mi k Q pc (x0 :: x1 :: x2 :: x3 :: some (Value.ref z) :: r) st μ := by
  intro p e s m args below meth c hF H locs lsA hI hL hl
  exact lv_aload hF.1 hF.2.1 hd (hl.2.2 4 _ rfl) (kk p e s m args below meth c hF H locs lsA hI hL hl)
theorem fr_ll4 {x0 x1 x2 x3 : Option Value} {z : Int} (hd : decode mi.2.1 pc = .ok (.lload 4, 2)) (kk : fr_A l κ mi k Q (pc + 2) (x0 :: x1 :: x2 :: x3 :: some (fr_j z) :: r) (fr_j z :: st) μ) : fr_A l κ mi k Q pc (x0 :: x1 :: x2 :: x3 :: some (fr_j z) :: r) st μ := by
  intro p e s m args below meth c hF H locs lsA hI hL hl
  exact lv_lload hF.1 hF.2.1 hd (hl.2.2 4 _ rfl) (kk p e s m args below meth c hF H locs lsA hI hL hl)
theorem fr_is4 {x0 x1 x2 x3 : Option Value} {y : Option Value} {z : Int} (hd : decode mi.2.1 pc = .ok (.istore 4, 2)) (hc : fr_c1 x3 = true) (hn : 4 < mi.2.2.1) (kk : fr_A l κ mi k Q (pc + 2) (x0 :: x1 :: x2 :: x3 :: some (fr_i z) :: r) st μ) : fr_A l κ mi k Q pc (x0 :: x1 :: x2 :: x3 :: y :: r) (fr_i z :: st) μ := by
  intro p e s m args below meth c hF H locs lsA hI hL hl
  exact lv_istore hF.1 hF.2.1 hd hl.has hn rfl (fun lsB hB => kk p e s m args below meth c hF H locs lsB hI hL (hl.set1 (by simp) (fr_hp (i := 3) (y := x3) rfl hc) hB))
theorem fr_as4 {x0 x1 x2 x3 : Option Value} {y : Option Value} {z : Nat} (hd : decode mi.2.1 pc = .ok (.astore 4, 2)) (hc : fr_c1 x3 = true) (hn : 4 < mi.2.2.1) (kk : fr_A l κ mi k Q (pc + 2) (x0 :: x1 :: x2 :: x3 :: some (Value.ref z) :: r) st μ) : fr_A l κ mi k Q pc (x0 :: x1 :: x2 :: x3 :: y :: r) (Value.ref z :: st) μ := by
  intro p e s m args below meth c hF H locs lsA hI hL hl
  exact lv_astore hF.1 hF.2.1 hd hl.has hn rfl (fun lsB hB => kk p e s m args below meth c hF H locs lsB hI hL (hl.set1 (by simp) (fr_hp (i := 3) (y := x3) rfl hc) hB))
theorem fr_ls4 {x0 x1 x2 x3 : Option Value} {y y2 : Option Value} {z : Int} (hd : decode mi.2.1 pc = .ok (.lstore 4, 2)) (hc : fr_c1 x3 = true) (hn : 4 + 1 < mi.2.2.1) (kk : fr_A l κ mi k Q (pc + 2) (x0 :: x1 :: x2 :: x3 :: some (fr_j z) :: none :: r) st μ) : fr_A l κ mi k Q pc (x0 :: x1 :: x2 :: x3 :: y :: y2 :: r) (fr_j z :: st) μ := by
  intro p e s m args below meth c hF H locs lsA hI hL hl
  exact lv_lstore hF.1 hF.2.1 hd hl.has hn rfl (fun lsB hB => kk p e s m args below meth c hF H locs lsB hI hL (hl.set2 (by simp) (fr_hp (i := 3) (y := x3) rfl hc) hB))
theorem fr_ii4 {x0 x1 x2 x3 : Option Value} {z n : Int} (hd : decode mi.2.1 pc = .ok (.iinc 4 n, 3)) (hc : fr_c1 x3 = true) (hn : 4 < mi.2.2.1) (kk : fr_A l κ mi k Q (pc + 3) (x0 :: x1 :: x2 :: x3 :: some (fr_i (z + n)) :: r) st μ) : fr_A l κ mi k Q pc (x0 :: x1 :: x2 :: x3 :: some (fr_i z) :: r) st μ := by
  intro p e s m args below meth c hF H locs lsA hI hL hl
  have hm : ((4, fr_i z) : Nat × Value) ∈ fr_as mi.2.2.1 (x0 :: x1 :: x2 :: x3 :: some (fr_i z) :: r) := fr_as_mem.mpr ⟨hn, rfl⟩
  obtain ⟨j, hj⟩ := List.getElem?_of_mem hm
  exact lv_iinc hF.1 hF.2.1 hd hl.has hj (Int32.ofInt_add z n).symm hn rfl (fun lsB hB => kk p e s m args below meth c hF H locs lsB hI hL (hl.set1 (by simp) (fr_hp (i := 3) (y := x3) rfl hc) hB))
theorem fr_il5 {x0 x1 x2 x3 x4 : Option Value} {z : Int} (hd : decode mi.2.1 pc = .ok (.iload 5, 2)) (kk : fr_A l κ mi k Q (pc + 2) (x0 :: x1 :: x2 :: x3 :: x4 :: some (fr_i z) :: r) (fr_i z :: st) μ) : fr_A l κ mi k Q pc (x0 :: x1 :: x2 :: x3 :: x4 :: some (fr_i z) :: r) st μ := by
  intro p e s m args below meth c hF H locs lsA hI hL hl
  exact lv_iload hF.1 hF.2.1 hd (hl.2.2 5 _ rfl) (kk p e s m args below meth c hF H locs lsA hI hL hl)
theorem fr_al5 {x0 x1 x2 x3 x4 : Option Value} {z : Nat} (hd : decode mi.2.1 pc = .ok (.aload 5, 2)) (kk : fr_A l κ mi k Q (pc + 2) (x0 :: x1 :: x2 :: x3 :: x4 :: some (Value.ref z) :: r) (Value.ref z :: st) μ) : fr_A l κ mi k Q pc (x0 :: x1 :: x2 :: x3 :: x4 :: some (Value.ref z) :: r) st μ := by
  intro p e s m args below meth c hF H locs lsA hI hL hl
  exact lv_aload hF.1 hF.2.1 hd (hl.2.2 5 _ rfl) (kk p e s m args below meth c hF H locs lsA hI hL hl)
theorem fr_ll5 {x0 x1 x2 x3 x4 : Option Value} {z : Int} (hd : decode mi.2.1 pc = .ok (.lload 5, 2)) (kk : fr_A l κ mi k Q (pc + 2) (x0 :: x1 :: x2 :: x3 :: x4 :: some (fr_j z) :: r) (fr_j z :: st) μ) : fr_A l κ mi k Q pc (x0 :: x1 :: x2 :: x3 :: x4 :: some (fr_j z) :: r) st μ := by
  intro p e s m args below meth c hF H locs lsA hI hL hl
  exact lv_lload hF.1 hF.2.1 hd (hl.2.2 5 _ rfl) (kk p e s m args below meth c hF H locs lsA hI hL hl)
theorem fr_is5 {x0 x1 x2 x3 x4 : Option Value} {y : Option Value} {z : Int} (hd : decode mi.2.1 pc = .ok (.istore 5, 2)) (hc : fr_c1 x4 = true) (hn : 5 < mi.2.2.1) (kk : fr_A l κ mi k Q (pc + 2) (x0 :: x1 :: x2 :: x3 :: x4 :: some (fr_i z) :: r) st μ) : fr_A l κ mi k Q pc (x0 :: x1 :: x2 :: x3 :: x4 :: y :: r) (fr_i z :: st) μ := by
  intro p e s m args below meth c hF H locs lsA hI hL hl
  exact lv_istore hF.1 hF.2.1 hd hl.has hn rfl (fun lsB hB => kk p e s m args below meth c hF H locs lsB hI hL (hl.set1 (by simp) (fr_hp (i := 4) (y := x4) rfl hc) hB))
theorem fr_as5 {x0 x1 x2 x3 x4 : Option Value} {y : Option Value} {z : Nat} (hd : decode mi.2.1 pc = .ok (.astore 5, 2)) (hc : fr_c1 x4 = true) (hn : 5 < mi.2.2.1) (kk : fr_A l κ mi k Q (pc + 2) (x0 :: x1 :: x2 :: x3 :: x4 :: some (Value.ref z) :: r) st μ) : fr_A l κ mi k Q pc (x0 :: x1 :: x2 :: x3 :: x4 :: y :: r) (Value.ref z :: st) μ := by
  intro p e s m args below meth c hF H locs lsA hI hL hl
  exact lv_astore hF.1 hF.2.1 hd hl.has hn rfl (fun lsB hB => kk p e s m args below meth c hF H locs lsB hI hL (hl.set1 (by simp) (fr_hp (i := 4) (y := x4) rfl hc) hB))
theorem fr_ls5 {x0 x1 x2 x3 x4 : Option Value} {y y2 : Option Value} {z : Int} (hd : decode mi.2.1 pc = .ok (.lstore 5, 2)) (hc : fr_c1 x4 = true) (hn : 5 + 1 < mi.2.2.1) (kk : fr_A l κ mi k Q (pc + 2) (x0 :: x1 :: x2 :: x3 :: x4 :: some (fr_j z) :: none :: r) st μ) : fr_A l κ mi k Q pc (x0 :: x1 :: x2 :: x3 :: x4 :: y :: y2 :: r) (fr_j z :: st) μ := by
  intro p e s m args below meth c hF H locs lsA hI hL hl
  exact lv_lstore hF.1 hF.2.1 hd hl.has hn rfl (fun lsB hB => kk p e s m args below meth c hF H locs lsB hI hL (hl.set2 (by simp) (fr_hp (i := 4) (y := x4) rfl hc) hB))
theorem fr_ii5 {x0 x1 x2 x3 x4 : Option Value} {z n : Int} (hd : decode mi.2.1 pc = .ok (.iinc 5 n, 3)) (hc : fr_c1 x4 = true) (hn : 5 < mi.2.2.1) (kk : fr_A l κ mi k Q (pc + 3) (x0 :: x1 :: x2 :: x3 :: x4 :: some (fr_i (z + n)) :: r) st μ) : fr_A l κ mi k Q pc (x0 :: x1 :: x2 :: x3 :: x4 :: some (fr_i z) :: r) st μ := by
  intro p e s m args below meth c hF H locs lsA hI hL hl
  have hm : ((5, fr_i z) : Nat × Value) ∈ fr_as mi.2.2.1 (x0 :: x1 :: x2 :: x3 :: x4 :: some (fr_i z) :: r) := fr_as_mem.mpr ⟨hn, rfl⟩
  obtain ⟨j, hj⟩ := List.getElem?_of_mem hm
  exact lv_iinc hF.1 hF.2.1 hd hl.has hj (Int32.ofInt_add z n).symm hn rfl (fun lsB hB => kk p e s m args below meth c hF H locs lsB hI hL (hl.set1 (by simp) (fr_hp (i := 4) (y := x4) rfl hc) hB))
theorem fr_il6 {x0 x1 x2 x3 x4 x5 : Option Value} {z : Int} (hd : decode mi.2.1 pc = .ok (.iload 6, 2)) (kk : fr_A l κ mi k Q (pc + 2) (x0 :: x1 :: x2 :: x3 :: x4 :: x5 :: some (fr_i z) :: r) (fr_i z :: st) μ) : fr_A l κ mi k Q pc (x0 :: x1 :: x2 :: x3 :: x4 :: x5 :: some (fr_i z) :: r) st μ := by
  intro p e s m args below meth c hF H locs lsA hI hL hl
  exact lv_iload hF.1 hF.2.1 hd (hl.2.2 6 _ rfl) (kk p e s m args below meth c hF H locs lsA hI hL hl)
theorem fr_al6 {x0 x1 x2 x3 x4 x5 : Option Value} {z : Nat} (hd : decode mi.2.1 pc = .ok (.aload 6, 2)) (kk : fr_A l κ mi k Q (pc + 2) (x0 :: x1 :: x2 :: x3 :: x4 :: x5 :: some (Value.ref z) :: r) (Value.ref z :: st) μ) : fr_A l κ mi k Q pc (x0 :: x1 :: x2 :: x3 :: x4 :: x5 :: some (Value.ref z) :: r) st μ := by
  intro p e s m args below meth c hF H locs lsA hI hL hl
  exact lv_aload hF.1 hF.2.1 hd (hl.2.2 6 _ rfl) (kk p e s m args below meth c hF H locs lsA hI hL hl)
theorem fr_ll6 {x0 x1 x2 x3 x4 x5 : Option Value} {z : Int} (hd : decode mi.2.1 pc = .ok (.lload 6, 2)) (kk : fr_A l κ mi k Q (pc + 2) (x0 :: x1 :: x2 :: x3 :: x4 :: x5 :: some (fr_j z) :: r) (fr_j z :: st) μ) : fr_A l κ mi k Q pc (x0 :: x1 :: x2 :: x3 :: x4 :: x5 :: some (fr_j z) :: r) st μ := by
  intro p e s m args below meth c hF H locs lsA hI hL hl
  exact lv_lload hF.1 hF.2.1 hd (hl.2.2 6 _ rfl) (kk p e s m args below meth c hF H locs lsA hI hL hl)
theorem fr_is6 {x0 x1 x2 x3 x4 x5 : Option Value} {y : Option Value} {z : Int} (hd : decode mi.2.1 pc = .ok (.istore 6, 2)) (hc : fr_c1 x5 = true) (hn : 6 < mi.2.2.1) (kk : fr_A l κ mi k Q (pc + 2) (x0 :: x1 :: x2 :: x3 :: x4 :: x5 :: some (fr_i z) :: r) st μ) : fr_A l κ mi k Q pc (x0 :: x1 :: x2 :: x3 :: x4 :: x5 :: y :: r) (fr_i z :: st) μ := by
  intro p e s m args below meth c hF H locs lsA hI hL hl
  exact lv_istore hF.1 hF.2.1 hd hl.has hn rfl (fun lsB hB => kk p e s m args below meth c hF H locs lsB hI hL (hl.set1 (by simp) (fr_hp (i := 5) (y := x5) rfl hc) hB))
theorem fr_as6 {x0 x1 x2 x3 x4 x5 : Option Value} {y : Option Value} {z : Nat} (hd : decode mi.2.1 pc = .ok (.astore 6, 2)) (hc : fr_c1 x5 = true) (hn : 6 < mi.2.2.1) (kk : fr_A l κ mi k Q (pc + 2) (x0 :: x1 :: x2 :: x3 :: x4 :: x5 :: some (Value.ref z) :: r) st μ) : fr_A l κ mi k Q pc (x0 :: x1 :: x2 :: x3 :: x4 :: x5 :: y :: r) (Value.ref z :: st) μ := by
  intro p e s m args below meth c hF H locs lsA hI hL hl
  exact lv_astore hF.1 hF.2.1 hd hl.has hn rfl (fun lsB hB => kk p e s m args below meth c hF H locs lsB hI hL (hl.set1 (by simp) (fr_hp (i := 5) (y := x5) rfl hc) hB))
theorem fr_ls6 {x0 x1 x2 x3 x4 x5 : Option Value} {y y2 : Option Value} {z : Int} (hd : decode mi.2.1 pc = .ok (.lstore 6, 2)) (hc : fr_c1 x5 = true) (hn : 6 + 1 < mi.2.2.1) (kk : fr_A l κ mi k Q (pc + 2) (x0 :: x1 :: x2 :: x3 :: x4 :: x5 :: some (fr_j z) :: none :: r) st μ) : fr_A l κ mi k Q pc (x0 :: x1 :: x2 :: x3 :: x4 :: x5 :: y :: y2 :: r) (fr_j z :: st) μ := by
  intro p e s m args below meth c hF H locs lsA hI hL hl
  exact lv_lstore hF.1 hF.2.1 hd hl.has hn rfl (fun lsB hB => kk p e s m args below meth c hF H locs lsB hI hL (hl.set2 (by simp) (fr_hp (i := 5) (y := x5) rfl hc) hB))
theorem fr_ii6 {x0 x1 x2 x3 x4 x5 : Option Value} {z n : Int} (hd : decode mi.2.1 pc = .ok (.iinc 6 n, 3)) (hc : fr_c1 x5 = true) (hn : 6 < mi.2.2.1) (kk : fr_A l κ mi k Q (pc + 3) (x0 :: x1 :: x2 :: x3 :: x4 :: x5 :: some (fr_i (z + n)) :: r) st μ) : fr_A l κ mi k Q pc (x0 :: x1 :: x2 :: x3 :: x4 :: x5 :: some (fr_i z) :: r) st μ := by
  intro p e s m args below meth c hF H locs lsA hI hL hl
  have hm : ((6, fr_i z) : Nat × Value) ∈ fr_as mi.2.2.1 (x0 :: x1 :: x2 :: x3 :: x4 :: x5 :: some (fr_i z) :: r) := fr_as_mem.mpr ⟨hn, rfl⟩
  obtain ⟨j, hj⟩ := List.getElem?_of_mem hm
  exact lv_iinc hF.1 hF.2.1 hd hl.has hj (Int32.ofInt_add z n).symm hn rfl (fun lsB hB => kk p e s m args below meth c hF H locs lsB hI hL (hl.set1 (by simp) (fr_hp (i := 5) (y := x5) rfl hc) hB))
theorem fr_il7 {x0 x1 x2 x3 x4 x5 x6 : Option Value} {z : Int} (hd : decode mi.2.1 pc = .ok (.iload 7, 2)) (kk : fr_A l κ mi k Q (pc + 2) (x0 :: x1 :: x2 :: x3 :: x4 :: x5 :: x6 :: some (fr_i z) :: r) (fr_i z :: st) μ) : fr_A l κ mi k Q pc (x0 :: x1 :: x2 :: x3 :: x4 :: x5 :: x6 :: some (fr_i z) :: r) st μ := by
  intro p e s m args below meth c hF H locs lsA hI hL hl
  exact lv_iload hF.1 hF.2.1 hd (hl.2.2 7 _ rfl) (kk p e s m args below meth c hF H locs lsA hI hL hl)
theorem fr_al7 {x0 x1 x2 x3 x4 x5 x6 : Option Value} {z : Nat} (hd : decode mi.2.1 pc = .ok (.aload 7, 2)) (kk : fr_A l κ mi k Q (pc + 2) (x0 :: x1 :: x2 :: x3 :: x4 :: x5 :: x6 :: some (Value.ref z) :: r) (Value.ref z :: st) μ) : fr_A l κ mi k Q pc (x0 :: x1 :: x2 :: x3 :: x4 :: x5 :: x6 :: some (Value.ref z) :: r) st μ := by
  intro p e s m args below meth c hF H locs lsA hI hL hl
  exact lv_aload hF.1 hF.2.1 hd (hl.2.2 7 _ rfl) (kk p e s m args below meth c hF H locs lsA hI hL hl)
theorem fr_ll7 {x0 x1 x2 x3 x4 x5 x6 : Option Value} {z : Int} (hd : decode mi.2.1 pc = .ok (.lload 7, 2)) (kk : fr_A l κ mi k Q (pc + 2) (x0 :: x1 :: x2 :: x3 :: x4 :: x5 :: x6 :: some (fr_j z) :: r) (fr_j z :: st) μ) : fr_A l κ mi k Q pc (x0 :: x1 :: x2 :: x3 :: x4 :: x5 :: x6 :: some (fr_j z) :: r) st μ := by
  intro p e s m args below meth c hF H locs lsA hI hL hl
  exact lv_lload hF.1 hF.2.1 hd (hl.2.2 7 _ rfl) (kk p e s m args below meth c hF H locs lsA hI hL hl)
theorem fr_is7 {x0 x1 x2 x3 x4 x5 x6 : Option Value} {y : Option Value} {z : Int} (hd : decode mi.2.1 pc = .ok (.istore 7, 2)) (hc : fr_c1 x6 = true) (hn : 7 < mi.2.2.1) (kk : fr_A l κ mi k Q (pc + 2) (x0 :: x1 :: x2 :: x3 :: x4 :: x5 :: x6 :: some (fr_i z) :: r) st μ) : fr_A l κ mi k Q pc (x0 :: x1 :: x2 :: x3 :: x4 :: x5 :: x6 :: y :: r) (fr_i z :: st) μ := by
  intro p e s m args below meth c hF H locs lsA hI hL hl
  exact lv_istore hF.1 hF.2.1 hd hl.has hn rfl (fun lsB hB => kk p e s m args below meth c hF H locs lsB hI hL (hl.set1 (by simp) (fr_hp (i := 6) (y := x6) rfl hc) hB))
theorem fr_as7 {x0 x1 x2 x3 x4 x5 x6 : Option Value} {y : Option Value} {z : Nat} (hd : decode mi.2.1 pc = .ok (.astore 7, 2)) (hc : fr_c1 x6 = true) (hn : 7 < mi.2.2.1) (kk : fr_A l κ mi k Q (pc + 2) (x0 :: x1 :: x2 :: x3 :: x4 :: x5 :: x6 :: some (Value.ref z) :: r) st μ) : fr_A l κ mi k Q pc (x0 :: x1 :: x2 :: x3 :: x4 :: x5 :: x6 :: y :: r) (Value.ref z :: st) μ := by
  intro p e s m args below meth c hF H locs lsA hI hL hl
  exact lv_astore hF.1 hF.2.1 hd hl.has hn rfl (fun lsB hB => kk p e s m args below meth c hF H locs lsB hI hL (hl.set1 (by simp) (fr_hp (i := 6) (y := x6) rfl hc) hB))
theorem fr_ls7 {x0 x1 x2 x3 x4 x5 x6 : Option Value} {y y2 : Option Value} {z : Int} (hd : decode mi.2.1 pc = .ok (.lstore 7, 2)) (hc : fr_c1 x6 = true) (hn : 7 + 1 < mi.2.2.1) (kk : fr_A l κ mi k Q (pc + 2) (x0 :: x1 :: x2 :: x3 :: x4 :: x5 :: x6 :: some (fr_j z) :: none :: r) st μ) : fr_A l κ mi k Q pc (x0 :: x1 :: x2 :: x3 :: x4 :: x5 :: x6 :: y :: y2 :: r) (fr_j z :: st) μ := by
  intro p e s m args below meth c hF H locs lsA hI hL hl
  exact lv_lstore hF.1 hF.2.1 hd hl.has hn rfl (fun lsB hB => kk p e s m args below meth c hF H locs lsB hI hL (hl.set2 (by simp) (fr_hp (i := 6) (y := x6) rfl hc) hB))
theorem fr_ii7 {x0 x1 x2 x3 x4 x5 x6 : Option Value} {z n : Int} (hd : decode mi.2.1 pc = .ok (.iinc 7 n, 3)) (hc : fr_c1 x6 = true) (hn : 7 < mi.2.2.1) (kk : fr_A l κ mi k Q (pc + 3) (x0 :: x1 :: x2 :: x3 :: x4 :: x5 :: x6 :: some (fr_i (z + n)) :: r) st μ) : fr_A l κ mi k Q pc (x0 :: x1 :: x2 :: x3 :: x4 :: x5 :: x6 :: some (fr_i z) :: r) st μ := by
  intro p e s m args below meth c hF H locs lsA hI hL hl
  have hm : ((7, fr_i z) : Nat × Value) ∈ fr_as mi.2.2.1 (x0 :: x1 :: x2 :: x3 :: x4 :: x5 :: x6 :: some (fr_i z) :: r) := fr_as_mem.mpr ⟨hn, rfl⟩
  obtain ⟨j, hj⟩ := List.getElem?_of_mem hm
  exact lv_iinc hF.1 hF.2.1 hd hl.has hj (Int32.ofInt_add z n).symm hn rfl (fun lsB hB => kk p e s m args below meth c hF H locs lsB hI hL (hl.set1 (by simp) (fr_hp (i := 6) (y := x6) rfl hc) hB))
theorem fr_il8 {x0 x1 x2 x3 x4 x5 x6 x7 : Option Value} {z : Int} (hd : decode mi.2.1 pc = .ok (.iload 8, 2)) (kk : fr_A l κ mi k Q (pc + 2) (x0 :: x1 :: x2 :: x3 :: x4 :: x5 :: x6 :: x7 :: some (fr_i z) :: r) (fr_i z :: st) μ) : fr_A l κ mi k Q pc (x0 :: x1 :: x2 :: x3 :: x4 :: x5 :: x6 :: x7 :: some (fr_i z) :: r) st μ := by
  intro p e s m args below meth c hF H locs lsA hI hL hl
  exact lv_iload hF.1 hF.2.1 hd (hl.2.2 8 _ rfl) (kk p e s m args below meth c hF H locs lsA hI hL hl)
theorem fr_al8 {x0 x1 x2 x3 x4 x5 x6 x7 : Option Value} {z : Nat} (hd : decode mi.2.1 pc = .ok (.aload 8, 2)) (kk : fr_A l κ mi k Q (pc + 2) (x0 :: x1 :: x2 :: x3 :: x4 :: x5 :: x6 :: x7 :: some (Value.ref z) :: r) (Value.ref z :: st) μ) : fr_A l κ mi k Q pc (x0 :: x1 :: x2 :: x3 :: x4 :: x5 :: x6 :: x7 :: some (Value.ref z) :: r) st μ := by
  intro p e s m args below meth c hF H locs lsA hI hL hl
  exact lv_aload hF.1 hF.2.1 hd (hl.2.2 8 _ rfl) (kk p e s m args below meth c hF H locs lsA hI hL hl)
theorem fr_ll8 {x0 x1 x2 x3 x4 x5 x6 x7 : Option Value} {z : Int} (hd : decode mi.2.1 pc = .ok (.lload 8, 2)) (kk : fr_A l κ mi k Q (pc + 2) (x0 :: x1 :: x2 :: x3 :: x4 :: x5 :: x6 :: x7 :: some (fr_j z) :: r) (fr_j z :: st) μ) : fr_A l κ mi k Q pc (x0 :: x1 :: x2 :: x3 :: x4 :: x5 :: x6 :: x7 :: some (fr_j z) :: r) st μ := by
  intro p e s m args below meth c hF H locs lsA hI hL hl
  exact lv_lload hF.1 hF.2.1 hd (hl.2.2 8 _ rfl) (kk p e s m args below meth c hF H locs lsA hI hL hl)
theorem fr_is8 {x0 x1 x2 x3 x4 x5 x6 x7 : Option Value} {y : Option Value} {z : Int} (hd : decode mi.2.1 pc = .ok (.istore 8, 2)) (hc : fr_c1 x7 = true) (hn : 8 < mi.2.2.1) (kk : fr_A l κ mi k Q (pc + 2) (x0 :: x1 :: x2 :: x3 :: x4 :: x5 :: x6 :: x7 :: some (fr_i z) :: r) st μ) : fr_A l κ mi k Q pc (x0 :: x1 :: x2 :: x3 :: x4 :: x5 :: x6 :: x7 :: y :: r) (fr_i z :: st) μ := by
  intro p e s m args below meth c hF H locs lsA hI hL hl
  exact lv_istore hF.1 hF.2.1 hd hl.has hn rfl (fun lsB hB => kk p e s m args below meth c hF H locs lsB hI hL (hl.set1 (by simp) (fr_hp (i := 7) (y := x7) rfl hc) hB))
theorem fr_as8 {x0 x1 x2 x3 x4 x5 x6 x7 : Option Value} {y : Option Value} {z : Nat} (hd : decode mi.2.1 pc = .ok (.astore 8, 2)) (hc : fr_c1 x7 = true) (hn : 8 < mi.2.2.1) (kk : fr_A l κ mi k Q (pc + 2) (x0 :: x1 :: x2 :: x3 :: x4 :: x5 :: x6 :: x7 :: some (Value.ref z) :: r) st μ) : fr_A l κ mi k Q pc (x0 :: x1 :: x2 :: x3 :: x4 :: x5 :: x6 :: x7 :: y :: r) (Value.ref z :: st) μ := by
  intro p e s m args below meth c hF H locs lsA hI hL hl
  exact lv_astore hF.1 hF.2.1 hd hl.has hn rfl (fun lsB hB => kk p e s m args below meth c hF H locs lsB hI hL (hl.set1 (by simp) (fr_hp (i := 7) (y := x7) rfl hc) hB))
theorem fr_ls8 {x0 x1 x2 x3 x4 x5 x6 x7 : Option Value} {y y2 : Option Value} {z : Int} (hd : decode mi.2.1 pc = .ok (.lstore 8, 2)) (hc : fr_c1 x7 = true) (hn : 8 + 1 < mi.2.2.1) (kk : fr_A l κ mi k Q (pc + 2) (x0 :: x1 :: x2 :: x3 :: x4 :: x5 :: x6 :: x7 :: some (fr_j z) :: none :: r) st μ) : fr_A l κ mi k Q pc (x0 :: x1 :: x2 :: x3 :: x4 :: x5 :: x6 :: x7 :: y :: y2 :: r) (fr_j z :: st) μ := by
  intro p e s m args below meth c hF H locs lsA hI hL hl
  exact lv_lstore hF.1 hF.2.1 hd hl.has hn rfl (fun lsB hB => kk p e s m args below meth c hF H locs lsB hI hL (hl.set2 (by simp) (fr_hp (i := 7) (y := x7) rfl hc) hB))
theorem fr_ii8 {x0 x1 x2 x3 x4 x5 x6 x7 : Option Value} {z n : Int} (hd : decode mi.2.1 pc = .ok (.iinc 8 n, 3)) (hc : fr_c1 x7 = true) (hn : 8 < mi.2.2.1) (kk : fr_A l κ mi k Q (pc + 3) (x0 :: x1 :: x2 :: x3 :: x4 :: x5 :: x6 :: x7 :: some (fr_i (z + n)) :: r) st μ) : fr_A l κ mi k Q pc (x0 :: x1 :: x2 :: x3 :: x4 :: x5 :: x6 :: x7 :: some (fr_i z) :: r) st μ := by
  intro p e s m args below meth c hF H locs lsA hI hL hl
  have hm : ((8, fr_i z) : Nat × Value) ∈ fr_as mi.2.2.1 (x0 :: x1 :: x2 :: x3 :: x4 :: x5 :: x6 :: x7 :: some (fr_i z) :: r) := fr_as_mem.mpr ⟨hn, rfl⟩
  obtain ⟨j, hj⟩ := List.getElem?_of_mem hm
  exact lv_iinc hF.1 hF.2.1 hd hl.has hj (Int32.ofInt_add z n).symm hn rfl (fun lsB hB => kk p e s m args below meth c hF H locs lsB hI hL (hl.set1 (by simp) (fr_hp (i := 7) (y := x7) rfl hc) hB))
theorem fr_il9 {x0 x1 x2 x3 x4 x5 x6 x7 x8 : Option Value} {z : Int} (hd : decode mi.2.1 pc = .ok (.iload 9, 2)) (kk : fr_A l κ mi k Q (pc + 2) (x0 :: x1 :: x2 :: x3 :: x4 :: x5 :: x6 :: x7 :: x8 :: some (fr_i z) :: r) (fr_i z :: st) μ) : fr_A l κ mi k Q pc (x0 :: x1 :: x2 :: x3 :: x4 :: x5 :: x6 :: x7 :: x8 :: some (fr_i z) :: r) st μ := by
  intro p e s m args below meth c hF H locs lsA hI hL hl
  exact lv_iload hF.1 hF.2.1 hd (hl.2.2 9 _ rfl) (kk p e s m args below meth c hF H locs lsA hI hL hl)
theorem fr_al9 {x0 x1 x2 x3 x4 x5 x6 x7 x8 : Option Value} {z : Nat} (hd : decode mi.2.1 pc = .ok (.aload 9, 2)) (kk : fr_A l κ mi k Q (pc + 2) (x0 :: x1 :: x2 :: x3 :: x4 :: x5 :: x6 :: x7 :: x8 :: some (Value.ref z) :: r) (Value.ref z :: st) μ) : fr_A l κ mi k Q pc (x0 :: x1 :: x2 :: x3 :: x4 :: x5 :: x6 :: x7 :: x8 :: some (Value.ref z) :: r) st μ := by
  intro p e s m args below meth c hF H locs lsA hI hL hl
  exact lv_aload hF.1 hF.2.1 hd (hl.2.2 9 _ rfl) (kk p e s m args below meth c hF H locs lsA hI hL hl)
theorem fr_ll9 {x0 x1 x2 x3 x4 x5 x6 x7 x8 : Option Value} {z : Int} (hd : decode mi.2.1 pc = .ok (.lload 9, 2)) (kk : fr_A l κ mi k Q (pc + 2) (x0 :: x1 :: x2 :: x3 :: x4 :: x5 :: x6 :: x7 :: x8 :: some (fr_j z) :: r) (fr_j z :: st) μ) : fr_A l κ mi k Q pc (x0 :: x1 :: x2 :: x3 :: x4 :: x5 :: x6 :: x7 :: x8 :: some (fr_j z) :: r) st μ := by
  intro p e s m args below meth c hF H locs lsA hI hL hl
  exact lv_lload hF.1 hF.2.1 hd (hl.2.2 9 _ rfl) (kk p e s m args below meth c hF H locs lsA hI hL hl)
theorem fr_is9 {x0 x1 x2 x3 x4 x5 x6 x7 x8 : Option Value} {y : Option Value} {z : Int} (hd : decode mi.2.1 pc = .ok (.istore 9, 2)) (hc : fr_c1 x8 = true) (hn : 9 < mi.2.2.1) (kk : fr_A l κ mi k Q (pc + 2) (x0 :: x1 :: x2 :: x3 :: x4 :: x5 :: x6 :: x7 :: x8 :: some (fr_i z) :: r) st μ) : fr_A l κ mi k Q pc (x0 :: x1 :: x2 :: x3 :: x4 :: x5 :: x6 :: x7 :: x8 :: y :: r) (fr_i z :: st) μ := by
  intro p e s m args below meth c hF H locs lsA hI hL hl
  exact lv_istore hF.1 hF.2.1 hd hl.has hn rfl (fun lsB hB => kk p e s m args below meth c hF H locs lsB hI hL (hl.set1 (by simp) (fr_hp (i := 8) (y := x8) rfl hc) hB))
theorem fr_as9 {x0 x1 x2 x3 x4 x5 x6 x7 x8 : Option Value} {y : Option Value} {z : Nat} (hd : decode mi.2.1 pc = .ok (.astore 9, 2)) (hc : fr_c1 x8 = true) (hn : 9 < mi.2.2.1) (kk : fr_A l κ mi k Q (pc + 2) (x0 :: x1 :: x2 :: x3 :: x4 :: x5 :: x6 :: x7 :: x8 :: some (Value.ref z) :: r) st μ) : fr_A l κ mi k Q pc (x0 :: x1 :: x2 :: x3 :: x4 :: x5 :: x6 :: x7 :: x8 :: y :: r) (Value.ref z :: st) μ := by
  intro p e s m args below meth c hF H locs lsA hI hL hl
  exact lv_astore hF.1 hF.2.1 hd hl.has hn rfl (fun lsB hB => kk p e s m args below meth c hF H locs lsB hI hL (hl.set1 (by simp) (fr_hp (i := 8) (y := x8) rfl hc) hB))
theorem fr_ls9 {x0 x1 x2 x3 x4 x5 x6 x7 x8 : Option Value} {y y2 : Option Value} {z : Int} (hd : decode mi.2.1 pc = .ok (.lstore 9, 2)) (hc : fr_c1 x8 = true) (hn : 9 + 1 < mi.2.2.1) (kk : fr_A l κ mi k Q (pc + 2) (x0 :: x1 :: x2 :: x3 :: x4 :: x5 :: x6 :: x7 :: x8 :: some (fr_j z) :: none :: r) st μ) : fr_A l κ mi k Q pc (x0 :: x1 :: x2 :: x3 :: x4 :: x5 :: x6 :: x7 :: x8 :: y :: y2 :: r) (fr_j z :: st) μ := by
  intro p e s m args below meth c hF H locs lsA hI hL hl
  exact lv_lstore hF.1 hF.2.1 hd hl.has hn rfl (fun lsB hB => kk p e s m args below meth c hF H locs lsB hI hL (hl.set2 (by simp) (fr_hp (i := 8) (y := x8) rfl hc) hB))
theorem fr_ii9 {x0 x1 x2 x3 x4 x5 x6 x7 x8 : Option Value} {z n : Int} (hd : decode mi.2.1 pc = .ok (.iinc 9 n, 3)) (hc : fr_c1 x8 = true) (hn : 9 < mi.2.2.1) (kk : fr_A l κ mi k Q (pc + 3) (x0 :: x1 :: x2 :: x3 :: x4 :: x5 :: x6 :: x7 :: x8 :: some (fr_i (z + n)) :: r) st μ) : fr_A l κ mi k Q pc (x0 :: x1 :: x2 :: x3 :: x4 :: x5 :: x6 :: x7 :: x8 :: some (fr_i z) :: r) st μ := by
  intro p e s m args below meth c hF H locs lsA hI hL hl
  have hm : ((9, fr_i z) : Nat × Value) ∈ fr_as mi.2.2.1 (x0 :: x1 :: x2 :: x3 :: x4 :: x5 :: x6 :: x7 :: x8 :: some (fr_i z) :: r) := fr_as_mem.mpr ⟨hn, rfl⟩
  obtain ⟨j, hj⟩ := List.getElem?_of_mem hm
  exact lv_iinc hF.1 hF.2.1 hd hl.has hj (Int32.ofInt_add z n).symm hn rfl (fun lsB hB => kk p e s m args below meth c hF H locs lsB hI hL (hl.set1 (by simp) (fr_hp (i := 8) (y := x8) rfl hc) hB))
theorem fr_il10 {x0 x1 x2 x3 x4 x5 x6 x7 x8 x9 : Option Value} {z : Int} (hd : decode mi.2.1 pc = .ok (.iload 10, 2)) (kk : fr_A l κ mi k Q (pc + 2) (x0 :: x1 :: x2 :: x3 :: x4 :: x5 :: x6 :: x7 :: x8 :: x9 :: some (fr_i z) :: r) (fr_i z :: st) μ) : fr_A l κ mi k Q pc (x0 :: x1 :: x2 :: x3 :: x4 :: x5 :: x6 :: x7 :: x8 :: x9 :: some (fr_i z) :: r) st μ := by
  intro p e s m args below meth c hF H locs lsA hI hL hl
  exact lv_iload hF.1 hF.2.1 hd (hl.2.2 10 _ rfl) (kk p e s m args below meth c hF H locs lsA hI hL hl)
theorem fr_al10 {x0 x1 x2 x3 x4 x5 x6 x7 x8 x9 : Option Value} {z : Nat} (hd : decode mi.2.1 pc = .ok (.aload 10, 2)) (kk : fr_A l κ mi k Q (pc + 2) (x0 :: x1 :: x2 :: x3 :: x4 :: x5 :: x6 :: x7 :: x8 :: x9 :: some (Value.ref z) :: r) (Value.ref z :: st) μ) : fr_A l κ mi k Q pc (x0 :: x1 :: x2 :: x3 :: x4 :: x5 :: x6 :: x7 :: x8 :: x9 :: some (Value.ref z) :: r) st μ := by
  intro p e s m args below meth c hF H locs lsA hI hL hl
  exact lv_aload hF.1 hF.2.1 hd (hl.2.2 10 _ rfl) (kk p e s m args below meth c hF H locs lsA hI hL hl)
theorem fr_ll10 {x0 x1 x2 x3 x4 x5 x6 x7 x8 x9 : Option Value} {z : Int} (hd : decode mi.2.1 pc = .ok (.lload 10, 2)) (kk : fr_A l κ mi k Q (pc + 2) (x0 :: x1 :: x2 :: x3 :: x4 :: x5 :: x6 :: x7 :: x8 :: x9 :: some (fr_j z) :: r) (fr_j z :: st) μ) : fr_A l κ mi k Q pc (x0 :: x1 :: x2 :: x3 :: x4 :: x5 :: x6 :: x7 :: x8 :: x9 :: some (fr_j z) :: r) st μ := by
  intro p e s m args below meth c hF H locs lsA hI hL hl
  exact lv_lload hF.1 hF.2.1 hd (hl.2.2 10 _ rfl) (kk p e s m args below meth c hF H locs lsA hI hL hl)
theorem fr_is10 {x0 x1 x2 x3 x4 x5 x6 x7 x8 x9 : Option Value} {y : Option Value} {z : Int} (hd : decode mi.2.1 pc = .ok (.istore 10, 2)) (hc : fr_c1 x9 = true) (hn : 10 < mi.2.2.1) (kk : fr_A l κ mi k Q (pc + 2) (x0 :: x1 :: x2 :: x3 :: x4 :: x5 :: x6 :: x7 :: x8 :: x9 :: some (fr_i z) :: r) st μ) : fr_A l κ mi k Q pc (x0 :: x1 :: x2 :: x3 :: x4 :: x5 :: x6 :: x7 :: x8 :: x9 :: y :: r) (fr_i z :: st) μ := by
  intro p e s m args below meth c hF H locs lsA hI hL hl
  exact lv_istore hF.1 hF.2.1 hd hl.has hn rfl (fun lsB hB => kk p e s m args below meth c hF H locs lsB hI hL (hl.set1 (by simp) (fr_hp (i := 9) (y := x9) rfl hc) hB))
theorem fr_as10 {x0 x1 x2 x3 x4 x5 x6 x7 x8 x9 : Option Value} {y : Option Value} {z : Nat} (hd : decode mi.2.1 pc = .ok (.astore 10, 2)) (hc : fr_c1 x9 = true) (hn : 10 < mi.2.2.1) (kk : fr_A l κ mi k Q (pc + 2) (x0 :: x1 :: x2 :: x3 :: x4 :: x5 :: x6 :: x7 :: x8 :: x9 :: some (Value.ref z) :: r) st μ) : fr_A l κ mi k Q pc (x0 :: x1 :: x2 :: x3 :: x4 :: x5 :: x6 :: x7 :: x8 :: x9 :: y :: r) (Value.ref z :: st) μ := by
  intro p e s m args below meth c hF H locs lsA hI hL hl
  exact lv_astore hF.1 hF.2.1 hd hl.has hn rfl (fun lsB hB => kk p e s m args below meth c hF H locs lsB hI hL (hl.set1 (by simp) (fr_hp (i := 9) (y := x9) rfl hc) hB))
theorem fr_ls10 {x0 x1 x2 x3 x4 x5 x6 x7 x8 x9 : Option Value} {y y2 : Option Value} {z : Int} (hd : decode mi.2.1 pc = .ok (.lstore 10, 2)) (hc : fr_c1 x9 = true) (hn : 10 + 1 < mi.2.2.1) (kk : fr_A l κ mi k Q (pc + 2) (x0 :: x1 :: x2 :: x3 :: x4 :: x5 :: x6 :: x7 :: x8 :: x9 :: some (fr_j z) :: none :: r) st μ) : fr_A l κ mi k Q pc (x0 :: x1 :: x2 :: x3 :: x4 :: x5 :: x6 :: x7 :: x8 :: x9 :: y :: y2 :: r) (fr_j z :: st) μ := by
  intro p e s m args below meth c hF H locs lsA hI hL hl
  exact lv_lstore hF.1 hF.2.1 hd hl.has hn rfl (fun lsB hB => kk p e s m args below meth c hF H locs lsB hI hL (hl.set2 (by simp) (fr_hp (i := 9) (y := x9) rfl hc) hB))
theorem fr_ii10 {x0 x1 x2 x3 x4 x5 x6 x7 x8 x9 : Option Value} {z n : Int} (hd : decode mi.2.1 pc = .ok (.iinc 10 n, 3)) (hc : fr_c1 x9 = true) (hn : 10 < mi.2.2.1) (kk : fr_A l κ mi k Q (pc + 3) (x0 :: x1 :: x2 :: x3 :: x4 :: x5 :: x6 :: x7 :: x8 :: x9 :: some (fr_i (z + n)) :: r) st μ) : fr_A l κ mi k Q pc (x0 :: x1 :: x2 :: x3 :: x4 :: x5 :: x6 :: x7 :: x8 :: x9 :: some (fr_i z) :: r) st μ := by
  intro p e s m args below meth c hF H locs lsA hI hL hl
  have hm : ((10, fr_i z) : Nat × Value) ∈ fr_as mi.2.2.1 (x0 :: x1 :: x2 :: x3 :: x4 :: x5 :: x6 :: x7 :: x8 :: x9 :: some (fr_i z) :: r) := fr_as_mem.mpr ⟨hn, rfl⟩
  obtain ⟨j, hj⟩ := List.getElem?_of_mem hm
  exact lv_iinc hF.1 hF.2.1 hd hl.has hj (Int32.ofInt_add z n).symm hn rfl (fun lsB hB => kk p e s m args below meth c hF H locs lsB hI hL (hl.set1 (by simp) (fr_hp (i := 9) (y := x9) rfl hc) hB))
theorem fr_il11 {x0 x1 x2 x3 x4 x5 x6 x7 x8 x9 x10 : Option Value} {z : Int} (hd : decode mi.2.1 pc = .ok (.iload 11, 2)) (kk : fr_A l κ mi k Q (pc + 2) (x0 :: x1 :: x2 :: x3 :: x4 :: x5 :: x6 :: x7 :: x8 :: x9 :: x10 :: some (fr_i z) :: r) (fr_i z :: st) μ) : fr_A l κ mi k Q pc (x0 :: x1 :: x2 :: x3 :: x4 :: x5 :: x6 :: x7 :: x8 :: x9 :: x10 :: some (fr_i z) :: r) st μ := by
  intro p e s m args below meth c hF H locs lsA hI hL hl
  exact lv_iload hF.1 hF.2.1 hd (hl.2.2 11 _ rfl) (kk p e s m args below meth c hF H locs lsA hI hL hl)
theorem fr_al11 {x0 x1 x2 x3 x4 x5 x6 x7 x8 x9 x10 : Option Value} {z : Nat} (hd : decode mi.2.1 pc = .ok (.aload 11, 2)) (kk : fr_A l κ mi k Q (pc + 2) (x0 :: x1 :: x2 :: x3 :: x4 :: x5 :: x6 :: x7 :: x8 :: x9 :: x10 :: some (Value.ref z) :: r) (Value.ref z :: st) μ) : fr_A l κ mi k Q pc (x0 :: x1 :: x2 :: x3 :: x4 :: x5 :: x6 :: x7 :: x8 :: x9 :: x10 :: some (Value.ref z) :: r) st μ := by
  intro p e s m args below meth c hF H locs lsA hI hL hl
  exact lv_aload hF.1 hF.2.1 hd (hl.2.2 11 _ rfl) (kk p e s m args below meth c hF H locs lsA hI hL hl)
theorem fr_ll11 {x0 x1 x2 x3 x4 x5 x6 x7 x8 x9 x10 : Option Value} {z : Int} (hd : decode mi.2.1 pc = .ok (.lload 11, 2)) (kk : fr_A l κ mi k Q (pc + 2) (x0 :: x1 :: x2 :: x3 :: x4 :: x5 :: x6 :: x7 :: x8 :: x9 :: x10 :: some (fr_j z) :: r) (fr_j z :: st) μ) : fr_A l κ mi k Q pc (x0 :: x1 :: x2 :: x3 :: x4 :: x5 :: x6 :: x7 :: x8 :: x9 :: x10 :: some (fr_j z) :: r) st μ := by
  intro p e s m args below meth c hF H locs lsA hI hL hl
  exact lv_lload hF.1 hF.2.1 hd (hl.2.2 11 _ rfl) (kk p e s m args below meth c hF H locs lsA hI hL hl)
theorem fr_is11 {x0 x1 x2 x3 x4 x5 x6 x7 x8 x9 x10 : Option Value} {y : Option Value} {z : Int} (hd : decode mi.2.1 pc = .ok (.istore 11, 2)) (hc : fr_c1 x10 = true) (hn : 11 < mi.2.2.1) (kk : fr_A l κ mi k Q (pc + 2) (x0 :: x1 :: x2 :: x3 :: x4 :: x5 :: x6 :: x7 :: x8 :: x9 :: x10 :: some (fr_i z) :: r) st μ) : fr_A l κ mi k Q pc (x0 :: x1 :: x2 :: x3 :: x4 :: x5 :: x6 :: x7 :: x8 :: x9 :: x10 :: y :: r) (fr_i z :: st) μ := by
  intro p e s m args below meth c hF H locs lsA hI hL hl
  exact lv_istore hF.1 hF.2.1 hd hl.has hn rfl (fun lsB hB => kk p e s m args below meth c hF H locs lsB hI hL (hl.set1 (by simp) (fr_hp (i := 10) (y := x10) rfl hc) hB))
theorem fr_as11 {x0 x1 x2 x3 x4 x5 x6 x7 x8 x9 x10 : Option Value} {y : Option Value} {z : Nat} (hd : decode mi.2.1 pc = .ok (.astore 11, 2)) (hc : fr_c1 x10 = true) (hn : 11 < mi.2.2.1) (kk : fr_A l κ mi k Q (pc + 2) (x0 :: x1 :: x2 :: x3 :: x4 :: x5 :: x6 :: x7 :: x8 :: x9 :: x10 :: some (Value.ref z) :: r) st μ) : fr_A l κ mi k Q pc (x0 :: x1 :: x2 :: x3 :: x4 :: x5 :: x6 :: x7 :: x8 :: x9 :: x10 :: y :: r) (Value.ref z :: st) μ := by
  intro p e s m args below meth c hF H locs lsA hI hL hl
  exact lv_astore hF.1 hF.2.1 hd hl.has hn rfl (fun lsB hB => kk p e s m args below meth c hF H locs lsB hI hL (hl.set1 (by simp) (fr_hp (i := 10) (y := x10) rfl hc) hB))
theorem fr_ls11 {x0 x1 x2 x3 x4 x5 x6 x7 x8 x9 x10 : Option Value} {y y2 : Option Value} {z : Int} (hd : decode mi.2.1 pc = .ok (.lstore 11, 2)) (hc : fr_c1 x10 = true) (hn : 11 + 1 < mi.2.2.1) (kk : fr_A l κ mi k Q (pc + 2) (x0 :: x1 :: x2 :: x3 :: x4 :: x5 :: x6 :: x7 :: x8 :: x9 :: x10 :: some (fr_j z) :: none :: r) st μ) : fr_A l κ mi k Q pc (x0 :: x1 :: x2 :: x3 :: x4 :: x5 :: x6 :: x7 :: x8 :: x9 :: x10 :: y :: y2 :: r) (fr_j z :: st) μ := by
  intro p e s m args below meth c hF H locs lsA hI hL hl
  exact lv_lstore hF.1 hF.2.1 hd hl.has hn rfl (fun lsB hB => kk p e s m args below meth c hF H locs lsB hI hL (hl.set2 (by simp) (fr_hp (i := 10) (y := x10) rfl hc) hB))
theorem fr_ii11 {x0 x1 x2 x3 x4 x5 x6 x7 x8 x9 x10 : Option Value} {z n : Int} (hd : decode mi.2.1 pc = .ok (.iinc 11 n, 3)) (hc : fr_c1 x10 = true) (hn : 11 < mi.2.2.1) (kk : fr_A l κ mi k Q (pc + 3) (x0 :: x1 :: x2 :: x3 :: x4 :: x5 :: x6 :: x7 :: x8 :: x9 :: x10 :: some (fr_i (z + n)) :: r) st μ) : fr_A l κ mi k Q pc (x0 :: x1 :: x2 :: x3 :: x4 :: x5 :: x6 :: x7 :: x8 :: x9 :: x10 :: some (fr_i z) :: r) st μ := by
  intro p e s m args below meth c hF H locs lsA hI hL hl
  have hm : ((11, fr_i z) : Nat × Value) ∈ fr_as mi.2.2.1 (x0 :: x1 :: x2 :: x3 :: x4 :: x5 :: x6 :: x7 :: x8 :: x9 :: x10 :: some (fr_i z) :: r) := fr_as_mem.mpr ⟨hn, rfl⟩
  obtain ⟨j, hj⟩ := List.getElem?_of_mem hm
  exact lv_iinc hF.1 hF.2.1 hd hl.has hj (Int32.ofInt_add z n).symm hn rfl (fun lsB hB => kk p e s m args below meth c hF H locs lsB hI hL (hl.set1 (by simp) (fr_hp (i := 10) (y := x10) rfl hc) hB))
theorem fr_il12 {x0 x1 x2 x3 x4 x5 x6 x7 x8 x9 x10 x11 : Option Value} {z : Int} (hd : decode mi.2.1 pc = .ok (.iload 12, 2)) (kk : fr_A l κ mi k Q (pc + 2) (x0 :: x1 :: x2 :: x3 :: x4 :: x5 :: x6 :: x7 :: x8 :: x9 :: x10 :: x11 :: some (fr_i z) :: r) (fr_i z :: st) μ) : fr_A l κ mi k Q pc (x0 :: x1 :: x2 :: x3 :: x4 :: x5 :: x6 :: x7 :: x8 :: x9 :: x10 :: x11 :: some (fr_i z) :: r) st μ := by
  intro p e s m args below meth c hF H locs lsA hI hL hl
  exact lv_iload hF.1 hF.2.1 hd (hl.2.2 12 _ rfl) (kk p e s m args below meth c hF H locs lsA hI hL hl)
theorem fr_al12 {x0 x1 x2 x3 x4 x5 x6 x7 x8 x9 x10 x11 : Option Value} {z : Nat} (hd : decode mi.2.1 pc = .ok (.aload 12, 2)) (kk : fr_A l κ mi k Q (pc + 2) (x0 :: x1 :: x2 :: x3 :: x4 :: x5 :: x6 :: x7 :: x8 :: x9 :: x10 :: x11 :: some (Value.ref z) :: r) (Value.ref z :: st) μ) : fr_A l κ mi k Q pc (x0 :: x1 :: x2 :: x3 :: x4 :: x5 :: x6 :: x7 :: x8 :: x9 :: x10 :: x11 :: some (Value.ref z) :: r) st μ := by
  intro p e s m args below meth c hF H locs lsA hI hL hl
  exact lv_aload hF.1 hF.2.1 hd (hl.2.2 12 _ rfl) (kk p e s m args below meth c hF H locs lsA hI hL hl)
theorem fr_ll12 {x0 x1 x2 x3 x4 x5 x6 x7 x8 x9 x10 x11 : Option Value} {z : Int} (hd : decode mi.2.1 pc = .ok (.lload 12, 2)) (kk : fr_A l κ mi k Q (pc + 2) (x0 :: x1 :: x2 :: x3 :: x4 :: x5 :: x6 :: x7 :: x8 :: x9 :: x10 :: x11 :: some (fr_j z) :: r) (fr_j z :: st) μ) : fr_A l κ mi k Q pc (x0 :: x1 :: x2 :: x3 :: x4 :: x5 :: x6 :: x7 :: x8 :: x9 :: x10 :: x11 :: some (fr_j z) :: r) st μ := by
  intro p e s m args below meth c hF H locs lsA hI hL hl
  exact lv_lload hF.1 hF.2.1 hd (hl.2.2 12 _ rfl) (kk p e s m args below meth c hF H locs lsA hI hL hl)
theorem fr_is12 {x0 x1 x2 x3 x4 x5 x6 x7 x8 x9 x10 x11 : Option Value} {y : Option Value} {z : Int} (hd : decode mi.2.1 pc = .ok (.istore 12, 2)) (hc : fr_c1 x11 = true) (hn : 12 < mi.2.2.1) (kk : fr_A l κ mi k Q (pc + 2) (x0 :: x1 :: x2 :: x3 :: x4 :: x5 :: x6 :: x7 :: x8 :: x9 :: x10 :: x11 :: some (fr_i z) :: r) st μ) : fr_A l κ mi k Q pc (x0 :: x1 :: x2 :: x3 :: x4 :: x5 :: x6 :: x7 :: x8 :: x9 :: x10 :: x11 :: y :: r) (fr_i z :: st) μ := by
  intro p e s m args below meth c hF H locs lsA hI hL hl
  exact lv_istore hF.1 hF.2.1 hd hl.has hn rfl (fun lsB hB => kk p e s m args below meth c hF H locs lsB hI hL (hl.set1 (by simp) (fr_hp (i := 11) (y := x11) rfl hc) hB))
theorem fr_as12 {x0 x1 x2 x3 x4 x5 x6 x7 x8 x9 x10 x11 : Option Value} {y : Option Value} {z : Nat} (hd : decode mi.2.1 pc = .ok (.astore 12, 2)) (hc : fr_c1 x11 = true) (hn : 12 < mi.2.2.1) (kk : fr_A l κ mi k Q (pc + 2) (x0 :: x1 :: x2 :: x3 :: x4 :: x5 :: x6 :: x7 :: x8 :: x9 :: x10 :: x11 :: some (Value.ref z) :: r) st μ) : fr_A l κ mi k Q pc (x0 :: x1 :: x2 :: x3 :: x4 :: x5 :: x6 :: x7 :: x8 :: x9 :: x10 :: x11 :: y :: r) (Value.ref z :: st) μ := by
  intro p e s m args below meth c hF H locs lsA hI hL hl
  exact lv_astore hF.1 hF.2.1 hd hl.has hn rfl (fun lsB hB => kk p e s m args below meth c hF H locs lsB hI hL (hl.set1 (by simp) (fr_hp (i := 11) (y := x11) rfl hc) hB))
theorem fr_ls12 {x0 x1 x2 x3 x4 x5 x6 x7 x8 x9 x10 x11 : Option Value} {y y2 : Option Value} {z : Int} (hd : decode mi.2.1 pc = .ok (.lstore 12, 2)) (hc : fr_c1 x11 = true) (hn : 12 + 1 < mi.2.2.1) (kk : fr_A l κ mi k Q (pc + 2) (x0 :: x1 :: x2 :: x3 :: x4 :: x5 :: x6 :: x7 :: x8 :: x9 :: x10 :: x11 :: some (fr_j z) :: none :: r) st μ) : fr_A l κ mi k Q pc (x0 :: x1 :: x2 :: x3 :: x4 :: x5 :: x6 :: x7 :: x8 :: x9 :: x10 :: x11 :: y :: y2 :: r) (fr_j z :: st) μ := by
  intro p e s m args below meth c hF H locs lsA hI hL hl
  exact lv_lstore hF.1 hF.2.1 hd hl.has hn rfl (fun lsB hB => kk p e s m args below meth c hF H locs lsB hI hL (hl.set2 (by simp) (fr_hp (i := 11) (y := x11) rfl hc) hB))
theorem fr_ii12 {x0 x1 x2 x3 x4 x5 x6 x7 x8 x9 x10 x11 : Option Value} {z n : Int} (hd : decode mi.2.1 pc = .ok (.iinc 12 n, 3)) (hc : fr_c1 x11 = true) (hn : 12 < mi.2.2.1) (kk : fr_A l κ mi k Q (pc + 3) (x0 :: x1 :: x2 :: x3 :: x4 :: x5 :: x6 :: x7 :: x8 :: x9 :: x10 :: x11 :: some (fr_i (z + n)) :: r) st μ) : fr_A l κ mi k Q pc (x0 :: x1 :: x2 :: x3 :: x4 :: x5 :: x6 :: x7 :: x8 :: x9 :: x10 :: x11 :: some (fr_i z) :: r) st μ := by
  intro p e s m args below meth c hF H locs lsA hI hL hl
  have hm : ((12, fr_i z) : Nat × Value) ∈ fr_as mi.2.2.1 (x0 :: x1 :: x2 :: x3 :: x4 :: x5 :: x6 :: x7 :: x8 :: x9 :: x10 :: x11 :: some (fr_i z) :: r) := fr_as_mem.mpr ⟨hn, rfl⟩
  obtain ⟨j, hj⟩ := List.getElem?_of_mem hm
  exact lv_iinc hF.1 hF.2.1 hd hl.has hj (Int32.ofInt_add z n).symm hn rfl (fun lsB hB => kk p e s m args below meth c hF H locs lsB hI hL (hl.set1 (by simp) (fr_hp (i := 11) (y := x11) rfl hc) hB))
theorem fr_il13 {x0 x1 x2 x3 x4 x5 x6 x7 x8 x9 x10 x11 x12 : Option Value} {z : Int} (hd : decode mi.2.1 pc = .ok (.iload 13, 2)) (kk : fr_A l κ mi k Q (pc + 2) (x0 :: x1 :: x2 :: x3 :: x4 :: x5 :: x6 :: x7 :: x8 :: x9 :: x10 :: x11 :: x12 :: some (fr_i z) :: r) (fr_i z :: st) μ) : fr_A l κ mi k Q pc (x0 :: x1 :: x2 :: x3 :: x4 :: x5 :: x6 :: x7 :: x8 :: x9 :: x10 :: x11 :: x12 :: some (fr_i z) :: r) st μ := by
  intro p e s m args below meth c hF H locs lsA hI hL hl
  exact lv_iload hF.1 hF.2.1 hd (hl.2.2 13 _ rfl) (kk p e s m args below meth c hF H locs lsA hI hL hl)
theorem fr_al13 {x0 x1 x2 x3 x4 x5 x6 x7 x8 x9 x10 x11 x12 : Option Value} {z : Nat} (hd : decode mi.2.1 pc = .ok (.aload 13, 2)) (kk : fr_A l κ mi k Q (pc + 2) (x0 :: x1 :: x2 :: x3 :: x4 :: x5 :: x6 :: x7 :: x8 :: x9 :: x10 :: x11 :: x12 :: some (Value.ref z) :: r) (Value.ref z :: st) μ) : fr_A l κ mi k Q pc (x0 :: x1 :: x2 :: x3 :: x4 :: x5 :: x6 :: x7 :: x8 :: x9 :: x10 :: x11 :: x12 :: some (Value.ref z) :: r) st μ := by
  intro p e s m args below meth c hF H locs lsA hI hL hl
  exact lv_aload hF.1 hF.2.1 hd (hl.2.2 13 _ rfl) (kk p e s m args below meth c hF H locs lsA hI hL hl)
theorem fr_is13 {x0 x1 x2 x3 x4 x5 x6 x7 x8 x9 x10 x11 x12 : Option Value} {y : Option Value} {z : Int} (hd : decode mi.2.1 pc = .ok (.istore 13, 2)) (hc : fr_c1 x12 = true) (hn : 13 < mi.2.2.1) (kk : fr_A l κ mi k Q (pc + 2) (x0 :: x1 :: x2 :: x3 :: x4 :: x5 :: x6 :: x7 :: x8 :: x9 :: x10 :: x11 :: x12 :: some (fr_i z) :: r) st μ) : fr_A l κ mi k Q pc (x0 :: x1 :: x2 :: x3 :: x4 :: x5 :: x6 :: x7 :: x8 :: x9 :: x10 :: x11 :: x12 :: y :: r) (fr_i z :: st) μ := by
  intro p e s m args below meth c hF H locs lsA hI hL hl
  exact lv_istore hF.1 hF.2.1 hd hl.has hn rfl (fun lsB hB => kk p e s m args below meth c hF H locs lsB hI hL (hl.set1 (by simp) (fr_hp (i := 12) (y := x12) rfl hc) hB))
theorem fr_as13 {x0 x1 x2 x3 x4 x5 x6 x7 x8 x9 x10 x11 x12 : Option Value} {y : Option Value} {z : Nat} (hd : decode mi.2.1 pc = .ok (.astore 13, 2)) (hc : fr_c1 x12 = true) (hn : 13 < mi.2.2.1) (kk : fr_A l κ mi k Q (pc + 2) (x0 :: x1 :: x2 :: x3 :: x4 :: x5 :: x6 :: x7 :: x8 :: x9 :: x10 :: x11 :: x12 :: some (Value.ref z) :: r) st μ) : fr_A l κ mi k Q pc (x0 :: x1 :: x2 :: x3 :: x4 :: x5 :: x6 :: x7 :: x8 :: x9 :: x10 :: x11 :: x12 :: y :: r) (Value.ref z :: st) μ := by
  intro p e s m args below meth c hF H locs lsA hI hL hl
  exact lv_astore hF.1 hF.2.1 hd hl.has hn rfl (fun lsB hB => kk p e s m args below meth c hF H locs lsB hI hL (hl.set1 (by simp) (fr_hp (i := 12) (y := x12) rfl hc) hB))
theorem fr_ii13 {x0 x1 x2 x3 x4 x5 x6 x7 x8 x9 x10 x11 x12 : Option Value} {z n : Int} (hd : decode mi.2.1 pc = .ok (.iinc 13 n, 3)) (hc : fr_c1 x12 = true) (hn : 13 < mi.2.2.1) (kk : fr_A l κ mi k Q (pc + 3) (x0 :: x1 :: x2 :: x3 :: x4 :: x5 :: x6 :: x7 :: x8 :: x9 :: x10 :: x11 :: x12 :: some (fr_i (z + n)) :: r) st μ) : fr_A l κ mi k Q pc (x0 :: x1 :: x2 :: x3 :: x4 :: x5 :: x6 :: x7 :: x8 :: x9 :: x10 :: x11 :: x12 :: some (fr_i z) :: r) st μ := by
  intro p e s m args below meth c hF H locs lsA hI hL hl
  have hm : ((13, fr_i z) : Nat × Value) ∈ fr_as mi.2.2.1 (x0 :: x1 :: x2 :: x3 :: x4 :: x5 :: x6 :: x7 :: x8 :: x9 :: x10 :: x11 :: x12 :: some (fr_i z) :: r) := fr_as_mem.mpr ⟨hn, rfl⟩
  obtain ⟨j, hj⟩ := List.getElem?_of_mem hm
  exact lv_iinc hF.1 hF.2.1 hd hl.has hj (Int32.ofInt_add z n).symm hn rfl (fun lsB hB => kk p e s m args below meth c hF H locs lsB hI hL (hl.set1 (by simp) (fr_hp (i := 12) (y := x12) rfl hc) hB))
theorem fr_il14 {x0 x1 x2 x3 x4 x5 x6 x7 x8 x9 x10 x11 x12 x13 : Option Value} {z : Int} (hd : decode mi.2.1 pc = .ok (.iload 14, 2)) (kk : fr_A l κ mi k Q (pc + 2) (x0 :: x1 :: x2 :: x3 :: x4 :: x5 :: x6 :: x7 :: x8 :: x9 :: x10 :: x11 :: x12 :: x13 :: some (fr_i z) :: r) (fr_i z :: st) μ) : fr_A l κ mi k Q pc (x0 :: x1 :: x2 :: x3 :: x4 :: x5 :: x6 :: x7 :: x8 :: x9 :: x10 :: x11 :: x12 :: x13 :: some (fr_i z) :: r) st μ := by
  intro p e s m args below meth c hF H locs lsA hI hL hl
  exact lv_iload hF.1 hF.2.1 hd (hl.2.2 14 _ rfl) (kk p e s m args below meth c hF H locs lsA hI hL hl)
theorem fr_al14 {x0 x1 x2 x3 x4 x5 x6 x7 x8 x9 x10 x11 x12 x13 : Option Value} {z : Nat} (hd : decode mi.2.1 pc = .ok (.aload 14, 2)) (kk : fr_A l κ mi k Q (pc + 2) (x0 :: x1 :: x2 :: x3 :: x4 :: x5 :: x6 :: x7 :: x8 :: x9 :: x10 :: x11 :: x12 :: x13 :: some (Value.ref z) :: r) (Value.ref z :: st) μ) : fr_A l κ mi k Q pc (x0 :: x1 :: x2 :: x3 :: x4 :: x5 :: x6 :: x7 :: x8 :: x9 :: x10 :: x11 :: x12 :: x13 :: some (Value.ref z) :: r) st μ := by
  intro p e s m args below meth c hF H locs lsA hI hL hl
  exact lv_aload hF.1 hF.2.1 hd (hl.2.2 14 _ rfl) (kk p e s m args below meth c hF H locs lsA hI hL hl)
theorem fr_is14 {x0 x1 x2 x3 x4 x5 x6 x7 x8 x9 x10 x11 x12 x13 : Option Value} {y : Option Value} {z : Int} (hd : decode mi.2.1 pc = .ok (.istore 14, 2)) (hc : fr_c1 x13 = true) (hn : 14 < mi.2.2.1) (kk : fr_A l κ mi k Q (pc + 2) (x0 :: x1 :: x2 :: x3 :: x4 :: x5 :: x6 :: x7 :: x8 :: x9 :: x10 :: x11 :: x12 :: x13 :: some (fr_i z) :: r) st μ) : fr_A l κ mi k Q pc (x0 :: x1 :: x2 :: x3 :: x4 :: x5 :: x6 :: x7 :: x8 :: x9 :: x10 :: x11 :: x12 :: x13 :: y :: r) (fr_i z :: st) μ := by
  intro p e s m args below meth c hF H locs lsA hI hL hl
  exact lv_istore hF.1 hF.2.1 hd hl.has hn rfl (fun lsB hB => kk p e s m args below meth c hF H locs lsB hI hL (hl.set1 (by simp) (fr_hp (i := 13) (y := x13) rfl hc) hB))
theorem fr_as14 {x0 x1 x2 x3 x4 x5 x6 x7 x8 x9 x10 x11 x12 x13 : Option Value} {y : Option Value} {z : Nat} (hd : decode mi.2.1 pc = .ok (.astore 14, 2)) (hc : fr_c1 x13 = true) (hn : 14 < mi.2.2.1) (kk : fr_A l κ mi k Q (pc + 2) (x0 :: x1 :: x2 :: x3 :: x4 :: x5 :: x6 :: x7 :: x8 :: x9 :: x10 :: x11 :: x12 :: x13 :: some (Value.ref z) :: r) st μ) : fr_A l κ mi k Q pc (x0 :: x1 :: x2 :: x3 :: x4 :: x5 :: x6 :: x7 :: x8 :: x9 :: x10 :: x11 :: x12 :: x13 :: y :: r) (Value.ref z :: st) μ := by
  intro p e s m args below meth c hF H locs lsA hI hL hl
  exact lv_astore hF.1 hF.2.1 hd hl.has hn rfl (fun lsB hB => kk p e s m args below meth c hF H locs lsB hI hL (hl.set1 (by simp) (fr_hp (i := 13) (y := x13) rfl hc) hB))
theorem fr_ii14 {x0 x1 x2 x3 x4 x5 x6 x7 x8 x9 x10 x11 x12 x13 : Option Value} {z n : Int} (hd : decode mi.2.1 pc = .ok (.iinc 14 n, 3)) (hc : fr_c1 x13 = true) (hn : 14 < mi.2.2.1) (kk : fr_A l κ mi k Q (pc + 3) (x0 :: x1 :: x2 :: x3 :: x4 :: x5 :: x6 :: x7 :: x8 :: x9 :: x10 :: x11 :: x12 :: x13 :: some (fr_i (z + n)) :: r) st μ) : fr_A l κ mi k Q pc (x0 :: x1 :: x2 :: x3 :: x4 :: x5 :: x6 :: x7 :: x8 :: x9 :: x10 :: x11 :: x12 :: x13 :: some (fr_i z) :: r) st μ := by
  intro p e s m args below meth c hF H locs lsA hI hL hl
  have hm : ((14, fr_i z) : Nat × Value) ∈ fr_as mi.2.2.1 (x0 :: x1 :: x2 :: x3 :: x4 :: x5 :: x6 :: x7 :: x8 :: x9 :: x10 :: x11 :: x12 :: x13 :: some (fr_i z) :: r) := fr_as_mem.mpr ⟨hn, rfl⟩
  obtain ⟨j, hj⟩ := List.getElem?_of_mem hm
  exact lv_iinc hF.1 hF.2.1 hd hl.has hj (Int32.ofInt_add z n).symm hn rfl (fun lsB hB => kk p e s m args below meth c hF H locs lsB hI hL (hl.set1 (by simp) (fr_hp (i := 13) (y := x13) rfl hc) hB))
theorem fr_il15 {x0 x1 x2 x3 x4 x5 x6 x7 x8 x9 x10 x11 x12 x13 x14 : Option Value} {z : Int} (hd : decode mi.2.1 pc = .ok (.iload 15, 2)) (kk : fr_A l κ mi k Q (pc + 2) (x0 :: x1 :: x2 :: x3 :: x4 :: x5 :: x6 :: x7 :: x8 :: x9 :: x10 :: x11 :: x12 :: x13 :: x14 :: some (fr_i z) :: r) (fr_i z :: st) μ) : fr_A l κ mi k Q pc (x0 :: x1 :: x2 :: x3 :: x4 :: x5 :: x6 :: x7 :: x8 :: x9 :: x10 :: x11 :: x12 :: x13 :: x14 :: some (fr_i z) :: r) st μ := by
  intro p e s m args below meth c hF H locs lsA hI hL hl
  exact lv_iload hF.1 hF.2.1 hd (hl.2.2 15 _ rfl) (kk p e s m args below meth c hF H locs lsA hI hL hl)
theorem fr_al15 {x0 x1 x2 x3 x4 x5 x6 x7 x8 x9 x10 x11 x12 x13 x14 : Option Value} {z : Nat} (hd : decode mi.2.1 pc = .ok (.aload 15, 2)) (kk : fr_A l κ mi k Q (pc + 2) (x0 :: x1 :: x2 :: x3 :: x4 :: x5 :: x6 :: x7 :: x8 :: x9 :: x10 :: x11 :: x12 :: x13 :: x14 :: some (Value.ref z) :: r) (Value.ref z :: st) μ) : fr_A l κ mi k Q pc (x0 :: x1 :: x2 :: x3 :: x4 :: x5 :: x6 :: x7 :: x8 :: x9 :: x10 :: x11 :: x12 :: x13 :: x14 :: some (Value.ref z) :: r) st μ := by
  intro p e s m args below meth c hF H locs lsA hI hL hl
  exact lv_aload hF.1 hF.2.1 hd (hl.2.2 15 _ rfl) (kk p e s m args below meth c hF H locs lsA hI hL hl)
theorem fr_is15 {x0 x1 x2 x3 x4 x5 x6 x7 x8 x9 x10 x11 x12 x13 x14 : Option Value} {y : Option Value} {z : Int} (hd : decode mi.2.1 pc = .ok (.istore 15, 2)) (hc : fr_c1 x14 = true) (hn : 15 < mi.2.2.1) (kk : fr_A l κ mi k Q (pc + 2) (x0 :: x1 :: x2 :: x3 :: x4 :: x5 :: x6 :: x7 :: x8 :: x9 :: x10 :: x11 :: x12 :: x13 :: x14 :: some (fr_i z) :: r) st μ) : fr_A l κ mi k Q pc (x0 :: x1 :: x2 :: x3 :: x4 :: x5 :: x6 :: x7 :: x8 :: x9 :: x10 :: x11 :: x12 :: x13 :: x14 :: y :: r) (fr_i z :: st) μ := by
  intro p e s m args below meth c hF H locs lsA hI hL hl
  exact lv_istore hF.1 hF.2.1 hd hl.has hn rfl (fun lsB hB => kk p e s m args below meth c hF H locs lsB hI hL (hl.set1 (by simp) (fr_hp (i := 14) (y := x14) rfl hc) hB))
theorem fr_as15 {x0 x1 x2 x3 x4 x5 x6 x7 x8 x9 x10 x11 x12 x13 x14 : Option Value} {y : Option Value} {z : Nat} (hd : decode mi.2.1 pc = .ok (.astore 15, 2)) (hc : fr_c1 x14 = true) (hn : 15 < mi.2.2.1) (kk : fr_A l κ mi k Q (pc + 2) (x0 :: x1 :: x2 :: x3 :: x4 :: x5 :: x6 :: x7 :: x8 :: x9 :: x10 :: x11 :: x12 :: x13 :: x14 :: some (Value.ref z) :: r) st μ) : fr_A l κ mi k Q pc (x0 :: x1 :: x2 :: x3 :: x4 :: x5 :: x6 :: x7 :: x8 :: x9 :: x10 :: x11 :: x12 :: x13 :: x14 :: y :: r) (Value.ref z :: st) μ := by
  intro p e s m args below meth c hF H locs lsA hI hL hl
  exact lv_astore hF.1 hF.2.1 hd hl.has hn rfl (fun lsB hB => kk p e s m args below meth c hF H locs lsB hI hL (hl.set1 (by simp) (fr_hp (i := 14) (y := x14) rfl hc) hB))
theorem fr_ii15 {x0 x1 x2 x3 x4 x5 x6 x7 x8 x9 x10 x11 x12 x13 x14 : Option Value} {z n : Int} (hd : decode mi.2.1 pc = .ok (.iinc 15 n, 3)) (hc : fr_c1 x14 = true) (hn : 15 < mi.2.2.1) (kk : fr_A l κ mi k Q (pc + 3) (x0 :: x1 :: x2 :: x3 :: x4 :: x5 :: x6 :: x7 :: x8 :: x9 :: x10 :: x11 :: x12 :: x13 :: x14 :: some (fr_i (z + n)) :: r) st μ) : fr_A l κ mi k Q pc (x0 :: x1 :: x2 :: x3 :: x4 :: x5 :: x6 :: x7 :: x8 :: x9 :: x10 :: x11 :: x12 :: x13 :: x14 :: some (fr_i z) :: r) st μ := by
  intro p e s m args below meth c hF H locs lsA hI hL hl
  have hm : ((15, fr_i z) : Nat × Value) ∈ fr_as mi.2.2.1 (x0 :: x1 :: x2 :: x3 :: x4 :: x5 :: x6 :: x7 :: x8 :: x9 :: x10 :: x11 :: x12 :: x13 :: x14 :: some (fr_i z) :: r) := fr_as_mem.mpr ⟨hn, rfl⟩
  obtain ⟨j, hj⟩ := List.getElem?_of_mem hm
  exact lv_iinc hF.1 hF.2.1 hd hl.has hj (Int32.ofInt_add z n).symm hn rfl (fun lsB hB => kk p e s m args below meth c hF H locs lsB hI hL (hl.set1 (by simp) (fr_hp (i := 14) (y := x14) rfl hc) hB))
theorem fr_il16 {x0 x1 x2 x3 x4 x5 x6 x7 x8 x9 x10 x11 x12 x13 x14 x15 : Option Value} {z : Int} (hd : decode mi.2.1 pc = .ok (.iload 16, 2)) (kk : fr_A l κ mi k Q (pc + 2) (x0 :: x1 :: x2 :: x3 :: x4 :: x5 :: x6 :: x7 :: x8 :: x9 :: x10 :: x11 :: x12 :: x13 :: x14 :: x15 :: some (fr_i z) :: r) (fr_i z :: st) μ) : fr_A l κ mi k Q pc (x0 :: x1 :: x2 :: x3 :: x4 :: x5 :: x6 :: x7 :: x8 :: x9 :: x10 :: x11 :: x12 :: x13 :: x14 :: x15 :: some (fr_i z) :: r) st μ := by
  intro p e s m args below meth c hF H locs lsA hI hL hl
  exact lv_iload hF.1 hF.2.1 hd (hl.2.2 16 _ rfl) (kk p e s m args below meth c hF H locs lsA hI hL hl)
theorem fr_al16 {x0 x1 x2 x3 x4 x5 x6 x7 x8 x9 x10 x11 x12 x13 x14 x15 : Option Value} {z : Nat} (hd : decode mi.2.1 pc = .ok (.aload 16, 2)) (kk : fr_A l κ mi k Q (pc + 2) (x0 :: x1 :: x2 :: x3 :: x4 :: x5 :: x6 :: x7 :: x8 :: x9 :: x10 :: x11 :: x12 :: x13 :: x14 :: x15 :: some (Value.ref z) :: r) (Value.ref z :: st) μ) : fr_A l κ mi k Q pc (x0 :: x1 :: x2 :: x3 :: x4 :: x5 :: x6 :: x7 :: x8 :: x9 :: x10 :: x11 :: x12 :: x13 :: x14 :: x15 :: some (Value.ref z) :: r) st μ := by
  intro p e s m args below meth c hF H locs lsA hI hL hl
  exact lv_aload hF.1 hF.2.1 hd (hl.2.2 16 _ rfl) (kk p e s m args below meth c hF H locs lsA hI hL hl)
theorem fr_is16 {x0 x1 x2 x3 x4 x5 x6 x7 x8 x9 x10 x11 x12 x13 x14 x15 : Option Value} {y : Option Value} {z : Int} (hd : decode mi.2.1 pc = .ok (.istore 16, 2)) (hc : fr_c1 x15 = true) (hn : 16 < mi.2.2.1) (kk : fr_A l κ mi k Q (pc + 2) (x0 :: x1 :: x2 :: x3 :: x4 :: x5 :: x6 :: x7 :: x8 :: x9 :: x10 :: x11 :: x12 :: x13 :: x14 :: x15 :: some (fr_i z) :: r) st μ) : fr_A l κ mi k Q pc (x0 :: x1 :: x2 :: x3 :: x4 :: x5 :: x6 :: x7 :: x8 :: x9 :: x10 :: x11 :: x12 :: x13 :: x14 :: x15 :: y :: r) (fr_i z :: st) μ := by
  intro p e s m args below meth c hF H locs lsA hI hL hl
  exact lv_istore hF.1 hF.2.1 hd hl.has hn rfl (fun lsB hB => kk p e s m args below meth c hF H locs lsB hI hL (hl.set1 (by simp) (fr_hp (i := 15) (y := x15) rfl hc) hB))
theorem fr_as16 {x0 x1 x2 x3 x4 x5 x6 x7 x8 x9 x10 x11 x12 x13 x14 x15 : Option Value} {y : Option Value} {z : Nat} (hd : decode mi.2.1 pc = .ok (.astore 16, 2)) (hc : fr_c1 x15 = true) (hn : 16 < mi.2.2.1) (kk : fr_A l κ mi k Q (pc + 2) (x0 :: x1 :: x2 :: x3 :: x4 :: x5 :: x6 :: x7 :: x8 :: x9 :: x10 :: x11 :: x12 :: x13 :: x14 :: x15 :: some (Value.ref z) :: r) st μ) : fr_A l κ mi k Q pc (x0 :: x1 :: x2 :: x3 :: x4 :: x5 :: x6 :: x7 :: x8 :: x9 :: x10 :: x11 :: x12 :: x13 :: x14 :: x15 :: y :: r) (Value.ref z :: st) μ := by
  intro p e s m args below meth c hF H locs lsA hI hL hl
  exact lv_astore hF.1 hF.2.1 hd hl.has hn rfl (fun lsB hB => kk p e s m args below meth c hF H locs lsB hI hL (hl.set1 (by simp) (fr_hp (i := 15) (y := x15) rfl hc) hB))
theorem fr_ii16 {x0 x1 x2 x3 x4 x5 x6 x7 x8 x9 x10 x11 x12 x13 x14 x15 : Option Value} {z n : Int} (hd : decode mi.2.1 pc = .ok (.iinc 16 n, 3)) (hc : fr_c1 x15 = true) (hn : 16 < mi.2.2.1) (kk : fr_A l κ mi k Q (pc + 3) (x0 :: x1 :: x2 :: x3 :: x4 :: x5 :: x6 :: x7 :: x8 :: x9 :: x10 :: x11 :: x12 :: x13 :: x14 :: x15 :: some (fr_i (z + n)) :: r) st μ) : fr_A l κ mi k Q pc (x0 :: x1 :: x2 :: x3 :: x4 :: x5 :: x6 :: x7 :: x8 :: x9 :: x10 :: x11 :: x12 :: x13 :: x14 :: x15 :: some (fr_i z) :: r) st μ := by
  intro p e s m args below meth c hF H locs lsA hI hL hl
  have hm : ((16, fr_i z) : Nat × Value) ∈ fr_as mi.2.2.1 (x0 :: x1 :: x2 :: x3 :: x4 :: x5 :: x6 :: x7 :: x8 :: x9 :: x10 :: x11 :: x12 :: x13 :: x14 :: x15 :: some (fr_i z) :: r) := fr_as_mem.mpr ⟨hn, rfl⟩
  obtain ⟨j, hj⟩ := List.getElem?_of_mem hm
  exact lv_iinc hF.1 hF.2.1 hd hl.has hj (Int32.ofInt_add z n).symm hn rfl (fun lsB hB => kk p e s m args below meth c hF H locs lsB hI hL (hl.set1 (by simp) (fr_hp (i := 15) (y := x15) rfl hc) hB))
end LOCALS
end
section
/-! fields, rows, entry, calls -/
theorem fr_up_eq (μ : fr_Me) (c k z : Int) : fr_up μ c k z c k = z := by simp [fr_up]
theorem fr_up_nc (μ : fr_Me) {c c' : Int} (k z : Int) (h : c' ≠ c) : fr_up μ c k z c' = μ c' := by
  funext k'
  simp [fr_up, h]
theorem fr_up_nk (μ : fr_Me) (c : Int) {k k' : Int} (z : Int) (h : k' ≠ k) : fr_up μ c k z c k' = μ c k' := by simp [fr_up, h]
theorem fr_wl_set (κ : fr_Ka) (μ μ' : fr_Me) {c : Int} (h0 : 0 ≤ c) (h1 : c < 80) {e : va_E} (he : fr_ct κ μ' c = e) (ho : ∀ c' : Int, c' ≠ c → fr_ct κ μ' c' = fr_ct κ μ c') : (fr_wl κ μ).set c.toNat (κ.2.2.1 c, e) = fr_wl κ μ' := by
  subst he
  have hc : ((c.toNat : Nat) : Int) = c := Int.toNat_of_nonneg h0
  have hl : c.toNat < 80 := by omega
  apply List.ext_getElem?
  intro i
  by_cases hi : i = c.toNat
  · subst hi
    rw [List.getElem?_set_self (by simp only [fr_wl, List.length_map, List.length_range]; exact hl)]
    rw [fr_wl_at κ μ' h0 h1]
  · rw [List.getElem?_set_ne (Ne.symm hi)]
    simp only [fr_wl, List.getElem?_map]
    cases hr : (List.range 80)[i]? with
    | none => rfl
    | some j =>
      have hj : j = i := by
        have := List.getElem?_eq_some_iff.mp hr
        obtain ⟨h, e⟩ := this
        simp at e
        exact e.symm
      subst hj
      have hne : ((j : Nat) : Int) ≠ c := by omega
      simp only [Option.map_some, ho _ hne]
theorem fr_ct_ne (κ : fr_Ka) {μ μ' : fr_Me} {c : Int} (h : μ' c = μ c) : fr_ct κ μ' c = fr_ct κ μ c := by
  unfold fr_ct
  cases fr_sh c with
  | inl x =>
    obtain ⟨a, n⟩ := x
    simp only [fr_ar]
    rcases a with _ | _ | _ | a <;> simp only [h]
  | inr ci =>
    have : fr_fv κ μ' c ci = fr_fv κ μ c ci := by funext j; simp only [fr_fv, h]
    simp only [this]
def fr_ob (c : Int) (ci : Nat) : Prop := 0 ≤ c ∧ c < 80 ∧ fr_sh c = .inr ci
def fr_ra (c : Int) (a n : Nat) : Prop := 0 ≤ c ∧ c < 80 ∧ fr_sh c = .inl (a, n) ∧ n ≤ 100000
theorem fr_ob_at (κ : fr_Ka) (μ : fr_Me) {c : Int} {ci : Nat} (h : fr_ob c ci) : (fr_wl κ μ)[c.toNat]? = some (κ.2.2.1 c, .inr (ci, (List.range (fr_nf ci)).map (fr_fv κ μ c ci))) := by
  rw [fr_wl_at κ μ h.1 h.2.1]
  simp [fr_ct, h.2.2]
theorem fr_ra_at (κ : fr_Ka) (μ : fr_Me) {c : Int} {a n : Nat} (h : fr_ra c a n) : (fr_wl κ μ)[c.toNat]? = some (κ.2.2.1 c, .inl (κ.2.1 a, n, fr_ar κ μ c a)) := by
  rw [fr_wl_at κ μ h.1 h.2.1]
  simp [fr_ct, h.2.2.1]
theorem fr_in0 : ∀ w ∈ u_ws RX0 TX0 4, w ∈ fr_tb := by decide +kernel
theorem fr_in1 : ∀ w ∈ u_ws RX1 TX1 8, w ∈ fr_tb := by decide +kernel
theorem fr_in2 : ∀ w ∈ u_ws RX2 TX2 7, w ∈ fr_tb := by decide +kernel
theorem fr_in3 : ∀ w ∈ u_ws RX3 TX3 11, w ∈ fr_tb := by decide +kernel
theorem fr_in4 : ∀ w ∈ u_ws RX4 TX4 5, w ∈ fr_tb := by decide +kernel
theorem fr_in5 : ∀ w ∈ u_ws RX5 TX5 4, w ∈ fr_tb := by decide +kernel
theorem fr_in6 : ∀ w ∈ u_ws RX6 TX6 6, w ∈ fr_tb := by decide +kernel
theorem fr_in7 : ∀ w ∈ u_ws RX7 TX7 7, w ∈ fr_tb := by decide +kernel
theorem fr_in8 : ∀ w ∈ u_ws RX8 TX8 3, w ∈ fr_tb := by decide +kernel
theorem fr_in9 : ∀ w ∈ u_ws RX9 TX9 6, w ∈ fr_tb := by decide +kernel
theorem fr_in10 : ∀ w ∈ u_ws RX10 TX10 11, w ∈ fr_tb := by decide +kernel
theorem fr_in11 : ∀ w ∈ u_ws RX11 TX11 18, w ∈ fr_tb := by decide +kernel
theorem fr_cls (ci : Nat) (q : vw_C) (h : vwCl[ci]? = some q) : (∀ w ∈ u_ws q.1 q.2.1 q.2.2, w ∈ fr_tb) ∧ q.2.2 = fr_nf ci ∧ ∃ ty0 : Nat → FieldType, (∀ k, k < q.2.2 → parseFieldDescriptor (q.2.1 k).2.2.1 = some (ty0 k)) ∧ ∀ a, a < q.2.2 → ∀ b, b < q.2.2 → a ≠ b → (q.2.1 a).2.1 ≠ (q.2.1 b).2.1 := by
  match ci, h with
  | 0, h => cases h; exact ⟨fr_in0, rfl, tyX0, tyX0_ok, nmX0⟩
  | 1, h => cases h; exact ⟨fr_in1, rfl, tyX1, tyX1_ok, nmX1⟩
  | 2, h => cases h; exact ⟨fr_in2, rfl, tyX2, tyX2_ok, nmX2⟩
  | 3, h => cases h; exact ⟨fr_in3, rfl, tyX3, tyX3_ok, nmX3⟩
  | 4, h => cases h; exact ⟨fr_in4, rfl, tyX4, tyX4_ok, nmX4⟩
  | 5, h => cases h; exact ⟨fr_in5, rfl, tyX5, tyX5_ok, nmX5⟩
  | 6, h => cases h; exact ⟨fr_in6, rfl, tyX6, tyX6_ok, nmX6⟩
  | 7, h => cases h; exact ⟨fr_in7, rfl, tyX7, tyX7_ok, nmX7⟩
  | 8, h => cases h; exact ⟨fr_in8, rfl, tyX8, tyX8_ok, nmX8⟩
  | 9, h => cases h; exact ⟨fr_in9, rfl, tyX9, tyX9_ok, nmX9⟩
  | 10, h => cases h; exact ⟨fr_in10, rfl, tyX10, tyX10_ok, nmX10⟩
  | 11, h => cases h; exact ⟨fr_in11, rfl, tyX11, tyX11_ok, nmX11⟩
  | n + 12, h => exact absurd h (by simp [vwCl])
/-- entry idx of own's pool names field k of class ci -/
def fr_fl (own : String) (idx ci k : Nat) : Prop := ∃ q : vw_C, vwCl[ci]? = some q ∧ k < q.2.2 ∧
  (Cond.fieldLink own idx (q.2.1 k).1 (q.2.1 k).2.1 (q.2.1 k).2.2.1 ∈ fr_tb ∨ Cond.fieldLinkNest own idx (q.2.1 k).1 (q.2.1 k).2.1 (q.2.1 k).2.2.1 RX10 ∈ fr_nw)
/-- .. which may be written; b: it is a boolean one -/
def fr_fp (own : String) (idx ci k : Nat) (b : Bool) : Prop := fr_fl own idx ci k ∧ ∀ q : vw_C, vwCl[ci]? = some q → (q.2.1 k).2.2.2 = false ∧ parseFieldDescriptor (q.2.1 k).2.2.1 = some (if b = true then .boolean else .int)
section HEAP
variable {l : Launch} {κ : fr_Ka} {mi : fr_Mi} {k : Nat} {Q : Option Value → fr_Me → Prop} {pc : Nat} {ls : List (Option Value)} {st : List Value} {μ : fr_Me}
theorem fr_getV {c : Int} {idx ci f : Nat} (hd : decode mi.2.1 pc = .ok (.getfield idx, 3)) (hf : fr_fl mi.1.cls idx ci f) (hc : fr_ob c ci) (kk : fr_A l κ mi k Q (pc + 3) ls (fr_fv κ μ c ci f :: st) μ) : fr_A l κ mi k Q pc ls (fr_r κ c :: st) μ := by
  intro p e s m args below meth c' hF H locs lsA hI hL hl
  obtain ⟨⟨C, T, N⟩, hq, hkN, hlink⟩ := hf
  obtain ⟨hin, hnf, -⟩ := fr_cls ci _ hq
  have K := kk p e s m args below meth c' hF H locs lsA hI hL hl
  have he := fr_ob_at κ μ hc
  have hv : ((List.range (fr_nf ci)).map (fr_fv κ μ c ci))[f]? = some (fr_fv κ μ c ci f) := by
    have : f < fr_nf ci := by rw [← hnf]; exact hkN
    simp [this]
  rcases hlink with hlink | hlink
  · exact va_get (Ts := fr_tb) hF.1 hF.2.1 hF.2.2.2.2.2.1 hin hF.2.2.2.2.1 hF.2.2.2.2.2.2.2.1 hI.2.1 c.toNat he hq f hkN (hF.2.2.2.2.2.1 _ hlink) (fun _ h9 => h9) hv hd K
  · exact va_getN (Ts := fr_tb) hF.1 hF.2.1 hF.2.2.2.2.2.1 hin hF.2.2.2.2.1 hF.2.2.2.2.2.2.2.1 hI.2.1 c.toNat he hq f hkN (va_Nw.use rfl (hF.2.2.2.2.2.2.2.2 _ hlink)) (fun _ h9 => h9) hv hd K
theorem fr_geti {c kz : Int} {idx ci f : Nat} (hd : decode mi.2.1 pc = .ok (.getfield idx, 3)) (hf : fr_fl mi.1.cls idx ci f) (hc : fr_ob c ci) (hr : fr_isR ci f = false) (hk : ((f : Nat) : Int) = kz) (kk : fr_A l κ mi k Q (pc + 3) ls (fr_i (μ c kz) :: st) μ) : fr_A l κ mi k Q pc ls (fr_r κ c :: st) μ := by
  refine fr_getV hd hf hc ?_
  subst hk
  rw [fr_fv, if_neg (by rw [hr]; decide)]
  exact kk
theorem fr_getr {c cz : Int} {idx ci f : Nat} (hd : decode mi.2.1 pc = .ok (.getfield idx, 3)) (hf : fr_fl mi.1.cls idx ci f) (hc : fr_ob c ci) (hr : fr_isR ci f = true) (hk : fr_rf c f = cz) (kk : fr_A l κ mi k Q (pc + 3) ls (fr_r κ cz :: st) μ) : fr_A l κ mi k Q pc ls (fr_r κ c :: st) μ := by
  refine fr_getV hd hf hc ?_
  subst hk
  rw [fr_fv, if_pos hr]
  exact kk
theorem fr_put {c kz z : Int} {idx ci f : Nat} {b : Bool} (hd : decode mi.2.1 pc = .ok (.putfield idx, 3)) (hf : fr_fp mi.1.cls idx ci f b) (hc : fr_ob c ci) (hr : fr_isR ci f = false) (hk : ((f : Nat) : Int) = kz) (hb : b = true → z = 0 ∨ z = 1) (kk : fr_A l κ mi k Q (pc + 3) ls st (fr_up μ c kz z)) : fr_A l κ mi k Q pc ls (fr_i z :: fr_r κ c :: st) μ := by
  intro p e s m args below meth c' hF H locs lsA hI hL hl
  subst hk
  obtain ⟨⟨⟨C, T, N⟩, hq, hkN, hlink⟩, hfp⟩ := hf
  obtain ⟨hfin, hpar⟩ := hfp _ hq
  obtain ⟨hin, hnf, ty0, hty, hnm⟩ := fr_cls ci _ hq
  have hfn : f < fr_nf ci := by rw [← hnf]; exact hkN
  have he := fr_ob_at κ μ hc
  have hn : narrow (if b = true then .boolean else .int) (fr_i z) = fr_i z := by
    cases b with
    | false => rfl
    | true => rcases hb rfl with rfl | rfl <;> rfl
  have hfit : fits (if b = true then .boolean else .int) (fr_i z) = true := by
    cases b with
    | false => rfl
    | true => rcases hb rfl with rfl | rfl <;> rfl
  have hset : (fr_wl κ μ).set c.toNat (κ.2.2.1 c, .inr (ci, ((List.range (fr_nf ci)).map (fr_fv κ μ c ci)).set f (fr_i z))) = fr_wl κ (fr_up μ c f z) := by
    refine fr_wl_set κ μ _ hc.1 hc.2.1 ?_ (fun c' h => fr_ct_ne κ (fr_up_nc μ _ _ h))
    simp only [fr_ct, hc.2.2]
    congr 2
    apply List.ext_getElem?
    intro i
    by_cases hi : i = f
    · subst hi
      rw [List.getElem?_set_self (by simpa using hfn)]
      simp [hfn, fr_fv, hr, fr_up_eq]
    · rw [List.getElem?_set_ne (Ne.symm hi)]
      simp only [List.getElem?_map]
      cases hri : (List.range (fr_nf ci))[i]? with
      | none => rfl
      | some j =>
        have hj : j = i := by
          obtain ⟨h, e⟩ := List.getElem?_eq_some_iff.mp hri
          simp at e
          exact e.symm
        subst hj
        simp only [Option.map_some, fr_fv]
        rw [fr_up_nk μ c z (by omega : ((j : Nat) : Int) ≠ (f : Int))]
  have go : ∀ (H1 : Heap) (locs1 : List Loc), va_P κ.1 vwCl ((fr_wl κ μ).set c.toNat (κ.2.2.1 c, .inr (ci, ((List.range (fr_nf ci)).map (fr_fv κ μ c ci)).set f (fr_i z)))) H1 → va_D (fr_fA κ) ((fr_wl κ μ).set c.toNat (κ.2.2.1 c, .inr (ci, ((List.range (fr_nf ci)).map (fr_fv κ μ c ci)).set f (fr_i z)))) → va_S (fr_fA κ) κ.2.2.2 H1 locs1 → W p l e (fr_rm k) s m args below meth c' H1 locs1 0 0 (MQ below (fr_Qc κ Q) args s 0 0 (fr_fA κ)) (F0 m (pc + 3) lsA st) := by
    intro H1 locs1 hP1 _ hS1
    rw [hset] at hP1
    obtain ⟨g1, g2⟩ := fr_In.of hI.1 hP1 hS1
    exact kk p e s m args below meth c' hF H1 locs1 lsA g1 g2 hl
  rcases hlink with hlink | hlink
  · exact va_put (Ts := fr_tb) hF.1 hF.2.1 hF.2.2.2.2.2.1 hin ty0 hty hnm hF.2.2.2.2.1 hF.2.2.2.2.2.2.2.1 hI.2.1 (fr_wD hI.1 μ) (hI.S hL) c.toNat he hq f hkN (hF.2.2.2.2.2.1 _ hlink) (fun _ h9 => h9) hfin hpar hn hfit (by simpa using hfn) hd go
  · exact va_putN (Ts := fr_tb) hF.1 hF.2.1 hF.2.2.2.2.2.1 hin ty0 hty hnm hF.2.2.2.2.1 hF.2.2.2.2.2.2.2.1 hI.2.1 (fr_wD hI.1 μ) (hI.S hL) c.toNat he hq f hkN (va_Nw.use rfl (hF.2.2.2.2.2.2.2.2 _ hlink)) (fun _ h9 => h9) hfin hpar hn hfit (by simpa using hfn) hd go
theorem fr_clamp {i : Int} (h0 : 0 ≤ i) (h1 : i ≤ 2147483647) : (Int32.ofInt i).toNatClampNeg = i.toNat := Int32.toNatClampNeg_ofInt_of_le (by omega) (by omega)
theorem fr_vin {i : Int} {n : Nat} (hn : n ≤ 100000) (h0 : 0 ≤ i) (h1 : i < n) : vp_in (Int32.ofInt i) n := by
  intro h
  rcases h with h | h
  · rw [show (0 : Int32) = Int32.ofInt 0 from rfl, fr_lt_iff (by omega) (by omega)] at h
    omega
  · rw [fr_clamp h0 (by omega)] at h
    omega
theorem fr_iald {c i : Int} {n : Nat} (hd : decode mi.2.1 pc = .ok (.iaload, 1)) (hc : fr_ra c 0 n) (h0 : 0 ≤ i) (h1 : i < n) (kk : fr_A l κ mi k Q (pc + 1) ls (fr_i (μ c i) :: st) μ) : fr_A l κ mi k Q pc ls (fr_i i :: fr_r κ c :: st) μ := by
  intro p e s m args below meth c' hF H locs lsA hI hL hl
  have hb := hc.2.2.2
  refine va_iald hF.1 hF.2.1 hF.2.2.2.2.2.2.2.1 hI.2.1 c.toNat 0 (fr_ra_at κ μ hc) rfl (fr_vin hb h0 h1) hd ?_
  have K := kk p e s m args below meth c' hF H locs lsA hI hL hl
  rw [fr_clamp h0 (by omega), Int.toNat_of_nonneg h0]
  exact K
theorem fr_zald {c i : Int} {n : Nat} (hd : decode mi.2.1 pc = .ok (.baload, 1)) (hc : fr_ra c 2 n) (h0 : 0 ≤ i) (h1 : i < n) (kk : fr_A l κ mi k Q (pc + 1) ls (fr_i (μ c i) :: st) μ) : fr_A l κ mi k Q pc ls (fr_i i :: fr_r κ c :: st) μ := by
  intro p e s m args below meth c' hF H locs lsA hI hL hl
  have hb := hc.2.2.2
  refine va_zald hF.1 hF.2.1 hF.2.2.2.2.2.2.2.1 hI.2.1 c.toNat 2 (fr_ra_at κ μ hc) rfl (fr_vin hb h0 h1) hd ?_
  have K := kk p e s m args below meth c' hF H locs lsA hI hL hl
  rw [fr_clamp h0 (by omega), Int.toNat_of_nonneg h0]
  exact K
theorem fr_lald {c i : Int} {n : Nat} (hd : decode mi.2.1 pc = .ok (.laload, 1)) (hc : fr_ra c 1 n) (h0 : 0 ≤ i) (h1 : i < n) (kk : fr_A l κ mi k Q (pc + 1) ls (fr_j (μ c i) :: st) μ) : fr_A l κ mi k Q pc ls (fr_i i :: fr_r κ c :: st) μ := by
  intro p e s m args below meth c' hF H locs lsA hI hL hl
  have hb := hc.2.2.2
  refine va_lald hF.1 hF.2.1 hF.2.2.2.2.2.2.2.1 hI.2.1 c.toNat 1 (fr_ra_at κ μ hc) rfl (fr_vin hb h0 h1) hd ?_
  have K := kk p e s m args below meth c' hF H locs lsA hI hL hl
  rw [fr_clamp h0 (by omega), Int.toNat_of_nonneg h0]
  exact K
theorem fr_aald {c i cz : Int} {a n : Nat} (hd : decode mi.2.1 pc = .ok (.aaload, 1)) (hc : fr_ra c a n) (ha : a = 3 ∨ a = 4 ∨ a = 5) (h0 : 0 ≤ i) (h1 : i < n) (hz : fr_rf c i.toNat = cz) (kk : fr_A l κ mi k Q (pc + 1) ls (fr_r κ cz :: st) μ) : fr_A l κ mi k Q pc ls (fr_i i :: fr_r κ c :: st) μ := by
  intro p e s m args below meth c' hF H locs lsA hI hL hl
  subst hz
  have hb := hc.2.2.2
  have K := kk p e s m args below meth c' hF H locs lsA hI hL hl
  have hat := fr_ra_at κ μ hc
  rcases ha with rfl | rfl | rfl
  · refine va_aldq hF.1 hF.2.1 hF.2.2.2.2.2.2.2.1 hI.2.1 c.toNat 3 hat rfl (fr_vin hb h0 h1) hd ?_
    rw [fr_clamp h0 (by omega)]
    exact K
  · refine va_aldq hF.1 hF.2.1 hF.2.2.2.2.2.2.2.1 hI.2.1 c.toNat 4 hat rfl (fr_vin hb h0 h1) hd ?_
    rw [fr_clamp h0 (by omega)]
    exact K
  · refine va_aldq hF.1 hF.2.1 hF.2.2.2.2.2.2.2.1 hI.2.1 c.toNat 5 hat rfl (fr_vin hb h0 h1) hd ?_
    rw [fr_clamp h0 (by omega)]
    exact K
theorem fr_iast {c i z : Int} {n : Nat} (hd : decode mi.2.1 pc = .ok (.iastore, 1)) (hc : fr_ra c 0 n) (h0 : 0 ≤ i) (h1 : i < n) (kk : fr_A l κ mi k Q (pc + 1) ls st (fr_up μ c i z)) : fr_A l κ mi k Q pc ls (fr_i z :: fr_i i :: fr_r κ c :: st) μ := by
  intro p e s m args below meth c' hF H locs lsA hI hL hl
  have hb := hc.2.2.2
  refine va_iast hF.1 hF.2.1 hF.2.2.2.2.2.2.2.1 hI.2.1 (fr_wD hI.1 μ) (hI.S hL) c.toNat 0 (fr_ra_at κ μ hc) rfl (fr_vin hb h0 h1) hd (fun H1 locs1 hP1 _ hS1 => ?_)
  rw [fr_wl_set κ μ (fr_up μ c i z) hc.1 hc.2.1 ?_ (fun c' h => fr_ct_ne κ (fr_up_nc μ _ _ h))] at hP1
  · obtain ⟨g1, g2⟩ := fr_In.of hI.1 hP1 hS1
    exact kk p e s m args below meth c' hF H1 locs1 lsA g1 g2 hl
  · simp only [fr_ct, hc.2.2.1, fr_ar]
    congr 3
    rw [fr_clamp h0 (by omega)]
    congr 1
    funext j
    unfold upd
    by_cases hj : j = i.toNat
    · subst hj
      rw [Int.toNat_of_nonneg h0, fr_up_eq]
      simp
    · rw [fr_up_nk μ c z (by omega : ((j : Nat) : Int) ≠ i)]
      simp [hj]
theorem fr_zast {c i z : Int} {n : Nat} (hd : decode mi.2.1 pc = .ok (.bastore, 1)) (hc : fr_ra c 2 n) (h0 : 0 ≤ i) (h1 : i < n) (hz : z = 0 ∨ z = 1) (kk : fr_A l κ mi k Q (pc + 1) ls st (fr_up μ c i z)) : fr_A l κ mi k Q pc ls (fr_i z :: fr_i i :: fr_r κ c :: st) μ := by
  intro p e s m args below meth c' hF H locs lsA hI hL hl
  have hb := hc.2.2.2
  refine va_zast hF.1 hF.2.1 hF.2.2.2.2.2.2.2.1 hI.2.1 (fr_wD hI.1 μ) (hI.S hL) c.toNat 2 (fr_ra_at κ μ hc) rfl (fr_vin hb h0 h1) hd (fun H1 locs1 hP1 _ hS1 => ?_)
  rw [fr_wl_set κ μ (fr_up μ c i z) hc.1 hc.2.1 ?_ (fun c' h => fr_ct_ne κ (fr_up_nc μ _ _ h))] at hP1
  · obtain ⟨g1, g2⟩ := fr_In.of hI.1 hP1 hS1
    exact kk p e s m args below meth c' hF H1 locs1 lsA g1 g2 hl
  · simp only [fr_ct, hc.2.2.1, fr_ar]
    congr 3
    rw [fr_clamp h0 (by omega), show vp_nar .boolean (Int32.ofInt z) = Int32.ofInt z by rcases hz with rfl | rfl <;> rfl]
    congr 1
    funext j
    unfold upd
    by_cases hj : j = i.toNat
    · subst hj
      rw [Int.toNat_of_nonneg h0, fr_up_eq]
      simp
    · rw [fr_up_nk μ c z (by omega : ((j : Nat) : Int) ≠ i)]
      simp [hj]
theorem fr_last {c i z : Int} {n : Nat} (hd : decode mi.2.1 pc = .ok (.lastore, 1)) (hc : fr_ra c 1 n) (h0 : 0 ≤ i) (h1 : i < n) (kk : fr_A l κ mi k Q (pc + 1) ls st (fr_up μ c i z)) : fr_A l κ mi k Q pc ls (fr_j z :: fr_i i :: fr_r κ c :: st) μ := by
  intro p e s m args below meth c' hF H locs lsA hI hL hl
  have hb := hc.2.2.2
  refine va_last hF.1 hF.2.1 hF.2.2.2.2.2.2.2.1 hI.2.1 (fr_wD hI.1 μ) (hI.S hL) c.toNat 1 (fr_ra_at κ μ hc) rfl (fr_vin hb h0 h1) hd (fun H1 locs1 hP1 _ hS1 => ?_)
  rw [fr_wl_set κ μ (fr_up μ c i z) hc.1 hc.2.1 ?_ (fun c' h => fr_ct_ne κ (fr_up_nc μ _ _ h))] at hP1
  · obtain ⟨g1, g2⟩ := fr_In.of hI.1 hP1 hS1
    exact kk p e s m args below meth c' hF H1 locs1 lsA g1 g2 hl
  · simp only [fr_ct, hc.2.2.1, fr_ar]
    congr 4
    rw [fr_clamp h0 (by omega)]
    congr 1
    funext j
    unfold vp_updL
    by_cases hj : j = i.toNat
    · subst hj
      rw [Int.toNat_of_nonneg h0, fr_up_eq]
      simp
    · rw [fr_up_nk μ c z (by omega : ((j : Nat) : Int) ≠ i)]
      simp [hj]
end HEAP
end
section
/-! entry and calls -/
def fr_ex : List Value → List (Option Value)
  | [] => []
  | v :: r => match v with
    | .long x => some (.long x) :: none :: fr_ex r
    | .double x => some (.double x) :: none :: fr_ex r
    | v => some v :: fr_ex r
theorem fr_ex_args (vs : List Value) : ∀ (i0 : Nat) (i : Nat) (v : Value), (fr_ex vs)[i]? = some (some v) → (i0 + i, v) ∈ lv_args i0 vs := by
  induction vs with
  | nil => intro i0 i v h; simp [fr_ex] at h
  | cons u r ih =>
    intro i0 i v h
    have one : ∀ (w : Value), w.category = 1 → (some w :: fr_ex r)[i]? = some (some v) → (i0 + i, v) ∈ lv_args i0 (w :: r) := by
      intro w hw h
      rw [lv_args, if_neg (by omega)]
      cases i with
      | zero => cases h; exact List.mem_cons_self
      | succ i =>
        have := ih (i0 + 1) i v h
        rw [show i0 + (i + 1) = i0 + 1 + i by omega]
        exact List.mem_cons_of_mem _ this
    have two : ∀ (w : Value), w.category = 2 → (some w :: none :: fr_ex r)[i]? = some (some v) → (i0 + i, v) ∈ lv_args i0 (w :: r) := by
      intro w hw h
      rw [lv_args, if_pos hw]
      match i, h with
      | 0, h => cases h; exact List.mem_cons_self
      | 1, h => simp at h
      | i + 2, h =>
        have := ih (i0 + 2) i v h
        rw [show i0 + (i + 2) = i0 + 2 + i by omega]
        exact List.mem_cons_of_mem _ this
    cases u <;> first | exact two _ rfl h | exact one _ rfl h
def fr_el (n : Nat) (as : List Value) : List (Option Value) := fr_ex as ++ List.replicate (n - (fr_ex as).length) none
theorem fr_slen (vs : List Value) : (lg_sl vs).length = (fr_ex vs).length := by
  induction vs with
  | nil => rfl
  | cons u r ih =>
    have e : lg_sl (u :: r) = (if u.category = 2 then [Slot.val u, Slot.second] else [Slot.val u]) ++ lg_sl r := by simp [lg_sl]
    rw [e, List.length_append, ih]
    cases u <;> simp [fr_ex, Value.category] <;> omega
theorem fr_el_lh {n : Nat} {as : List Value} (h : (fr_ex as).length ≤ n) : fr_lh ((lg_sl as ++ List.replicate (n - (lg_sl as).length) Slot.unset).toArray) n (fr_el n as) := by
  obtain ⟨h1, h2, h3⟩ := lv_entry as (n := n) (by rw [fr_slen]; exact h)
  refine ⟨h1, h2, fun i v hv => ?_⟩
  have hi : i < (fr_ex as).length := by
    apply Nat.lt_of_not_le
    intro hge
    rw [fr_el, List.getElem?_append_right hge] at hv
    have := List.mem_of_getElem? hv
    simp at this
  rw [fr_el, List.getElem?_append_left hi] at hv
  have := fr_ex_args as 0 i v hv
  rw [Nat.zero_add] at this
  exact h3 (i, v) this
theorem fr_enter {l : Launch} {κ : fr_Ka} {mi : fr_Mi} {k : Nat} {Q : Option Value → fr_Me → Prop} {as : List Value} {μ : fr_Me} {ls : List (Option Value)} (hp : plainName mi.1.cls = true) (hls : fr_el mi.2.2.1 as = ls) (hle : (fr_ex as).length ≤ mi.2.2.1) (h : fr_A l κ mi k Q 0 ls [] μ) : fr_C l κ mi k as μ Q := by
  subst hls
  refine Met.ofW (cc := mi.2.1) (maxL := mi.2.2.1) (ret := mi.2.2.2) hp rfl ?_
  intro p e s m args below meth c s₁ B hml hv
  obtain ⟨rfl, hI, hV⟩ := hv
  have hts := atoms_spec (ws := fr_ws mi) B.pre
  have hown : s.vm.findClass mi.1.cls = some m.cls := findClass_of_methodNamed B.named
  rw [lg_entry_eq]
  exact h p e s m as.toArray below meth c ⟨B.exec, B.bytes, B.returns, hml, hown, fun w hw => hts w (List.mem_cons_of_mem _ hw), B.notSynchronized, hV⟩ s.heap [] _ hI (fun q hq => by cases hq) (fr_el_lh hle)
def fr_ml (own : String) (idx : Nat) (y : MethodName) : Prop := Cond.methodLink own idx y ∈ fr_tb ∨ Cond.methodLinkNest own idx y RX10 ∈ fr_nw
def fr_mc (mi : fr_Mi) (n : Nat) : Prop := Cond.code mi.1 mi.2.1 mi.2.2.1 mi.2.2.2 ∈ fr_tb ∧ Cond.initialized mi.1.cls ∈ fr_tb ∧ mi.1.cls ≠ "java/lang/invoke/MethodHandle" ∧ mi.1.cls ≠ "java/lang/invoke/VarHandle" ∧ (parseMethodDescriptor mi.1.desc).map (fun d => d.parameters.length) = some n ∧ mi.2.2.1 ≤ 40
def fr_mv (mi : fr_Mi) (n : Nat) : Prop := fr_mc mi n ∧ Cond.instanceMethod mi.1 ∈ fr_tb ∧ Cond.selects mi.1.cls mi.1 mi.1 ∈ fr_tb
def fr_ms (mi : fr_Mi) (n : Nat) : Prop := fr_mc mi n ∧ Cond.static mi.1 ∈ fr_tb
/-- cell c is an object of the class that has this method -/
def fr_rc (c : Int) (mi : fr_Mi) : Prop := ∃ (ci : Nat) (q : vw_C), fr_ob c ci ∧ vwCl[ci]? = some q ∧ q.1 = mi.1.cls
section CALLS
variable {l : Launch} {κ : fr_Ka} {mi mi' : fr_Mi} {k k' : Nat} {Q Q' : Option Value → fr_Me → Prop} {pc n idx : Nat} {ls : List (Option Value)} {st st0 as : List Value} {μ : fr_Me}
theorem fr_callR {R : Room} {p : Program} {e : Env} {s : State} {m : MethodId} {args : Array Value} {below : List Frame} {meth : Method} {c : Code} {H : Heap} {locs : List Loc} {lsA : Array Slot} {a : Array Value}
    (hr : va_Run p l e R s m args below meth c H locs 0 0 0 0 (F0 m pc lsA st0) st (fr_Qc κ Q' a) (fr_fA κ)) (hL : ∀ q ∈ locs, fr_fA κ q.base) {Z : State → Prop}
    (kk : ∀ (v : Option Value) (μ' : fr_Me), Q' v μ' → ∀ (H1 : Heap) (locs1 : List Loc), fr_In κ μ' H1 → (∀ q ∈ locs1, fr_fA κ q.base) → W p l e R s m args below meth c H1 locs1 0 0 Z (F0 m (pc + 3) lsA (v.toList ++ st))) : W p l e R s m args below meth c H locs 0 0 Z (F0 m pc lsA st0) := by
  intro T hT X
  obtain ⟨v, st₀, t, T', L, h0, X', hL2, e1, e2, ⟨v2, μ', hv, hq, hI⟩, stp⟩ := hr T hT X
  cases hv
  obtain ⟨t2, a1, b1⟩ := kk v μ' hq T'.heap (locs ++ L) (by rw [e1]; exact hI) (fun q h => by
    rcases List.mem_append.mp h with h | h
    · exact hL q h
    · exact hL2 q h) T' rfl X'
  exact ⟨t2, stp t2 a1, b1⟩
theorem fr_callV {c : Int} (hd : decode mi.2.1 pc = .ok (.invokevirtual idx, 3)) (hl : fr_ml mi.1.cls idx mi'.1) (hm : fr_mv mi' n) (hc : fr_rc c mi') (hk : k' + 1 ≤ k) (hC : fr_C l κ mi' k' (fr_r κ c :: as) μ Q') (hn : as.length = n) (hst : st0 = as.reverse ++ fr_r κ c :: st) (hw : (st.map fun v => v.category).sum ≤ 8)
    (kk : ∀ (v : Option Value) (μ' : fr_Me), Q' v μ' → fr_A l κ mi k Q (pc + 3) ls (v.toList ++ st) μ') : fr_A l κ mi k Q pc ls st0 μ := by
  subst hst
  intro p e s m args below meth c' hF H locs lsA hI hL hlo
  obtain ⟨⟨hmc, hmi, hm1, hm2, hm3, hm4⟩, hms, hmsel⟩ := hm
  obtain ⟨ci, q, hob, hq, hqn⟩ := hc
  have hts := hF.2.2.2.2.2.1
  have hR : (fr_rm k').frames + 1 ≤ (fr_rm k).frames ∧ 8 + (mi'.2.2.1 + 11) + (fr_rm k').locals ≤ (fr_rm k).locals := ⟨hk, by show 8 + (mi'.2.2.1 + 11) + 64 * k' ≤ 64 * k; omega⟩
  have hrecv := va_recv hF.2.2.2.2.2.2.2.1 hI.2.1 hq (fr_ob_at κ μ hob)
  rw [hqn] at hrecv
  have hpre : PreV s H mi'.1.cls (κ.2.2.1 c) (fr_Pc κ (fr_r κ c :: as) μ) as := ⟨fr_Pc.blind _ _ _, hrecv, fun U hU hW => ⟨rfl, by rw [hU]; exact hI, hF.2.2.2.2.2.2.2.warm hW⟩⟩
  have hfx : CallFix p m c' mi.2.1 mi.2.2.1 s args fr_tb mi.1.cls := ⟨hF.1, hF.2.1, hF.2.2.2.1, hF.2.2.2.2.1, hts⟩
  refine fr_callR (Q' := Q') (st := st) (a := (Value.ref (κ.2.2.1 c) :: as).toArray) ?_ hL (fun v μ' hq H1 locs1 g1 g2 => kk v μ' hq p e s m args below meth c' hF H1 locs1 lsA g1 g2 hlo)
  rcases hl with hl | hl
  · exact va_runV (C := mi'.1.cls) hfx hC ⟨callB_of n hts (fr_good mi mi' hmc) rfl rfl rfl (hts _ hmi) (hts _ hl) ⟨hm1, hm2, hm3⟩ hR, hts _ hms, hts _ hmsel⟩ hpre rfl hn hlo.1 rfl (by simpa [F0, JFrame.monitorRoom] using hw) hd ⟨Nat.zero_le _, Nat.zero_le _⟩
  · exact va_runVN (C := mi'.1.cls) hfx hC ⟨va_cnB n hts (fr_good mi mi' hmc) rfl rfl rfl (hF.2.2.2.2.2.2.2.2 _ hl) (hts _ hmi) ⟨hm1, hm2, hm3⟩ hR, hts _ hms, hts _ hmsel⟩ hpre rfl hn hlo.1 rfl (by simpa [F0, JFrame.monitorRoom] using hw) hd ⟨Nat.zero_le _, Nat.zero_le _⟩
theorem fr_callS (hd : decode mi.2.1 pc = .ok (.invokestatic idx, 3)) (hl : fr_ml mi.1.cls idx mi'.1) (hm : fr_ms mi' n) (hk : k' + 1 ≤ k) (hC : fr_C l κ mi' k' as μ Q') (hn : as.length = n) (hst : st0 = as.reverse ++ st) (hw : (st.map fun v => v.category).sum ≤ 8)
    (kk : ∀ (v : Option Value) (μ' : fr_Me), Q' v μ' → fr_A l κ mi k Q (pc + 3) ls (v.toList ++ st) μ') : fr_A l κ mi k Q pc ls st0 μ := by
  subst hst
  intro p e s m args below meth c' hF H locs lsA hI hL hlo
  obtain ⟨⟨hmc, hmi, hm1, hm2, hm3, hm4⟩, hms⟩ := hm
  have hts := hF.2.2.2.2.2.1
  have hR : (fr_rm k').frames + 1 ≤ (fr_rm k).frames ∧ 8 + (mi'.2.2.1 + 11) + (fr_rm k').locals ≤ (fr_rm k).locals := ⟨hk, by show 8 + (mi'.2.2.1 + 11) + 64 * k' ≤ 64 * k; omega⟩
  have hpre : PreS s H (fr_Pc κ as μ) as := ⟨fr_Pc.blind _ _ _, fun U hU hW => ⟨rfl, by rw [hU]; exact hI, hF.2.2.2.2.2.2.2.warm hW⟩⟩
  have hfx : CallFix p m c' mi.2.1 mi.2.2.1 s args fr_tb mi.1.cls := ⟨hF.1, hF.2.1, hF.2.2.2.1, hF.2.2.2.2.1, hts⟩
  refine fr_callR (Q' := Q') (st := st) (a := as.toArray) ?_ hL (fun v μ' hq H1 locs1 g1 g2 => kk v μ' hq p e s m args below meth c' hF H1 locs1 lsA g1 g2 hlo)
  rcases hl with hl | hl
  · exact va_runS hfx hC ⟨callB_of n hts (fr_good mi mi' hmc) rfl rfl rfl (hts _ hmi) (hts _ hl) ⟨hm1, hm2, hm3⟩ hR, hts _ hms⟩ hpre rfl hn hlo.1 rfl (by simpa [F0, JFrame.monitorRoom] using hw) hd ⟨Nat.zero_le _, Nat.zero_le _⟩
  · exact va_runSN hfx hC ⟨va_cnB n hts (fr_good mi mi' hmc) rfl rfl rfl (hF.2.2.2.2.2.2.2.2 _ hl) (hts _ hmi) ⟨hm1, hm2, hm3⟩ hR, hts _ hms, trivial⟩ hpre rfl hn hlo.1 rfl (by simpa [F0, JFrame.monitorRoom] using hw) hd ⟨Nat.zero_le _, Nat.zero_le _⟩
end CALLS
/-- a method that answers the int z and leaves the memory μ' -/
def fr_Ei (z : Int) (μ' : fr_Me) : Option Value → fr_Me → Prop := fun v m => v = some (fr_i z) ∧ m = μ'
def fr_Ej (z : Int) (μ' : fr_Me) : Option Value → fr_Me → Prop := fun v m => v = some (fr_j z) ∧ m = μ'
def fr_Ev (μ' : fr_Me) : Option Value → fr_Me → Prop := fun v m => v = none ∧ m = μ'
/-- .. an int and a memory of which P holds -/
def fr_Pi (P : Int → fr_Me → Prop) : Option Value → fr_Me → Prop := fun v m => ∃ z, v = some (fr_i z) ∧ P z m
def fr_Pv (P : fr_Me → Prop) : Option Value → fr_Me → Prop := fun v m => v = none ∧ P m
section CALLS2
variable {l : Launch} {κ : fr_Ka} {mi mi' : fr_Mi} {k k' : Nat} {Q Q' : Option Value → fr_Me → Prop} {pc n idx : Nat} {ls : List (Option Value)} {st st0 as : List Value} {μ μ' : fr_Me} {z : Int}
theorem fr_cVi {c : Int} (hd : decode mi.2.1 pc = .ok (.invokevirtual idx, 3)) (hl : fr_ml mi.1.cls idx mi'.1) (hm : fr_mv mi' n) (hc : fr_rc c mi') (hk : k' + 1 ≤ k) (hC : fr_C l κ mi' k' (fr_r κ c :: as) μ (fr_Ei z μ')) (hn : as.length = n) (hst : st0 = as.reverse ++ fr_r κ c :: st) (hw : (st.map fun v => v.category).sum ≤ 8)
    (kk : fr_A l κ mi k Q (pc + 3) ls (fr_i z :: st) μ') : fr_A l κ mi k Q pc ls st0 μ := fr_callV hd hl hm hc hk hC hn hst hw (fun v m h => by obtain ⟨rfl, rfl⟩ := h; exact kk)
theorem fr_cVj {c : Int} (hd : decode mi.2.1 pc = .ok (.invokevirtual idx, 3)) (hl : fr_ml mi.1.cls idx mi'.1) (hm : fr_mv mi' n) (hc : fr_rc c mi') (hk : k' + 1 ≤ k) (hC : fr_C l κ mi' k' (fr_r κ c :: as) μ (fr_Ej z μ')) (hn : as.length = n) (hst : st0 = as.reverse ++ fr_r κ c :: st) (hw : (st.map fun v => v.category).sum ≤ 8)
    (kk : fr_A l κ mi k Q (pc + 3) ls (fr_j z :: st) μ') : fr_A l κ mi k Q pc ls st0 μ := fr_callV hd hl hm hc hk hC hn hst hw (fun v m h => by obtain ⟨rfl, rfl⟩ := h; exact kk)
theorem fr_cVv {c : Int} (hd : decode mi.2.1 pc = .ok (.invokevirtual idx, 3)) (hl : fr_ml mi.1.cls idx mi'.1) (hm : fr_mv mi' n) (hc : fr_rc c mi') (hk : k' + 1 ≤ k) (hC : fr_C l κ mi' k' (fr_r κ c :: as) μ (fr_Ev μ')) (hn : as.length = n) (hst : st0 = as.reverse ++ fr_r κ c :: st) (hw : (st.map fun v => v.category).sum ≤ 8)
    (kk : fr_A l κ mi k Q (pc + 3) ls st μ') : fr_A l κ mi k Q pc ls st0 μ := fr_callV hd hl hm hc hk hC hn hst hw (fun v m h => by obtain ⟨rfl, rfl⟩ := h; exact kk)
theorem fr_cVP {c : Int} {P : Int → fr_Me → Prop} (hd : decode mi.2.1 pc = .ok (.invokevirtual idx, 3)) (hl : fr_ml mi.1.cls idx mi'.1) (hm : fr_mv mi' n) (hc : fr_rc c mi') (hk : k' + 1 ≤ k) (hC : fr_C l κ mi' k' (fr_r κ c :: as) μ (fr_Pi P)) (hn : as.length = n) (hst : st0 = as.reverse ++ fr_r κ c :: st) (hw : (st.map fun v => v.category).sum ≤ 8)
    (kk : ∀ z μ', P z μ' → fr_A l κ mi k Q (pc + 3) ls (fr_i z :: st) μ') : fr_A l κ mi k Q pc ls st0 μ := fr_callV hd hl hm hc hk hC hn hst hw (fun v m h => by obtain ⟨z, rfl, h⟩ := h; exact kk z m h)
theorem fr_cVQ {c : Int} {P : fr_Me → Prop} (hd : decode mi.2.1 pc = .ok (.invokevirtual idx, 3)) (hl : fr_ml mi.1.cls idx mi'.1) (hm : fr_mv mi' n) (hc : fr_rc c mi') (hk : k' + 1 ≤ k) (hC : fr_C l κ mi' k' (fr_r κ c :: as) μ (fr_Pv P)) (hn : as.length = n) (hst : st0 = as.reverse ++ fr_r κ c :: st) (hw : (st.map fun v => v.category).sum ≤ 8)
    (kk : ∀ μ', P μ' → fr_A l κ mi k Q (pc + 3) ls st μ') : fr_A l κ mi k Q pc ls st0 μ := fr_callV hd hl hm hc hk hC hn hst hw (fun v m h => by obtain ⟨rfl, h⟩ := h; exact kk m h)
theorem fr_cSi (hd : decode mi.2.1 pc = .ok (.invokestatic idx, 3)) (hl : fr_ml mi.1.cls idx mi'.1) (hm : fr_ms mi' n) (hk : k' + 1 ≤ k) (hC : fr_C l κ mi' k' as μ (fr_Ei z μ')) (hn : as.length = n) (hst : st0 = as.reverse ++ st) (hw : (st.map fun v => v.category).sum ≤ 8)
    (kk : fr_A l κ mi k Q (pc + 3) ls (fr_i z :: st) μ') : fr_A l κ mi k Q pc ls st0 μ := fr_callS hd hl hm hk hC hn hst hw (fun v m h => by obtain ⟨rfl, rfl⟩ := h; exact kk)
theorem fr_cSj (hd : decode mi.2.1 pc = .ok (.invokestatic idx, 3)) (hl : fr_ml mi.1.cls idx mi'.1) (hm : fr_ms mi' n) (hk : k' + 1 ≤ k) (hC : fr_C l κ mi' k' as μ (fr_Ej z μ')) (hn : as.length = n) (hst : st0 = as.reverse ++ st) (hw : (st.map fun v => v.category).sum ≤ 8)
    (kk : fr_A l κ mi k Q (pc + 3) ls (fr_j z :: st) μ') : fr_A l κ mi k Q pc ls st0 μ := fr_callS hd hl hm hk hC hn hst hw (fun v m h => by obtain ⟨rfl, rfl⟩ := h; exact kk)
theorem fr_cSv (hd : decode mi.2.1 pc = .ok (.invokestatic idx, 3)) (hl : fr_ml mi.1.cls idx mi'.1) (hm : fr_ms mi' n) (hk : k' + 1 ≤ k) (hC : fr_C l κ mi' k' as μ (fr_Ev μ')) (hn : as.length = n) (hst : st0 = as.reverse ++ st) (hw : (st.map fun v => v.category).sum ≤ 8)
    (kk : fr_A l κ mi k Q (pc + 3) ls st μ') : fr_A l κ mi k Q pc ls st0 μ := fr_callS hd hl hm hk hC hn hst hw (fun v m h => by obtain ⟨rfl, rfl⟩ := h; exact kk)
end CALLS2
theorem fr_down {P : Nat → Prop} (n : Nat) (hn : P n) (hs : ∀ k, k < n → P (k + 1) → P k) : P 0 := by
  have : ∀ j, j ≤ n → P (n - j) := by
    intro j
    induction j with
    | zero => intro _; exact hn
    | succ j ih =>
      intro hj
      have h1 := ih (by omega)
      have h2 := hs (n - (j + 1)) (by omega)
      rw [show n - (j + 1) + 1 = n - j by omega] at h2
      exact h2 h1
  have h := this n (Nat.le_refl n)
  rw [Nat.sub_self] at h
  exact h
end
