theorem flX7_9 : fr_fl RX7 9 7 0 := ⟨(RX7, TX7, 7), rfl, by decide, Or.inl (fr_mem 110 (by decide +kernel) rfl)⟩
theorem fpX7_9 : fr_fp RX7 9 7 0 false := ⟨flX7_9, fun q h => by cases h; exact ⟨rfl, by decide +kernel⟩⟩
theorem flX7_15 : fr_fl RX7 15 7 1 := ⟨(RX7, TX7, 7), rfl, by decide, Or.inl (fr_mem 114 (by decide +kernel) rfl)⟩
theorem fpX7_15 : fr_fp RX7 15 7 1 false := ⟨flX7_15, fun q h => by cases h; exact ⟨rfl, by decide +kernel⟩⟩
theorem flX7_18 : fr_fl RX7 18 7 2 := ⟨(RX7, TX7, 7), rfl, by decide, Or.inl (fr_mem 117 (by decide +kernel) rfl)⟩
theorem fpX7_18 : fr_fp RX7 18 7 2 false := ⟨flX7_18, fun q h => by cases h; exact ⟨rfl, by decide +kernel⟩⟩
theorem flX7_21 : fr_fl RX7 21 7 3 := ⟨(RX7, TX7, 7), rfl, by decide, Or.inl (fr_mem 121 (by decide +kernel) rfl)⟩
theorem fpX7_21 : fr_fp RX7 21 7 3 false := ⟨flX7_21, fun q h => by cases h; exact ⟨rfl, by decide +kernel⟩⟩
theorem flX7_24 : fr_fl RX7 24 7 4 := ⟨(RX7, TX7, 7), rfl, by decide, Or.inl (fr_mem 124 (by decide +kernel) rfl)⟩
theorem fpX7_24 : fr_fp RX7 24 7 4 true := ⟨flX7_24, fun q h => by cases h; exact ⟨rfl, by decide +kernel⟩⟩
theorem flX7_28 : fr_fl RX7 28 7 5 := ⟨(RX7, TX7, 7), rfl, by decide, Or.inl (fr_mem 128 (by decide +kernel) rfl)⟩
theorem fpX7_28 : fr_fp RX7 28 7 5 true := ⟨flX7_28, fun q h => by cases h; exact ⟨rfl, by decide +kernel⟩⟩
theorem flX7_31 : fr_fl RX7 31 7 6 := ⟨(RX7, TX7, 7), rfl, by decide, Or.inl (fr_mem 131 (by decide +kernel) rfl)⟩
theorem fpX7_31 : fr_fp RX7 31 7 6 false := ⟨flX7_31, fun q h => by cases h; exact ⟨rfl, by decide +kernel⟩⟩
theorem flX0_9 : fr_fl RX0 9 0 0 := ⟨(RX0, TX0, 4), rfl, by decide, Or.inl (fr_mem 156 (by decide +kernel) rfl)⟩
theorem fpX0_9 : fr_fp RX0 9 0 0 false := ⟨flX0_9, fun q h => by cases h; exact ⟨rfl, by decide +kernel⟩⟩
theorem flX0_15 : fr_fl RX0 15 0 1 := ⟨(RX0, TX0, 4), rfl, by decide, Or.inl (fr_mem 158 (by decide +kernel) rfl)⟩
theorem fpX0_15 : fr_fp RX0 15 0 1 false := ⟨flX0_15, fun q h => by cases h; exact ⟨rfl, by decide +kernel⟩⟩
theorem flX0_18 : fr_fl RX0 18 0 2 := ⟨(RX0, TX0, 4), rfl, by decide, Or.inl (fr_mem 160 (by decide +kernel) rfl)⟩
theorem fpX0_18 : fr_fp RX0 18 0 2 false := ⟨flX0_18, fun q h => by cases h; exact ⟨rfl, by decide +kernel⟩⟩
theorem flX0_21 : fr_fl RX0 21 0 3 := ⟨(RX0, TX0, 4), rfl, by decide, Or.inl (fr_mem 163 (by decide +kernel) rfl)⟩
theorem fpX0_21 : fr_fp RX0 21 0 3 false := ⟨flX0_21, fun q h => by cases h; exact ⟨rfl, by decide +kernel⟩⟩
theorem flX1_11 : fr_fl RX1 11 1 0 := ⟨(RX1, TX1, 8), rfl, by decide, Or.inl (fr_mem 174 (by decide +kernel) rfl)⟩
theorem flX1_19 : fr_fl RX1 19 1 1 := ⟨(RX1, TX1, 8), rfl, by decide, Or.inl (fr_mem 179 (by decide +kernel) rfl)⟩
theorem flX1_23 : fr_fl RX1 23 1 2 := ⟨(RX1, TX1, 8), rfl, by decide, Or.inl (fr_mem 182 (by decide +kernel) rfl)⟩
theorem flX1_58 : fr_fl RX1 58 1 3 := ⟨(RX1, TX1, 8), rfl, by decide, Or.inl (fr_mem 186 (by decide +kernel) rfl)⟩
theorem fpX1_58 : fr_fp RX1 58 1 3 false := ⟨flX1_58, fun q h => by cases h; exact ⟨rfl, by decide +kernel⟩⟩
theorem flX1_61 : fr_fl RX1 61 1 4 := ⟨(RX1, TX1, 8), rfl, by decide, Or.inl (fr_mem 190 (by decide +kernel) rfl)⟩
theorem fpX1_61 : fr_fp RX1 61 1 4 false := ⟨flX1_61, fun q h => by cases h; exact ⟨rfl, by decide +kernel⟩⟩
theorem flX1_27 : fr_fl RX1 27 1 5 := ⟨(RX1, TX1, 8), rfl, by decide, Or.inl (fr_mem 192 (by decide +kernel) rfl)⟩
theorem fpX1_27 : fr_fp RX1 27 1 5 false := ⟨flX1_27, fun q h => by cases h; exact ⟨rfl, by decide +kernel⟩⟩
theorem flX1_64 : fr_fl RX1 64 1 6 := ⟨(RX1, TX1, 8), rfl, by decide, Or.inl (fr_mem 194 (by decide +kernel) rfl)⟩
theorem fpX1_64 : fr_fp RX1 64 1 6 false := ⟨flX1_64, fun q h => by cases h; exact ⟨rfl, by decide +kernel⟩⟩
theorem flX1_67 : fr_fl RX1 67 1 7 := ⟨(RX1, TX1, 8), rfl, by decide, Or.inl (fr_mem 196 (by decide +kernel) rfl)⟩
theorem fpX1_67 : fr_fp RX1 67 1 7 false := ⟨flX1_67, fun q h => by cases h; exact ⟨rfl, by decide +kernel⟩⟩
theorem flX6_9 : fr_fl RX6 9 6 0 := ⟨(RX6, TX6, 6), rfl, by decide, Or.inl (fr_mem 221 (by decide +kernel) rfl)⟩
theorem flX6_15 : fr_fl RX6 15 6 1 := ⟨(RX6, TX6, 6), rfl, by decide, Or.inl (fr_mem 222 (by decide +kernel) rfl)⟩
theorem flX6_18 : fr_fl RX6 18 6 2 := ⟨(RX6, TX6, 6), rfl, by decide, Or.inl (fr_mem 223 (by decide +kernel) rfl)⟩
theorem flX6_21 : fr_fl RX6 21 6 3 := ⟨(RX6, TX6, 6), rfl, by decide, Or.inl (fr_mem 224 (by decide +kernel) rfl)⟩
theorem flX6_24 : fr_fl RX6 24 6 4 := ⟨(RX6, TX6, 6), rfl, by decide, Or.inl (fr_mem 225 (by decide +kernel) rfl)⟩
theorem fpX6_24 : fr_fp RX6 24 6 4 false := ⟨flX6_24, fun q h => by cases h; exact ⟨rfl, by decide +kernel⟩⟩
theorem flX6_28 : fr_fl RX6 28 6 5 := ⟨(RX6, TX6, 6), rfl, by decide, Or.inl (fr_mem 227 (by decide +kernel) rfl)⟩
theorem fpX6_28 : fr_fp RX6 28 6 5 false := ⟨flX6_28, fun q h => by cases h; exact ⟨rfl, by decide +kernel⟩⟩
theorem flX3_9 : fr_fl RX3 9 3 0 := ⟨(RX3, TX3, 11), rfl, by decide, Or.inl (fr_mem 249 (by decide +kernel) rfl)⟩
theorem flX3_15 : fr_fl RX3 15 3 1 := ⟨(RX3, TX3, 11), rfl, by decide, Or.inl (fr_mem 250 (by decide +kernel) rfl)⟩
theorem flX3_18 : fr_fl RX3 18 3 2 := ⟨(RX3, TX3, 11), rfl, by decide, Or.inl (fr_mem 252 (by decide +kernel) rfl)⟩
theorem flX3_21 : fr_fl RX3 21 3 3 := ⟨(RX3, TX3, 11), rfl, by decide, Or.inl (fr_mem 254 (by decide +kernel) rfl)⟩
theorem flX3_24 : fr_fl RX3 24 3 4 := ⟨(RX3, TX3, 11), rfl, by decide, Or.inl (fr_mem 256 (by decide +kernel) rfl)⟩
theorem flX3_27 : fr_fl RX3 27 3 5 := ⟨(RX3, TX3, 11), rfl, by decide, Or.inl (fr_mem 258 (by decide +kernel) rfl)⟩
theorem flX3_30 : fr_fl RX3 30 3 6 := ⟨(RX3, TX3, 11), rfl, by decide, Or.inl (fr_mem 259 (by decide +kernel) rfl)⟩
theorem flX3_33 : fr_fl RX3 33 3 7 := ⟨(RX3, TX3, 11), rfl, by decide, Or.inl (fr_mem 261 (by decide +kernel) rfl)⟩
theorem flX3_42 : fr_fl RX3 42 3 8 := ⟨(RX3, TX3, 11), rfl, by decide, Or.inl (fr_mem 262 (by decide +kernel) rfl)⟩
theorem fpX3_42 : fr_fp RX3 42 3 8 false := ⟨flX3_42, fun q h => by cases h; exact ⟨rfl, by decide +kernel⟩⟩
theorem flX3_46 : fr_fl RX3 46 3 9 := ⟨(RX3, TX3, 11), rfl, by decide, Or.inl (fr_mem 266 (by decide +kernel) rfl)⟩
theorem fpX3_46 : fr_fp RX3 46 3 9 false := ⟨flX3_46, fun q h => by cases h; exact ⟨rfl, by decide +kernel⟩⟩
theorem flX3_57 : fr_fl RX3 57 3 10 := ⟨(RX3, TX3, 11), rfl, by decide, Or.inl (fr_mem 269 (by decide +kernel) rfl)⟩
theorem fpX3_57 : fr_fp RX3 57 3 10 false := ⟨flX3_57, fun q h => by cases h; exact ⟨rfl, by decide +kernel⟩⟩
theorem flX2_18 : fr_fl RX2 18 2 0 := ⟨(RX2, TX2, 7), rfl, by decide, Or.inl (fr_mem 300 (by decide +kernel) rfl)⟩
theorem flX2_9 : fr_fl RX2 9 2 1 := ⟨(RX2, TX2, 7), rfl, by decide, Or.inl (fr_mem 301 (by decide +kernel) rfl)⟩
theorem flX2_15 : fr_fl RX2 15 2 2 := ⟨(RX2, TX2, 7), rfl, by decide, Or.inl (fr_mem 302 (by decide +kernel) rfl)⟩
theorem flX2_91 : fr_fl RX2 91 2 3 := ⟨(RX2, TX2, 7), rfl, by decide, Or.inl (fr_mem 304 (by decide +kernel) rfl)⟩
theorem fpX2_91 : fr_fp RX2 91 2 3 false := ⟨flX2_91, fun q h => by cases h; exact ⟨rfl, by decide +kernel⟩⟩
theorem flX2_94 : fr_fl RX2 94 2 4 := ⟨(RX2, TX2, 7), rfl, by decide, Or.inl (fr_mem 306 (by decide +kernel) rfl)⟩
theorem fpX2_94 : fr_fp RX2 94 2 4 false := ⟨flX2_94, fun q h => by cases h; exact ⟨rfl, by decide +kernel⟩⟩
theorem flX2_22 : fr_fl RX2 22 2 5 := ⟨(RX2, TX2, 7), rfl, by decide, Or.inl (fr_mem 308 (by decide +kernel) rfl)⟩
theorem fpX2_22 : fr_fp RX2 22 2 5 false := ⟨flX2_22, fun q h => by cases h; exact ⟨rfl, by decide +kernel⟩⟩
theorem flX2_26 : fr_fl RX2 26 2 6 := ⟨(RX2, TX2, 7), rfl, by decide, Or.inl (fr_mem 309 (by decide +kernel) rfl)⟩
theorem fpX2_26 : fr_fp RX2 26 2 6 false := ⟨flX2_26, fun q h => by cases h; exact ⟨rfl, by decide +kernel⟩⟩
theorem flX9_21 : fr_fl RX9 21 9 0 := ⟨(RX9, TX9, 6), rfl, by decide, Or.inl (fr_mem 331 (by decide +kernel) rfl)⟩
theorem flX9_9 : fr_fl RX9 9 9 1 := ⟨(RX9, TX9, 6), rfl, by decide, Or.inl (fr_mem 332 (by decide +kernel) rfl)⟩
theorem flX9_15 : fr_fl RX9 15 9 2 := ⟨(RX9, TX9, 6), rfl, by decide, Or.inl (fr_mem 333 (by decide +kernel) rfl)⟩
theorem flX9_18 : fr_fl RX9 18 9 3 := ⟨(RX9, TX9, 6), rfl, by decide, Or.inl (fr_mem 334 (by decide +kernel) rfl)⟩
theorem flX9_48 : fr_fl RX9 48 9 4 := ⟨(RX9, TX9, 6), rfl, by decide, Or.inl (fr_mem 336 (by decide +kernel) rfl)⟩
theorem fpX9_48 : fr_fp RX9 48 9 4 false := ⟨flX9_48, fun q h => by cases h; exact ⟨rfl, by decide +kernel⟩⟩
theorem flX9_83 : fr_fl RX9 83 9 5 := ⟨(RX9, TX9, 6), rfl, by decide, Or.inl (fr_mem 338 (by decide +kernel) rfl)⟩
theorem fpX9_83 : fr_fp RX9 83 9 5 false := ⟨flX9_83, fun q h => by cases h; exact ⟨rfl, by decide +kernel⟩⟩
theorem flX8_15 : fr_fl RX8 15 8 0 := ⟨(RX8, TX8, 3), rfl, by decide, Or.inl (fr_mem 359 (by decide +kernel) rfl)⟩
theorem flX8_9 : fr_fl RX8 9 8 1 := ⟨(RX8, TX8, 3), rfl, by decide, Or.inl (fr_mem 360 (by decide +kernel) rfl)⟩
theorem flX8_19 : fr_fl RX8 19 8 2 := ⟨(RX8, TX8, 3), rfl, by decide, Or.inl (fr_mem 361 (by decide +kernel) rfl)⟩
theorem fpX8_19 : fr_fp RX8 19 8 2 false := ⟨flX8_19, fun q h => by cases h; exact ⟨rfl, by decide +kernel⟩⟩
theorem flX4_19 : fr_fl RX4 19 4 0 := ⟨(RX4, TX4, 5), rfl, by decide, Or.inl (fr_mem 375 (by decide +kernel) rfl)⟩
theorem flX4_9 : fr_fl RX4 9 4 1 := ⟨(RX4, TX4, 5), rfl, by decide, Or.inl (fr_mem 376 (by decide +kernel) rfl)⟩
theorem flX4_15 : fr_fl RX4 15 4 2 := ⟨(RX4, TX4, 5), rfl, by decide, Or.inl (fr_mem 377 (by decide +kernel) rfl)⟩
theorem fpX4_15 : fr_fp RX4 15 4 2 false := ⟨flX4_15, fun q h => by cases h; exact ⟨rfl, by decide +kernel⟩⟩
theorem flX4_90 : fr_fl RX4 90 4 3 := ⟨(RX4, TX4, 5), rfl, by decide, Or.inl (fr_mem 378 (by decide +kernel) rfl)⟩
theorem fpX4_90 : fr_fp RX4 90 4 3 false := ⟨flX4_90, fun q h => by cases h; exact ⟨rfl, by decide +kernel⟩⟩
theorem flX4_93 : fr_fl RX4 93 4 4 := ⟨(RX4, TX4, 5), rfl, by decide, Or.inl (fr_mem 380 (by decide +kernel) rfl)⟩
theorem fpX4_93 : fr_fp RX4 93 4 4 false := ⟨flX4_93, fun q h => by cases h; exact ⟨rfl, by decide +kernel⟩⟩
theorem flX5_9 : fr_fl RX5 9 5 0 := ⟨(RX5, TX5, 4), rfl, by decide, Or.inl (fr_mem 398 (by decide +kernel) rfl)⟩
theorem flX5_28 : fr_fl RX5 28 5 1 := ⟨(RX5, TX5, 4), rfl, by decide, Or.inl (fr_mem 400 (by decide +kernel) rfl)⟩
theorem fpX5_28 : fr_fp RX5 28 5 1 true := ⟨flX5_28, fun q h => by cases h; exact ⟨rfl, by decide +kernel⟩⟩
theorem flX5_21 : fr_fl RX5 21 5 2 := ⟨(RX5, TX5, 4), rfl, by decide, Or.inl (fr_mem 402 (by decide +kernel) rfl)⟩
theorem fpX5_21 : fr_fp RX5 21 5 2 false := ⟨flX5_21, fun q h => by cases h; exact ⟨rfl, by decide +kernel⟩⟩
theorem flX5_25 : fr_fl RX5 25 5 3 := ⟨(RX5, TX5, 4), rfl, by decide, Or.inl (fr_mem 404 (by decide +kernel) rfl)⟩
theorem fpX5_25 : fr_fp RX5 25 5 3 false := ⟨flX5_25, fun q h => by cases h; exact ⟨rfl, by decide +kernel⟩⟩
theorem flX10_12 : fr_fl RX10 12 10 0 := ⟨(RX10, TX10, 11), rfl, by decide, Or.inl (fr_mem 416 (by decide +kernel) rfl)⟩
theorem flX10_16 : fr_fl RX10 16 10 1 := ⟨(RX10, TX10, 11), rfl, by decide, Or.inl (fr_mem 417 (by decide +kernel) rfl)⟩
theorem flX10_231 : fr_fl RX10 231 10 2 := ⟨(RX10, TX10, 11), rfl, by decide, Or.inl (fr_mem 418 (by decide +kernel) rfl)⟩
theorem fpX10_231 : fr_fp RX10 231 10 2 true := ⟨flX10_231, fun q h => by cases h; exact ⟨rfl, by decide +kernel⟩⟩
theorem flX10_22 : fr_fl RX10 22 10 3 := ⟨(RX10, TX10, 11), rfl, by decide, Or.inl (fr_mem 419 (by decide +kernel) rfl)⟩
theorem flX10_28 : fr_fl RX10 28 10 4 := ⟨(RX10, TX10, 11), rfl, by decide, Or.inl (fr_mem 420 (by decide +kernel) rfl)⟩
theorem flX10_35 : fr_fl RX10 35 10 5 := ⟨(RX10, TX10, 11), rfl, by decide, Or.inl (fr_mem 421 (by decide +kernel) rfl)⟩
theorem flX10_44 : fr_fl RX10 44 10 6 := ⟨(RX10, TX10, 11), rfl, by decide, Or.inl (fr_mem 422 (by decide +kernel) rfl)⟩
theorem flX10_51 : fr_fl RX10 51 10 7 := ⟨(RX10, TX10, 11), rfl, by decide, Or.inl (fr_mem 423 (by decide +kernel) rfl)⟩
theorem flX10_58 : fr_fl RX10 58 10 8 := ⟨(RX10, TX10, 11), rfl, by decide, Or.inl (fr_mem 424 (by decide +kernel) rfl)⟩
theorem flX10_67 : fr_fl RX10 67 10 9 := ⟨(RX10, TX10, 11), rfl, by decide, Or.inl (fr_mem 425 (by decide +kernel) rfl)⟩
theorem flX10_71 : fr_fl RX10 71 10 10 := ⟨(RX10, TX10, 11), rfl, by decide, Or.inl (fr_mem 426 (by decide +kernel) rfl)⟩
theorem flX11_7 : fr_fl RX11 7 11 0 := ⟨(RX11, TX11, 18), rfl, by decide, Or.inl (fr_mem 1104 (by decide +kernel) rfl)⟩
theorem flX11_229 : fr_fl RX11 229 11 1 := ⟨(RX11, TX11, 18), rfl, by decide, Or.inl (fr_mem 1105 (by decide +kernel) rfl)⟩
theorem fpX11_229 : fr_fp RX11 229 11 1 true := ⟨flX11_229, fun q h => by cases h; exact ⟨rfl, by decide +kernel⟩⟩
theorem flX11_13 : fr_fl RX11 13 11 2 := ⟨(RX11, TX11, 18), rfl, by decide, Or.inl (fr_mem 1106 (by decide +kernel) rfl)⟩
theorem flX11_96 : fr_fl RX11 96 11 3 := ⟨(RX11, TX11, 18), rfl, by decide, Or.inl (fr_mem 1107 (by decide +kernel) rfl)⟩
theorem fpX11_96 : fr_fp RX11 96 11 3 false := ⟨flX11_96, fun q h => by cases h; exact ⟨rfl, by decide +kernel⟩⟩
theorem flX11_100 : fr_fl RX11 100 11 4 := ⟨(RX11, TX11, 18), rfl, by decide, Or.inl (fr_mem 1108 (by decide +kernel) rfl)⟩
theorem fpX11_100 : fr_fp RX11 100 11 4 false := ⟨flX11_100, fun q h => by cases h; exact ⟨rfl, by decide +kernel⟩⟩
theorem flX11_111 : fr_fl RX11 111 11 5 := ⟨(RX11, TX11, 18), rfl, by decide, Or.inl (fr_mem 1109 (by decide +kernel) rfl)⟩
theorem fpX11_111 : fr_fp RX11 111 11 5 false := ⟨flX11_111, fun q h => by cases h; exact ⟨rfl, by decide +kernel⟩⟩
theorem flX11_16 : fr_fl RX11 16 11 6 := ⟨(RX11, TX11, 18), rfl, by decide, Or.inl (fr_mem 1110 (by decide +kernel) rfl)⟩
theorem flX11_19 : fr_fl RX11 19 11 7 := ⟨(RX11, TX11, 18), rfl, by decide, Or.inl (fr_mem 1111 (by decide +kernel) rfl)⟩
theorem flX11_22 : fr_fl RX11 22 11 8 := ⟨(RX11, TX11, 18), rfl, by decide, Or.inl (fr_mem 1112 (by decide +kernel) rfl)⟩
theorem flX11_170 : fr_fl RX11 170 11 9 := ⟨(RX11, TX11, 18), rfl, by decide, Or.inl (fr_mem 1113 (by decide +kernel) rfl)⟩
theorem fpX11_170 : fr_fp RX11 170 11 9 false := ⟨flX11_170, fun q h => by cases h; exact ⟨rfl, by decide +kernel⟩⟩
theorem flX11_25 : fr_fl RX11 25 11 10 := ⟨(RX11, TX11, 18), rfl, by decide, Or.inl (fr_mem 1114 (by decide +kernel) rfl)⟩
theorem flX11_28 : fr_fl RX11 28 11 11 := ⟨(RX11, TX11, 18), rfl, by decide, Or.inl (fr_mem 1115 (by decide +kernel) rfl)⟩
theorem flX11_32 : fr_fl RX11 32 11 12 := ⟨(RX11, TX11, 18), rfl, by decide, Or.inl (fr_mem 1116 (by decide +kernel) rfl)⟩
theorem flX11_35 : fr_fl RX11 35 11 13 := ⟨(RX11, TX11, 18), rfl, by decide, Or.inl (fr_mem 1117 (by decide +kernel) rfl)⟩
theorem flX11_38 : fr_fl RX11 38 11 14 := ⟨(RX11, TX11, 18), rfl, by decide, Or.inl (fr_mem 1118 (by decide +kernel) rfl)⟩
theorem flX11_41 : fr_fl RX11 41 11 15 := ⟨(RX11, TX11, 18), rfl, by decide, Or.inl (fr_mem 1119 (by decide +kernel) rfl)⟩
theorem flX11_45 : fr_fl RX11 45 11 16 := ⟨(RX11, TX11, 18), rfl, by decide, Or.inl (fr_mem 1120 (by decide +kernel) rfl)⟩
theorem flX11_48 : fr_fl RX11 48 11 17 := ⟨(RX11, TX11, 18), rfl, by decide, Or.inl (fr_mem 1121 (by decide +kernel) rfl)⟩
theorem flX4_45 : fr_fl RX4 45 7 0 := ⟨(RX7, TX7, 7), rfl, by decide, Or.inr (fr_memN 111 (by decide +kernel) rfl)⟩
theorem fpX4_45 : fr_fp RX4 45 7 0 false := ⟨flX4_45, fun q h => by cases h; exact ⟨rfl, by decide +kernel⟩⟩
theorem flX3_90 : fr_fl RX3 90 7 0 := ⟨(RX7, TX7, 7), rfl, by decide, Or.inr (fr_memN 112 (by decide +kernel) rfl)⟩
theorem fpX3_90 : fr_fp RX3 90 7 0 false := ⟨flX3_90, fun q h => by cases h; exact ⟨rfl, by decide +kernel⟩⟩
theorem flX1_116 : fr_fl RX1 116 7 0 := ⟨(RX7, TX7, 7), rfl, by decide, Or.inr (fr_memN 113 (by decide +kernel) rfl)⟩
theorem fpX1_116 : fr_fp RX1 116 7 0 false := ⟨flX1_116, fun q h => by cases h; exact ⟨rfl, by decide +kernel⟩⟩
theorem flX10_141 : fr_fl RX10 141 7 1 := ⟨(RX7, TX7, 7), rfl, by decide, Or.inr (fr_memN 115 (by decide +kernel) rfl)⟩
theorem fpX10_141 : fr_fp RX10 141 7 1 false := ⟨flX10_141, fun q h => by cases h; exact ⟨rfl, by decide +kernel⟩⟩
theorem flX1_106 : fr_fl RX1 106 7 1 := ⟨(RX7, TX7, 7), rfl, by decide, Or.inr (fr_memN 116 (by decide +kernel) rfl)⟩
theorem fpX1_106 : fr_fp RX1 106 7 1 false := ⟨flX1_106, fun q h => by cases h; exact ⟨rfl, by decide +kernel⟩⟩
theorem flX3_104 : fr_fl RX3 104 7 2 := ⟨(RX7, TX7, 7), rfl, by decide, Or.inr (fr_memN 118 (by decide +kernel) rfl)⟩
theorem fpX3_104 : fr_fp RX3 104 7 2 false := ⟨flX3_104, fun q h => by cases h; exact ⟨rfl, by decide +kernel⟩⟩
theorem flX4_74 : fr_fl RX4 74 7 2 := ⟨(RX7, TX7, 7), rfl, by decide, Or.inr (fr_memN 119 (by decide +kernel) rfl)⟩
theorem fpX4_74 : fr_fp RX4 74 7 2 false := ⟨flX4_74, fun q h => by cases h; exact ⟨rfl, by decide +kernel⟩⟩
theorem flX1_109 : fr_fl RX1 109 7 2 := ⟨(RX7, TX7, 7), rfl, by decide, Or.inr (fr_memN 120 (by decide +kernel) rfl)⟩
theorem fpX1_109 : fr_fp RX1 109 7 2 false := ⟨flX1_109, fun q h => by cases h; exact ⟨rfl, by decide +kernel⟩⟩
theorem flX4_77 : fr_fl RX4 77 7 3 := ⟨(RX7, TX7, 7), rfl, by decide, Or.inr (fr_memN 122 (by decide +kernel) rfl)⟩
theorem fpX4_77 : fr_fp RX4 77 7 3 false := ⟨flX4_77, fun q h => by cases h; exact ⟨rfl, by decide +kernel⟩⟩
theorem flX1_125 : fr_fl RX1 125 7 3 := ⟨(RX7, TX7, 7), rfl, by decide, Or.inr (fr_memN 123 (by decide +kernel) rfl)⟩
theorem fpX1_125 : fr_fp RX1 125 7 3 false := ⟨flX1_125, fun q h => by cases h; exact ⟨rfl, by decide +kernel⟩⟩
theorem flX3_97 : fr_fl RX3 97 7 4 := ⟨(RX7, TX7, 7), rfl, by decide, Or.inr (fr_memN 125 (by decide +kernel) rfl)⟩
theorem fpX3_97 : fr_fp RX3 97 7 4 true := ⟨flX3_97, fun q h => by cases h; exact ⟨rfl, by decide +kernel⟩⟩
theorem flX4_80 : fr_fl RX4 80 7 4 := ⟨(RX7, TX7, 7), rfl, by decide, Or.inr (fr_memN 126 (by decide +kernel) rfl)⟩
theorem fpX4_80 : fr_fp RX4 80 7 4 true := ⟨flX4_80, fun q h => by cases h; exact ⟨rfl, by decide +kernel⟩⟩
theorem flX1_117 : fr_fl RX1 117 7 4 := ⟨(RX7, TX7, 7), rfl, by decide, Or.inr (fr_memN 127 (by decide +kernel) rfl)⟩
theorem fpX1_117 : fr_fp RX1 117 7 4 true := ⟨flX1_117, fun q h => by cases h; exact ⟨rfl, by decide +kernel⟩⟩
theorem flX4_84 : fr_fl RX4 84 7 5 := ⟨(RX7, TX7, 7), rfl, by decide, Or.inr (fr_memN 129 (by decide +kernel) rfl)⟩
theorem fpX4_84 : fr_fp RX4 84 7 5 true := ⟨flX4_84, fun q h => by cases h; exact ⟨rfl, by decide +kernel⟩⟩
theorem flX1_128 : fr_fl RX1 128 7 5 := ⟨(RX7, TX7, 7), rfl, by decide, Or.inr (fr_memN 130 (by decide +kernel) rfl)⟩
theorem fpX1_128 : fr_fp RX1 128 7 5 true := ⟨flX1_128, fun q h => by cases h; exact ⟨rfl, by decide +kernel⟩⟩
theorem flX3_85 : fr_fl RX3 85 7 6 := ⟨(RX7, TX7, 7), rfl, by decide, Or.inr (fr_memN 132 (by decide +kernel) rfl)⟩
theorem fpX3_85 : fr_fp RX3 85 7 6 false := ⟨flX3_85, fun q h => by cases h; exact ⟨rfl, by decide +kernel⟩⟩
theorem flX10_147 : fr_fl RX10 147 7 6 := ⟨(RX7, TX7, 7), rfl, by decide, Or.inr (fr_memN 133 (by decide +kernel) rfl)⟩
theorem fpX10_147 : fr_fp RX10 147 7 6 false := ⟨flX10_147, fun q h => by cases h; exact ⟨rfl, by decide +kernel⟩⟩
theorem flX1_92 : fr_fl RX1 92 7 6 := ⟨(RX7, TX7, 7), rfl, by decide, Or.inr (fr_memN 134 (by decide +kernel) rfl)⟩
theorem fpX1_92 : fr_fp RX1 92 7 6 false := ⟨flX1_92, fun q h => by cases h; exact ⟨rfl, by decide +kernel⟩⟩
theorem flX1_37 : fr_fl RX1 37 0 0 := ⟨(RX0, TX0, 4), rfl, by decide, Or.inr (fr_memN 157 (by decide +kernel) rfl)⟩
theorem fpX1_37 : fr_fp RX1 37 0 0 false := ⟨flX1_37, fun q h => by cases h; exact ⟨rfl, by decide +kernel⟩⟩
theorem flX1_40 : fr_fl RX1 40 0 1 := ⟨(RX0, TX0, 4), rfl, by decide, Or.inr (fr_memN 159 (by decide +kernel) rfl)⟩
theorem fpX1_40 : fr_fp RX1 40 0 1 false := ⟨flX1_40, fun q h => by cases h; exact ⟨rfl, by decide +kernel⟩⟩
theorem flX1_43 : fr_fl RX1 43 0 2 := ⟨(RX0, TX0, 4), rfl, by decide, Or.inr (fr_memN 161 (by decide +kernel) rfl)⟩
theorem fpX1_43 : fr_fp RX1 43 0 2 false := ⟨flX1_43, fun q h => by cases h; exact ⟨rfl, by decide +kernel⟩⟩
theorem flX3_72 : fr_fl RX3 72 0 2 := ⟨(RX0, TX0, 4), rfl, by decide, Or.inr (fr_memN 162 (by decide +kernel) rfl)⟩
theorem fpX3_72 : fr_fp RX3 72 0 2 false := ⟨flX3_72, fun q h => by cases h; exact ⟨rfl, by decide +kernel⟩⟩
theorem flX1_46 : fr_fl RX1 46 0 3 := ⟨(RX0, TX0, 4), rfl, by decide, Or.inr (fr_memN 164 (by decide +kernel) rfl)⟩
theorem fpX1_46 : fr_fp RX1 46 0 3 false := ⟨flX1_46, fun q h => by cases h; exact ⟨rfl, by decide +kernel⟩⟩
theorem flX3_81 : fr_fl RX3 81 1 0 := ⟨(RX1, TX1, 8), rfl, by decide, Or.inr (fr_memN 175 (by decide +kernel) rfl)⟩
theorem flX4_41 : fr_fl RX4 41 1 0 := ⟨(RX1, TX1, 8), rfl, by decide, Or.inr (fr_memN 176 (by decide +kernel) rfl)⟩
theorem flX6_54 : fr_fl RX6 54 1 0 := ⟨(RX1, TX1, 8), rfl, by decide, Or.inr (fr_memN 177 (by decide +kernel) rfl)⟩
theorem flX10_122 : fr_fl RX10 122 1 0 := ⟨(RX1, TX1, 8), rfl, by decide, Or.inr (fr_memN 178 (by decide +kernel) rfl)⟩
theorem flX3_68 : fr_fl RX3 68 1 1 := ⟨(RX1, TX1, 8), rfl, by decide, Or.inr (fr_memN 180 (by decide +kernel) rfl)⟩
theorem flX10_109 : fr_fl RX10 109 1 1 := ⟨(RX1, TX1, 8), rfl, by decide, Or.inr (fr_memN 181 (by decide +kernel) rfl)⟩
theorem flX10_135 : fr_fl RX10 135 1 2 := ⟨(RX1, TX1, 8), rfl, by decide, Or.inr (fr_memN 183 (by decide +kernel) rfl)⟩
theorem flX3_36 : fr_fl RX3 36 1 3 := ⟨(RX1, TX1, 8), rfl, by decide, Or.inr (fr_memN 184 (by decide +kernel) rfl)⟩
theorem fpX3_36 : fr_fp RX3 36 1 3 false := ⟨flX3_36, fun q h => by cases h; exact ⟨rfl, by decide +kernel⟩⟩
theorem flX10_80 : fr_fl RX10 80 1 3 := ⟨(RX1, TX1, 8), rfl, by decide, Or.inr (fr_memN 185 (by decide +kernel) rfl)⟩
theorem fpX10_80 : fr_fp RX10 80 1 3 false := ⟨flX10_80, fun q h => by cases h; exact ⟨rfl, by decide +kernel⟩⟩
theorem flX4_35 : fr_fl RX4 35 1 3 := ⟨(RX1, TX1, 8), rfl, by decide, Or.inr (fr_memN 187 (by decide +kernel) rfl)⟩
theorem fpX4_35 : fr_fp RX4 35 1 3 false := ⟨flX4_35, fun q h => by cases h; exact ⟨rfl, by decide +kernel⟩⟩
theorem flX6_66 : fr_fl RX6 66 1 3 := ⟨(RX1, TX1, 8), rfl, by decide, Or.inr (fr_memN 188 (by decide +kernel) rfl)⟩
theorem fpX6_66 : fr_fp RX6 66 1 3 false := ⟨flX6_66, fun q h => by cases h; exact ⟨rfl, by decide +kernel⟩⟩
theorem flX3_43 : fr_fl RX3 43 1 4 := ⟨(RX1, TX1, 8), rfl, by decide, Or.inr (fr_memN 189 (by decide +kernel) rfl)⟩
theorem fpX3_43 : fr_fp RX3 43 1 4 false := ⟨flX3_43, fun q h => by cases h; exact ⟨rfl, by decide +kernel⟩⟩
theorem flX10_99 : fr_fl RX10 99 1 4 := ⟨(RX1, TX1, 8), rfl, by decide, Or.inr (fr_memN 191 (by decide +kernel) rfl)⟩
theorem fpX10_99 : fr_fp RX10 99 1 4 false := ⟨flX10_99, fun q h => by cases h; exact ⟨rfl, by decide +kernel⟩⟩
theorem flX10_198 : fr_fl RX10 198 1 5 := ⟨(RX1, TX1, 8), rfl, by decide, Or.inr (fr_memN 193 (by decide +kernel) rfl)⟩
theorem fpX10_198 : fr_fp RX10 198 1 5 false := ⟨flX10_198, fun q h => by cases h; exact ⟨rfl, by decide +kernel⟩⟩
theorem flX10_169 : fr_fl RX10 169 1 6 := ⟨(RX1, TX1, 8), rfl, by decide, Or.inr (fr_memN 195 (by decide +kernel) rfl)⟩
theorem fpX10_169 : fr_fp RX10 169 1 6 false := ⟨flX10_169, fun q h => by cases h; exact ⟨rfl, by decide +kernel⟩⟩
theorem flX10_172 : fr_fl RX10 172 1 7 := ⟨(RX1, TX1, 8), rfl, by decide, Or.inr (fr_memN 197 (by decide +kernel) rfl)⟩
theorem fpX10_172 : fr_fp RX10 172 1 7 false := ⟨flX10_172, fun q h => by cases h; exact ⟨rfl, by decide +kernel⟩⟩
theorem flX10_156 : fr_fl RX10 156 6 4 := ⟨(RX6, TX6, 6), rfl, by decide, Or.inr (fr_memN 226 (by decide +kernel) rfl)⟩
theorem fpX10_156 : fr_fp RX10 156 6 4 false := ⟨flX10_156, fun q h => by cases h; exact ⟨rfl, by decide +kernel⟩⟩
theorem flX9_74 : fr_fl RX9 74 3 1 := ⟨(RX3, TX3, 11), rfl, by decide, Or.inr (fr_memN 251 (by decide +kernel) rfl)⟩
theorem flX9_45 : fr_fl RX9 45 3 2 := ⟨(RX3, TX3, 11), rfl, by decide, Or.inr (fr_memN 253 (by decide +kernel) rfl)⟩
theorem flX9_42 : fr_fl RX9 42 3 3 := ⟨(RX3, TX3, 11), rfl, by decide, Or.inr (fr_memN 255 (by decide +kernel) rfl)⟩
theorem flX9_55 : fr_fl RX9 55 3 4 := ⟨(RX3, TX3, 11), rfl, by decide, Or.inr (fr_memN 257 (by decide +kernel) rfl)⟩
theorem flX9_71 : fr_fl RX9 71 3 6 := ⟨(RX3, TX3, 11), rfl, by decide, Or.inr (fr_memN 260 (by decide +kernel) rfl)⟩
theorem flX2_35 : fr_fl RX2 35 3 8 := ⟨(RX3, TX3, 11), rfl, by decide, Or.inr (fr_memN 263 (by decide +kernel) rfl)⟩
theorem fpX2_35 : fr_fp RX2 35 3 8 false := ⟨flX2_35, fun q h => by cases h; exact ⟨rfl, by decide +kernel⟩⟩
theorem flX9_36 : fr_fl RX9 36 3 8 := ⟨(RX3, TX3, 11), rfl, by decide, Or.inr (fr_memN 264 (by decide +kernel) rfl)⟩
theorem fpX9_36 : fr_fp RX9 36 3 8 false := ⟨flX9_36, fun q h => by cases h; exact ⟨rfl, by decide +kernel⟩⟩
theorem flX8_38 : fr_fl RX8 38 3 8 := ⟨(RX3, TX3, 11), rfl, by decide, Or.inr (fr_memN 265 (by decide +kernel) rfl)⟩
theorem fpX8_38 : fr_fp RX8 38 3 8 false := ⟨flX8_38, fun q h => by cases h; exact ⟨rfl, by decide +kernel⟩⟩
theorem flX2_40 : fr_fl RX2 40 3 9 := ⟨(RX3, TX3, 11), rfl, by decide, Or.inr (fr_memN 267 (by decide +kernel) rfl)⟩
theorem fpX2_40 : fr_fp RX2 40 3 9 false := ⟨flX2_40, fun q h => by cases h; exact ⟨rfl, by decide +kernel⟩⟩
theorem flX10_204 : fr_fl RX10 204 3 9 := ⟨(RX3, TX3, 11), rfl, by decide, Or.inr (fr_memN 268 (by decide +kernel) rfl)⟩
theorem fpX10_204 : fr_fp RX10 204 3 9 false := ⟨flX10_204, fun q h => by cases h; exact ⟨rfl, by decide +kernel⟩⟩
theorem flX8_51 : fr_fl RX8 51 3 10 := ⟨(RX3, TX3, 11), rfl, by decide, Or.inr (fr_memN 270 (by decide +kernel) rfl)⟩
theorem fpX8_51 : fr_fp RX8 51 3 10 false := ⟨flX8_51, fun q h => by cases h; exact ⟨rfl, by decide +kernel⟩⟩
theorem flX10_213 : fr_fl RX10 213 2 2 := ⟨(RX2, TX2, 7), rfl, by decide, Or.inr (fr_memN 303 (by decide +kernel) rfl)⟩
theorem flX10_265 : fr_fl RX10 265 2 3 := ⟨(RX2, TX2, 7), rfl, by decide, Or.inr (fr_memN 305 (by decide +kernel) rfl)⟩
theorem fpX10_265 : fr_fp RX10 265 2 3 false := ⟨flX10_265, fun q h => by cases h; exact ⟨rfl, by decide +kernel⟩⟩
theorem flX10_268 : fr_fl RX10 268 2 4 := ⟨(RX2, TX2, 7), rfl, by decide, Or.inr (fr_memN 307 (by decide +kernel) rfl)⟩
theorem fpX10_268 : fr_fp RX10 268 2 4 false := ⟨flX10_268, fun q h => by cases h; exact ⟨rfl, by decide +kernel⟩⟩
theorem flX10_255 : fr_fl RX10 255 9 3 := ⟨(RX9, TX9, 6), rfl, by decide, Or.inr (fr_memN 335 (by decide +kernel) rfl)⟩
theorem flX10_252 : fr_fl RX10 252 9 4 := ⟨(RX9, TX9, 6), rfl, by decide, Or.inr (fr_memN 337 (by decide +kernel) rfl)⟩
theorem fpX10_252 : fr_fp RX10 252 9 4 false := ⟨flX10_252, fun q h => by cases h; exact ⟨rfl, by decide +kernel⟩⟩
theorem flX10_274 : fr_fl RX10 274 9 5 := ⟨(RX9, TX9, 6), rfl, by decide, Or.inr (fr_memN 339 (by decide +kernel) rfl)⟩
theorem fpX10_274 : fr_fp RX10 274 9 5 false := ⟨flX10_274, fun q h => by cases h; exact ⟨rfl, by decide +kernel⟩⟩
theorem flX10_288 : fr_fl RX10 288 4 3 := ⟨(RX4, TX4, 5), rfl, by decide, Or.inr (fr_memN 379 (by decide +kernel) rfl)⟩
theorem fpX10_288 : fr_fp RX10 288 4 3 false := ⟨flX10_288, fun q h => by cases h; exact ⟨rfl, by decide +kernel⟩⟩
theorem flX10_291 : fr_fl RX10 291 4 4 := ⟨(RX4, TX4, 5), rfl, by decide, Or.inr (fr_memN 381 (by decide +kernel) rfl)⟩
theorem fpX10_291 : fr_fp RX10 291 4 4 false := ⟨flX10_291, fun q h => by cases h; exact ⟨rfl, by decide +kernel⟩⟩
theorem flX10_311 : fr_fl RX10 311 5 0 := ⟨(RX5, TX5, 4), rfl, by decide, Or.inr (fr_memN 399 (by decide +kernel) rfl)⟩
theorem flX10_301 : fr_fl RX10 301 5 1 := ⟨(RX5, TX5, 4), rfl, by decide, Or.inr (fr_memN 401 (by decide +kernel) rfl)⟩
theorem fpX10_301 : fr_fp RX10 301 5 1 true := ⟨flX10_301, fun q h => by cases h; exact ⟨rfl, by decide +kernel⟩⟩
theorem flX10_305 : fr_fl RX10 305 5 2 := ⟨(RX5, TX5, 4), rfl, by decide, Or.inr (fr_memN 403 (by decide +kernel) rfl)⟩
theorem fpX10_305 : fr_fp RX10 305 5 2 false := ⟨flX10_305, fun q h => by cases h; exact ⟨rfl, by decide +kernel⟩⟩
theorem flX10_304 : fr_fl RX10 304 5 3 := ⟨(RX5, TX5, 4), rfl, by decide, Or.inr (fr_memN 405 (by decide +kernel) rfl)⟩
theorem fpX10_304 : fr_fp RX10 304 5 3 false := ⟨flX10_304, fun q h => by cases h; exact ⟨rfl, by decide +kernel⟩⟩
theorem cnX10_134 : fr_cn RX10 134 (-100001) := fr_mem 537 (by decide +kernel) rfl
theorem cnJ2_227 : fr_cn RJ2 227 (65536) := fr_mem 638 (by decide +kernel) rfl
theorem cnJ11_110 : fr_cn RJ11 110 (55232) := fr_mem 677 (by decide +kernel) rfl
theorem cnJ11_76 : fr_cn RJ11 76 (56320) := fr_mem 681 (by decide +kernel) rfl
theorem cnX1_160 : fr_cn RX1 160 (1103515245) := fr_mem 763 (by decide +kernel) rfl
theorem cnX1_161 : fr_cn RX1 161 (2147483647) := fr_mem 764 (by decide +kernel) rfl
theorem cnX1_162 : fr_cn RX1 162 (65536) := fr_mem 765 (by decide +kernel) rfl
theorem cnX8_23 : fr_cn RX8 23 (-1000000) := fr_mem 865 (by decide +kernel) rfl
theorem cnJ6_265 : fr_cn RJ6 265 (1431655765) := fr_mem 890 (by decide +kernel) rfl
theorem cnJ6_266 : fr_cn RJ6 266 (858993459) := fr_mem 891 (by decide +kernel) rfl
theorem cnJ6_267 : fr_cn RJ6 267 (252645135) := fr_mem 892 (by decide +kernel) rfl
theorem cnX10_281 : fr_cn RX10 281 (100000) := fr_mem 1026 (by decide +kernel) rfl
theorem cnX11_84 : fr_cn RX11 84 (-100001) := fr_mem 1214 (by decide +kernel) rfl
theorem cnX11_154 : fr_cn RX11 154 (65536) := fr_mem 1312 (by decide +kernel) rfl
theorem cnX11_169 : fr_cn RX11 169 (-1000000000) := fr_mem 1342 (by decide +kernel) rfl
theorem cnX11_200 : fr_cn RX11 200 (1000000000) := fr_mem 1375 (by decide +kernel) rfl
theorem cnX11_261 : fr_cn RX11 261 (100000) := fr_mem 1474 (by decide +kernel) rfl
theorem clX11_55 : fr_cl RX11 55 (3) := fr_mem 1164 (by decide +kernel) rfl
theorem clX11_65 : fr_cl RX11 65 (9) := fr_mem 1184 (by decide +kernel) rfl
