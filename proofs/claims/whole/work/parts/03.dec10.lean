theorem dX11_hired_159 : decode cX11_hired 159 = .ok (.iload 10, 2) := by decide +kernel
theorem dX11_hired_161 : decode cX11_hired 161 = .ok (.ifCond .eq 8, 3) := by decide +kernel
theorem dX11_hired_164 : decode cX11_hired 164 = .ok (.iload 8, 2) := by decide +kernel
theorem dX11_hired_166 : decode cX11_hired 166 = .ok (.goto 5, 3) := by decide +kernel
theorem dX11_hired_169 : decode cX11_hired 169 = .ok (.iload 7, 2) := by decide +kernel
theorem dX11_hired_171 : decode cX11_hired 171 = .ok (.istore 7, 2) := by decide +kernel
theorem dX11_hired_173 : decode cX11_hired 173 = .ok (.iload 10, 2) := by decide +kernel
theorem dX11_hired_175 : decode cX11_hired 175 = .ok (.ifCond .eq 12, 3) := by decide +kernel
theorem dX11_hired_178 : decode cX11_hired 178 = .ok (.aload_n 0, 1) := by decide +kernel
theorem dX11_hired_179 : decode cX11_hired 179 = .ok (.iload 9, 2) := by decide +kernel
theorem dX11_hired_181 : decode cX11_hired 181 = .ok (.invokevirtual 179, 3) := by decide +kernel
theorem dX11_hired_184 : decode cX11_hired 184 = .ok (.goto 5, 3) := by decide +kernel
theorem dX11_hired_187 : decode cX11_hired 187 = .ok (.iload 6, 2) := by decide +kernel
theorem dX11_hired_189 : decode cX11_hired 189 = .ok (.istore 6, 2) := by decide +kernel
theorem dX11_hired_191 : decode cX11_hired 191 = .ok (.iinc 8 1, 3) := by decide +kernel
theorem dX11_hired_194 : decode cX11_hired 194 = .ok (.goto (-128), 3) := by decide +kernel
theorem dX11_hired_197 : decode cX11_hired 197 = .ok (.iload 6, 2) := by decide +kernel
theorem dX11_hired_199 : decode cX11_hired 199 = .ok (.ldc 200, 2) := by decide +kernel
theorem dX11_hired_201 : decode cX11_hired 201 = .ok (.if_icmp .ne 6, 3) := by decide +kernel
theorem dX11_hired_204 : decode cX11_hired 204 = .ok (.bipush (-4), 2) := by decide +kernel
theorem dX11_hired_206 : decode cX11_hired 206 = .ok (.ireturn, 1) := by decide +kernel
theorem dX11_hired_207 : decode cX11_hired 207 = .ok (.aload_n 0, 1) := by decide +kernel
theorem dX11_hired_208 : decode cX11_hired 208 = .ok (.iload 7, 2) := by decide +kernel
theorem dX11_hired_210 : decode cX11_hired 210 = .ok (.aload_n 0, 1) := by decide +kernel
theorem dX11_hired_211 : decode cX11_hired 211 = .ok (.invokevirtual 184, 3) := by decide +kernel
theorem dX11_hired_214 : decode cX11_hired 214 = .ok (.iconst 0, 1) := by decide +kernel
theorem dX11_hired_215 : decode cX11_hired 215 = .ok (.invokevirtual 176, 3) := by decide +kernel
theorem dX11_hired_218 : decode cX11_hired 218 = .ok (.pop, 1) := by decide +kernel
theorem dX11_hired_219 : decode cX11_hired 219 = .ok (.iload 4, 2) := by decide +kernel
theorem dX11_hired_221 : decode cX11_hired 221 = .ok (.ifCond .ge 8, 3) := by decide +kernel
theorem dX11_hired_224 : decode cX11_hired 224 = .ok (.iload 6, 2) := by decide +kernel
theorem dX11_hired_226 : decode cX11_hired 226 = .ok (.goto 10, 3) := by decide +kernel
theorem dX11_hired_229 : decode cX11_hired 229 = .ok (.aload_n 0, 1) := by decide +kernel
theorem dX11_hired_230 : decode cX11_hired 230 = .ok (.getfield 19, 3) := by decide +kernel
theorem dX11_hired_233 : decode cX11_hired 233 = .ok (.iload 4, 2) := by decide +kernel
theorem dX11_hired_235 : decode cX11_hired 235 = .ok (.iaload, 1) := by decide +kernel
theorem dX11_hired_236 : decode cX11_hired 236 = .ok (.ireturn, 1) := by decide +kernel
theorem dX11_night_0 : decode cX11_night 0 = .ok (.iload_n 1, 1) := by decide +kernel
theorem dX11_night_1 : decode cX11_night 1 = .ok (.invokestatic 237, 3) := by decide +kernel
theorem dX11_night_4 : decode cX11_night 4 = .ok (.ifCond .eq 21, 3) := by decide +kernel
theorem dX11_night_7 : decode cX11_night 7 = .ok (.iload_n 2, 1) := by decide +kernel
theorem dX11_night_8 : decode cX11_night 8 = .ok (.invokestatic 240, 3) := by decide +kernel
theorem dX11_night_11 : decode cX11_night 11 = .ok (.ifCond .eq 14, 3) := by decide +kernel
theorem dX11_night_14 : decode cX11_night 14 = .ok (.iload 4, 2) := by decide +kernel
theorem dX11_night_16 : decode cX11_night 16 = .ok (.i2l, 1) := by decide +kernel
theorem dX11_night_17 : decode cX11_night 17 = .ok (.lconst 0, 1) := by decide +kernel
theorem dX11_night_18 : decode cX11_night 18 = .ok (.lconst 1, 1) := by decide +kernel
theorem dX11_night_19 : decode cX11_night 19 = .ok (.invokestatic 51, 3) := by decide +kernel
theorem dX11_night_22 : decode cX11_night 22 = .ok (.ifCond .ne 5, 3) := by decide +kernel
theorem dX11_night_25 : decode cX11_night 25 = .ok (.iconst (-1), 1) := by decide +kernel
theorem dX11_night_26 : decode cX11_night 26 = .ok (.ireturn, 1) := by decide +kernel
theorem dX11_night_27 : decode cX11_night 27 = .ok (.aload_n 0, 1) := by decide +kernel
theorem dX11_night_28 : decode cX11_night 28 = .ok (.iload_n 1, 1) := by decide +kernel
theorem dX11_night_29 : decode cX11_night 29 = .ok (.iload_n 2, 1) := by decide +kernel
theorem dX11_night_30 : decode cX11_night 30 = .ok (.iload_n 3, 1) := by decide +kernel
theorem dX11_night_31 : decode cX11_night 31 = .ok (.aload_n 0, 1) := by decide +kernel
theorem dX11_night_32 : decode cX11_night 32 = .ok (.getfield 7, 3) := by decide +kernel
theorem dX11_night_35 : decode cX11_night 35 = .ok (.iconst 0, 1) := by decide +kernel
theorem dX11_night_36 : decode cX11_night 36 = .ok (.iaload, 1) := by decide +kernel
theorem dX11_night_37 : decode cX11_night 37 = .ok (.invokevirtual 243, 3) := by decide +kernel
theorem dX11_night_40 : decode cX11_night 40 = .ok (.istore 5, 2) := by decide +kernel
theorem dX11_night_42 : decode cX11_night 42 = .ok (.iload 5, 2) := by decide +kernel
theorem dX11_night_44 : decode cX11_night 44 = .ok (.ifCond .eq 6, 3) := by decide +kernel
theorem dX11_night_47 : decode cX11_night 47 = .ok (.iload 5, 2) := by decide +kernel
theorem dX11_night_49 : decode cX11_night 49 = .ok (.ireturn, 1) := by decide +kernel
theorem dX11_night_50 : decode cX11_night 50 = .ok (.iconst 0, 1) := by decide +kernel
theorem dX11_night_51 : decode cX11_night 51 = .ok (.istore 6, 2) := by decide +kernel
theorem dX11_night_53 : decode cX11_night 53 = .ok (.aload_n 0, 1) := by decide +kernel
theorem dX11_night_54 : decode cX11_night 54 = .ok (.invokevirtual 184, 3) := by decide +kernel
theorem dX11_night_57 : decode cX11_night 57 = .ok (.istore 7, 2) := by decide +kernel
theorem dX11_night_59 : decode cX11_night 59 = .ok (.iconst 0, 1) := by decide +kernel
theorem dX11_night_60 : decode cX11_night 60 = .ok (.istore 8, 2) := by decide +kernel
theorem dX11_night_62 : decode cX11_night 62 = .ok (.iload 8, 2) := by decide +kernel
theorem dX11_night_64 : decode cX11_night 64 = .ok (.aload_n 0, 1) := by decide +kernel
theorem dX11_night_65 : decode cX11_night 65 = .ok (.invokevirtual 173, 3) := by decide +kernel
theorem dX11_night_68 : decode cX11_night 68 = .ok (.if_icmp .ge 144, 3) := by decide +kernel
theorem dX11_night_71 : decode cX11_night 71 = .ok (.aload_n 0, 1) := by decide +kernel
theorem dX11_night_72 : decode cX11_night 72 = .ok (.iload 8, 2) := by decide +kernel
theorem dX11_night_74 : decode cX11_night 74 = .ok (.aload_n 0, 1) := by decide +kernel
theorem dX11_night_75 : decode cX11_night 75 = .ok (.invokevirtual 184, 3) := by decide +kernel
theorem dX11_night_78 : decode cX11_night 78 = .ok (.iconst 0, 1) := by decide +kernel
theorem dX11_night_79 : decode cX11_night 79 = .ok (.invokevirtual 176, 3) := by decide +kernel
theorem dX11_night_82 : decode cX11_night 82 = .ok (.istore 9, 2) := by decide +kernel
theorem dX11_night_84 : decode cX11_night 84 = .ok (.iload 9, 2) := by decide +kernel
theorem dX11_night_86 : decode cX11_night 86 = .ok (.ifCond .lt 7, 3) := by decide +kernel
theorem dX11_night_89 : decode cX11_night 89 = .ok (.iconst 1, 1) := by decide +kernel
theorem dX11_night_90 : decode cX11_night 90 = .ok (.goto 4, 3) := by decide +kernel
theorem dX11_night_93 : decode cX11_night 93 = .ok (.iconst 0, 1) := by decide +kernel
theorem dX11_night_94 : decode cX11_night 94 = .ok (.istore 10, 2) := by decide +kernel
theorem dX11_night_96 : decode cX11_night 96 = .ok (.iconst 0, 1) := by decide +kernel
theorem dX11_night_97 : decode cX11_night 97 = .ok (.istore 11, 2) := by decide +kernel
theorem dX11_night_99 : decode cX11_night 99 = .ok (.iload 11, 2) := by decide +kernel
theorem dX11_night_101 : decode cX11_night 101 = .ok (.aload_n 0, 1) := by decide +kernel
theorem dX11_night_102 : decode cX11_night 102 = .ok (.getfield 7, 3) := by decide +kernel
theorem dX11_night_105 : decode cX11_night 105 = .ok (.iconst 0, 1) := by decide +kernel
theorem dX11_night_106 : decode cX11_night 106 = .ok (.iaload, 1) := by decide +kernel
theorem dX11_night_107 : decode cX11_night 107 = .ok (.if_icmp .ge 68, 3) := by decide +kernel
theorem dX11_night_110 : decode cX11_night 110 = .ok (.iload 10, 2) := by decide +kernel
theorem dX11_night_112 : decode cX11_night 112 = .ok (.ifCond .eq 63, 3) := by decide +kernel
theorem dX11_night_115 : decode cX11_night 115 = .ok (.aload_n 0, 1) := by decide +kernel
theorem dX11_night_116 : decode cX11_night 116 = .ok (.iload_n 1, 1) := by decide +kernel
theorem dX11_night_117 : decode cX11_night 117 = .ok (.iload_n 3, 1) := by decide +kernel
theorem dX11_night_118 : decode cX11_night 118 = .ok (.iload 11, 2) := by decide +kernel
theorem dX11_night_120 : decode cX11_night 120 = .ok (.iadd, 1) := by decide +kernel
theorem dX11_night_121 : decode cX11_night 121 = .ok (.invokevirtual 233, 3) := by decide +kernel
theorem dX11_night_124 : decode cX11_night 124 = .ok (.lstore 12, 2) := by decide +kernel
theorem dX11_night_126 : decode cX11_night 126 = .ok (.lload 12, 2) := by decide +kernel
theorem dX11_night_128 : decode cX11_night 128 = .ok (.lconst 0, 1) := by decide +kernel
theorem dX11_night_129 : decode cX11_night 129 = .ok (.lcmp, 1) := by decide +kernel
theorem dX11_night_130 : decode cX11_night 130 = .ok (.ifCond .lt 32, 3) := by decide +kernel
theorem dX11_night_133 : decode cX11_night 133 = .ok (.lload 12, 2) := by decide +kernel
theorem dX11_night_135 : decode cX11_night 135 = .ok (.ldc2_w 69, 3) := by decide +kernel
theorem dX11_night_138 : decode cX11_night 138 = .ok (.lcmp, 1) := by decide +kernel
theorem dX11_night_139 : decode cX11_night 139 = .ok (.ifCond .ge 27, 3) := by decide +kernel
theorem dX11_night_142 : decode cX11_night 142 = .ok (.aload_n 0, 1) := by decide +kernel
theorem dX11_night_143 : decode cX11_night 143 = .ok (.iload 11, 2) := by decide +kernel
theorem dX11_night_145 : decode cX11_night 145 = .ok (.lload 12, 2) := by decide +kernel
theorem dX11_night_147 : decode cX11_night 147 = .ok (.l2i, 1) := by decide +kernel
theorem dX11_night_148 : decode cX11_night 148 = .ok (.aload_n 0, 1) := by decide +kernel
theorem dX11_night_149 : decode cX11_night 149 = .ok (.getfield 19, 3) := by decide +kernel
theorem dX11_night_152 : decode cX11_night 152 = .ok (.iload 11, 2) := by decide +kernel
theorem dX11_night_154 : decode cX11_night 154 = .ok (.iaload, 1) := by decide +kernel
theorem dX11_night_155 : decode cX11_night 155 = .ok (.iconst 0, 1) := by decide +kernel
theorem dX11_night_156 : decode cX11_night 156 = .ok (.invokevirtual 134, 3) := by decide +kernel
theorem dX11_night_159 : decode cX11_night 159 = .ok (.ifCond .le 7, 3) := by decide +kernel
theorem dX11_night_162 : decode cX11_night 162 = .ok (.iconst 1, 1) := by decide +kernel
theorem dX11_night_163 : decode cX11_night 163 = .ok (.goto 4, 3) := by decide +kernel
theorem dX11_night_166 : decode cX11_night 166 = .ok (.iconst 0, 1) := by decide +kernel
theorem dX11_night_167 : decode cX11_night 167 = .ok (.istore 10, 2) := by decide +kernel
theorem dX11_night_169 : decode cX11_night 169 = .ok (.iinc 11 1, 3) := by decide +kernel
theorem dX11_night_172 : decode cX11_night 172 = .ok (.goto (-73), 3) := by decide +kernel
theorem dX11_night_175 : decode cX11_night 175 = .ok (.iload 6, 2) := by decide +kernel
theorem dX11_night_177 : decode cX11_night 177 = .ok (.iload 10, 2) := by decide +kernel
theorem dX11_night_179 : decode cX11_night 179 = .ok (.ifCond .eq 7, 3) := by decide +kernel
theorem dX11_night_182 : decode cX11_night 182 = .ok (.iconst 1, 1) := by decide +kernel
theorem dX11_night_183 : decode cX11_night 183 = .ok (.goto 4, 3) := by decide +kernel
theorem dX11_night_186 : decode cX11_night 186 = .ok (.iconst 0, 1) := by decide +kernel
theorem dX11_night_187 : decode cX11_night 187 = .ok (.iadd, 1) := by decide +kernel
theorem dX11_night_188 : decode cX11_night 188 = .ok (.istore 6, 2) := by decide +kernel
theorem dX11_night_190 : decode cX11_night 190 = .ok (.iload 7, 2) := by decide +kernel
theorem dX11_night_192 : decode cX11_night 192 = .ok (.iload 10, 2) := by decide +kernel
theorem dX11_night_194 : decode cX11_night 194 = .ok (.ifCond .eq 8, 3) := by decide +kernel
theorem dX11_night_197 : decode cX11_night 197 = .ok (.iload 9, 2) := by decide +kernel
theorem dX11_night_199 : decode cX11_night 199 = .ok (.goto 4, 3) := by decide +kernel
theorem dX11_night_202 : decode cX11_night 202 = .ok (.iconst (-1), 1) := by decide +kernel
theorem dX11_night_203 : decode cX11_night 203 = .ok (.iand, 1) := by decide +kernel
theorem dX11_night_204 : decode cX11_night 204 = .ok (.istore 7, 2) := by decide +kernel
theorem dX11_night_206 : decode cX11_night 206 = .ok (.iinc 8 1, 3) := by decide +kernel
theorem dX11_night_209 : decode cX11_night 209 = .ok (.goto (-147), 3) := by decide +kernel
theorem dX11_night_212 : decode cX11_night 212 = .ok (.iload 4, 2) := by decide +kernel
theorem dX11_night_214 : decode cX11_night 214 = .ok (.ifCond .ne 8, 3) := by decide +kernel
theorem dX11_night_217 : decode cX11_night 217 = .ok (.iload 6, 2) := by decide +kernel
theorem dX11_night_219 : decode cX11_night 219 = .ok (.goto 15, 3) := by decide +kernel
theorem dX11_night_222 : decode cX11_night 222 = .ok (.iload 6, 2) := by decide +kernel
theorem dX11_night_224 : decode cX11_night 224 = .ok (.ifCond .ne 8, 3) := by decide +kernel
theorem dX11_night_227 : decode cX11_night 227 = .ok (.bipush (-4), 2) := by decide +kernel
theorem dX11_night_229 : decode cX11_night 229 = .ok (.goto 5, 3) := by decide +kernel
theorem dX11_night_232 : decode cX11_night 232 = .ok (.iload 7, 2) := by decide +kernel
theorem dX11_night_234 : decode cX11_night 234 = .ok (.ireturn, 1) := by decide +kernel
theorem dX11_pie_0 : decode cX11_pie 0 = .ok (.iload_n 1, 1) := by decide +kernel
theorem dX11_pie_1 : decode cX11_pie 1 = .ok (.invokestatic 237, 3) := by decide +kernel
theorem dX11_pie_4 : decode cX11_pie 4 = .ok (.ifCond .eq 21, 3) := by decide +kernel
theorem dX11_pie_7 : decode cX11_pie 7 = .ok (.iload_n 2, 1) := by decide +kernel
theorem dX11_pie_8 : decode cX11_pie 8 = .ok (.invokestatic 240, 3) := by decide +kernel
theorem dX11_pie_11 : decode cX11_pie 11 = .ok (.ifCond .eq 14, 3) := by decide +kernel
theorem dX11_pie_14 : decode cX11_pie 14 = .ok (.iload 4, 2) := by decide +kernel
theorem dX11_pie_16 : decode cX11_pie 16 = .ok (.i2l, 1) := by decide +kernel
theorem dX11_pie_17 : decode cX11_pie 17 = .ok (.lconst 0, 1) := by decide +kernel
theorem dX11_pie_18 : decode cX11_pie 18 = .ok (.lconst 1, 1) := by decide +kernel
theorem dX11_pie_19 : decode cX11_pie 19 = .ok (.invokestatic 51, 3) := by decide +kernel
theorem dX11_pie_22 : decode cX11_pie 22 = .ok (.ifCond .ne 5, 3) := by decide +kernel
theorem dX11_pie_25 : decode cX11_pie 25 = .ok (.iconst (-1), 1) := by decide +kernel
theorem dX11_pie_26 : decode cX11_pie 26 = .ok (.ireturn, 1) := by decide +kernel
theorem dX11_pie_27 : decode cX11_pie 27 = .ok (.aload_n 0, 1) := by decide +kernel
theorem dX11_pie_28 : decode cX11_pie 28 = .ok (.iload_n 1, 1) := by decide +kernel
theorem dX11_pie_29 : decode cX11_pie 29 = .ok (.iload_n 2, 1) := by decide +kernel
theorem dX11_pie_30 : decode cX11_pie 30 = .ok (.iload_n 3, 1) := by decide +kernel
theorem dX11_pie_31 : decode cX11_pie 31 = .ok (.bipush 10, 2) := by decide +kernel
theorem dX11_pie_33 : decode cX11_pie 33 = .ok (.invokevirtual 243, 3) := by decide +kernel
theorem dX11_pie_36 : decode cX11_pie 36 = .ok (.istore 5, 2) := by decide +kernel
theorem dX11_pie_38 : decode cX11_pie 38 = .ok (.iload 5, 2) := by decide +kernel
theorem dX11_pie_40 : decode cX11_pie 40 = .ok (.ifCond .eq 6, 3) := by decide +kernel
theorem dX11_pie_43 : decode cX11_pie 43 = .ok (.iload 5, 2) := by decide +kernel
theorem dX11_pie_45 : decode cX11_pie 45 = .ok (.ireturn, 1) := by decide +kernel
theorem dX11_pie_46 : decode cX11_pie 46 = .ok (.iconst 0, 1) := by decide +kernel
theorem dX11_pie_47 : decode cX11_pie 47 = .ok (.istore 6, 2) := by decide +kernel
theorem dX11_pie_49 : decode cX11_pie 49 = .ok (.bipush (-4), 2) := by decide +kernel
theorem dX11_pie_51 : decode cX11_pie 51 = .ok (.istore 7, 2) := by decide +kernel
theorem dX11_pie_53 : decode cX11_pie 53 = .ok (.iconst 0, 1) := by decide +kernel
theorem dX11_pie_54 : decode cX11_pie 54 = .ok (.istore 8, 2) := by decide +kernel
theorem dX11_pie_56 : decode cX11_pie 56 = .ok (.iload 8, 2) := by decide +kernel
theorem dX11_pie_58 : decode cX11_pie 58 = .ok (.aload_n 0, 1) := by decide +kernel
theorem dX11_pie_59 : decode cX11_pie 59 = .ok (.invokevirtual 173, 3) := by decide +kernel
theorem dX11_pie_62 : decode cX11_pie 62 = .ok (.if_icmp .ge 112, 3) := by decide +kernel
theorem dX11_pie_65 : decode cX11_pie 65 = .ok (.aload_n 0, 1) := by decide +kernel
theorem dX11_pie_66 : decode cX11_pie 66 = .ok (.iload 8, 2) := by decide +kernel
theorem dX11_pie_68 : decode cX11_pie 68 = .ok (.aload_n 0, 1) := by decide +kernel
theorem dX11_pie_69 : decode cX11_pie 69 = .ok (.invokevirtual 184, 3) := by decide +kernel
theorem dX11_pie_72 : decode cX11_pie 72 = .ok (.iconst 0, 1) := by decide +kernel
theorem dX11_pie_73 : decode cX11_pie 73 = .ok (.invokevirtual 176, 3) := by decide +kernel
theorem dX11_pie_76 : decode cX11_pie 76 = .ok (.ifCond .lt 7, 3) := by decide +kernel
theorem dX11_pie_79 : decode cX11_pie 79 = .ok (.iconst 1, 1) := by decide +kernel
theorem dX11_pie_80 : decode cX11_pie 80 = .ok (.goto 4, 3) := by decide +kernel
theorem dX11_pie_83 : decode cX11_pie 83 = .ok (.iconst 0, 1) := by decide +kernel
theorem dX11_pie_84 : decode cX11_pie 84 = .ok (.istore 9, 2) := by decide +kernel
theorem dX11_pie_86 : decode cX11_pie 86 = .ok (.iconst 0, 1) := by decide +kernel
theorem dX11_pie_87 : decode cX11_pie 87 = .ok (.istore 10, 2) := by decide +kernel
theorem dX11_pie_89 : decode cX11_pie 89 = .ok (.iload 10, 2) := by decide +kernel
theorem dX11_pie_91 : decode cX11_pie 91 = .ok (.bipush 10, 2) := by decide +kernel
theorem dX11_pie_93 : decode cX11_pie 93 = .ok (.if_icmp .ge 41, 3) := by decide +kernel
theorem dX11_pie_96 : decode cX11_pie 96 = .ok (.iload 9, 2) := by decide +kernel
theorem dX11_pie_98 : decode cX11_pie 98 = .ok (.ifCond .eq 36, 3) := by decide +kernel
theorem dX11_pie_101 : decode cX11_pie 101 = .ok (.aload_n 0, 1) := by decide +kernel
theorem dX11_pie_102 : decode cX11_pie 102 = .ok (.iload 10, 2) := by decide +kernel
theorem dX11_pie_104 : decode cX11_pie 104 = .ok (.invokevirtual 246, 3) := by decide +kernel
theorem dX11_pie_107 : decode cX11_pie 107 = .ok (.i2l, 1) := by decide +kernel
theorem dX11_pie_108 : decode cX11_pie 108 = .ok (.aload_n 0, 1) := by decide +kernel
theorem dX11_pie_109 : decode cX11_pie 109 = .ok (.iload_n 1, 1) := by decide +kernel
theorem dX11_pie_110 : decode cX11_pie 110 = .ok (.iload_n 3, 1) := by decide +kernel
theorem dX11_pie_111 : decode cX11_pie 111 = .ok (.iload 10, 2) := by decide +kernel
theorem dX11_pie_113 : decode cX11_pie 113 = .ok (.iadd, 1) := by decide +kernel
theorem dX11_pie_114 : decode cX11_pie 114 = .ok (.invokevirtual 249, 3) := by decide +kernel
theorem dX11_pie_117 : decode cX11_pie 117 = .ok (.lcmp, 1) := by decide +kernel
theorem dX11_pie_118 : decode cX11_pie 118 = .ok (.ifCond .ne 7, 3) := by decide +kernel
theorem dX11_pie_121 : decode cX11_pie 121 = .ok (.iconst 1, 1) := by decide +kernel
theorem dX11_pie_122 : decode cX11_pie 122 = .ok (.goto 4, 3) := by decide +kernel
theorem dX11_pie_125 : decode cX11_pie 125 = .ok (.iconst 0, 1) := by decide +kernel
theorem dX11_pie_126 : decode cX11_pie 126 = .ok (.istore 9, 2) := by decide +kernel
theorem dX11_pie_128 : decode cX11_pie 128 = .ok (.iinc 10 1, 3) := by decide +kernel
theorem dX11_pie_131 : decode cX11_pie 131 = .ok (.goto (-42), 3) := by decide +kernel
theorem dX11_pie_134 : decode cX11_pie 134 = .ok (.iload 9, 2) := by decide +kernel
theorem dX11_pie_136 : decode cX11_pie 136 = .ok (.ifCond .eq 13, 3) := by decide +kernel
theorem dX11_pie_139 : decode cX11_pie 139 = .ok (.iload 6, 2) := by decide +kernel
theorem dX11_pie_141 : decode cX11_pie 141 = .ok (.ifCond .ne 8, 3) := by decide +kernel
theorem dX11_pie_144 : decode cX11_pie 144 = .ok (.iload 8, 2) := by decide +kernel
theorem dX11_pie_146 : decode cX11_pie 146 = .ok (.goto 5, 3) := by decide +kernel
theorem dX11_pie_149 : decode cX11_pie 149 = .ok (.iload 7, 2) := by decide +kernel
theorem dX11_pie_151 : decode cX11_pie 151 = .ok (.istore 7, 2) := by decide +kernel
theorem dX11_pie_153 : decode cX11_pie 153 = .ok (.iload 6, 2) := by decide +kernel
theorem dX11_pie_155 : decode cX11_pie 155 = .ok (.iload 9, 2) := by decide +kernel
theorem dX11_pie_157 : decode cX11_pie 157 = .ok (.ifCond .eq 7, 3) := by decide +kernel
theorem dX11_pie_160 : decode cX11_pie 160 = .ok (.iconst 1, 1) := by decide +kernel
theorem dX11_pie_161 : decode cX11_pie 161 = .ok (.goto 4, 3) := by decide +kernel
theorem dX11_pie_164 : decode cX11_pie 164 = .ok (.iconst 0, 1) := by decide +kernel
theorem dX11_pie_165 : decode cX11_pie 165 = .ok (.iadd, 1) := by decide +kernel
theorem dX11_pie_166 : decode cX11_pie 166 = .ok (.istore 6, 2) := by decide +kernel
theorem dX11_pie_168 : decode cX11_pie 168 = .ok (.iinc 8 1, 3) := by decide +kernel
theorem dX11_pie_171 : decode cX11_pie 171 = .ok (.goto (-115), 3) := by decide +kernel
theorem dX11_pie_174 : decode cX11_pie 174 = .ok (.iload 4, 2) := by decide +kernel
theorem dX11_pie_176 : decode cX11_pie 176 = .ok (.ifCond .ne 8, 3) := by decide +kernel
theorem dX11_pie_179 : decode cX11_pie 179 = .ok (.iload 6, 2) := by decide +kernel
theorem dX11_pie_181 : decode cX11_pie 181 = .ok (.goto 5, 3) := by decide +kernel
theorem dX11_pie_184 : decode cX11_pie 184 = .ok (.iload 7, 2) := by decide +kernel
theorem dX11_pie_186 : decode cX11_pie 186 = .ok (.ireturn, 1) := by decide +kernel
theorem dX11_layState_0 : decode cX11_layState 0 = .ok (.iconst 0, 1) := by decide +kernel
theorem dX11_layState_1 : decode cX11_layState 1 = .ok (.istore_n 2, 1) := by decide +kernel
theorem dX11_layState_2 : decode cX11_layState 2 = .ok (.iload_n 2, 1) := by decide +kernel
theorem dX11_layState_3 : decode cX11_layState 3 = .ok (.bipush 6, 2) := by decide +kernel
theorem dX11_layState_5 : decode cX11_layState 5 = .ok (.if_icmp .ge 98, 3) := by decide +kernel
theorem dX11_layState_8 : decode cX11_layState 8 = .ok (.aload_n 0, 1) := by decide +kernel
theorem dX11_layState_9 : decode cX11_layState 9 = .ok (.getfield 48, 3) := by decide +kernel
theorem dX11_layState_12 : decode cX11_layState 12 = .ok (.bipush 24, 2) := by decide +kernel
theorem dX11_layState_14 : decode cX11_layState 14 = .ok (.iload_n 1, 1) := by decide +kernel
theorem dX11_layState_15 : decode cX11_layState 15 = .ok (.imul, 1) := by decide +kernel
theorem dX11_layState_16 : decode cX11_layState 16 = .ok (.iload_n 2, 1) := by decide +kernel
theorem dX11_layState_17 : decode cX11_layState 17 = .ok (.iadd, 1) := by decide +kernel
theorem dX11_layState_18 : decode cX11_layState 18 = .ok (.aload_n 0, 1) := by decide +kernel
theorem dX11_layState_19 : decode cX11_layState 19 = .ok (.getfield 7, 3) := by decide +kernel
theorem dX11_layState_22 : decode cX11_layState 22 = .ok (.bipush 13, 2) := by decide +kernel
theorem dX11_layState_24 : decode cX11_layState 24 = .ok (.iload_n 2, 1) := by decide +kernel
theorem dX11_layState_25 : decode cX11_layState 25 = .ok (.iadd, 1) := by decide +kernel
theorem dX11_layState_26 : decode cX11_layState 26 = .ok (.iaload, 1) := by decide +kernel
theorem dX11_layState_27 : decode cX11_layState 27 = .ok (.iastore, 1) := by decide +kernel
theorem dX11_layState_28 : decode cX11_layState 28 = .ok (.aload_n 0, 1) := by decide +kernel
theorem dX11_layState_29 : decode cX11_layState 29 = .ok (.getfield 48, 3) := by decide +kernel
theorem dX11_layState_32 : decode cX11_layState 32 = .ok (.bipush 24, 2) := by decide +kernel
theorem dX11_layState_34 : decode cX11_layState 34 = .ok (.iload_n 1, 1) := by decide +kernel
theorem dX11_layState_35 : decode cX11_layState 35 = .ok (.imul, 1) := by decide +kernel
theorem dX11_layState_36 : decode cX11_layState 36 = .ok (.bipush 6, 2) := by decide +kernel
theorem dX11_layState_38 : decode cX11_layState 38 = .ok (.iadd, 1) := by decide +kernel
theorem dX11_layState_39 : decode cX11_layState 39 = .ok (.iload_n 2, 1) := by decide +kernel
theorem dX11_layState_40 : decode cX11_layState 40 = .ok (.iadd, 1) := by decide +kernel
theorem dX11_layState_41 : decode cX11_layState 41 = .ok (.aload_n 0, 1) := by decide +kernel
theorem dX11_layState_42 : decode cX11_layState 42 = .ok (.getfield 7, 3) := by decide +kernel
theorem dX11_layState_45 : decode cX11_layState 45 = .ok (.bipush 19, 2) := by decide +kernel
theorem dX11_layState_47 : decode cX11_layState 47 = .ok (.iload_n 2, 1) := by decide +kernel
theorem dX11_layState_48 : decode cX11_layState 48 = .ok (.iadd, 1) := by decide +kernel
theorem dX11_layState_49 : decode cX11_layState 49 = .ok (.iaload, 1) := by decide +kernel
theorem dX11_layState_50 : decode cX11_layState 50 = .ok (.iastore, 1) := by decide +kernel
theorem dX11_layState_51 : decode cX11_layState 51 = .ok (.aload_n 0, 1) := by decide +kernel
theorem dX11_layState_52 : decode cX11_layState 52 = .ok (.getfield 48, 3) := by decide +kernel
theorem dX11_layState_55 : decode cX11_layState 55 = .ok (.bipush 24, 2) := by decide +kernel
theorem dX11_layState_57 : decode cX11_layState 57 = .ok (.iload_n 1, 1) := by decide +kernel
theorem dX11_layState_58 : decode cX11_layState 58 = .ok (.imul, 1) := by decide +kernel
theorem dX11_layState_59 : decode cX11_layState 59 = .ok (.bipush 12, 2) := by decide +kernel
theorem dX11_layState_61 : decode cX11_layState 61 = .ok (.iadd, 1) := by decide +kernel
theorem dX11_layState_62 : decode cX11_layState 62 = .ok (.iload_n 2, 1) := by decide +kernel
theorem dX11_layState_63 : decode cX11_layState 63 = .ok (.iadd, 1) := by decide +kernel
theorem dX11_layState_64 : decode cX11_layState 64 = .ok (.aload_n 0, 1) := by decide +kernel
theorem dX11_layState_65 : decode cX11_layState 65 = .ok (.getfield 7, 3) := by decide +kernel
theorem dX11_layState_68 : decode cX11_layState 68 = .ok (.bipush 25, 2) := by decide +kernel
theorem dX11_layState_70 : decode cX11_layState 70 = .ok (.iload_n 2, 1) := by decide +kernel
theorem dX11_layState_71 : decode cX11_layState 71 = .ok (.iadd, 1) := by decide +kernel
theorem dX11_layState_72 : decode cX11_layState 72 = .ok (.iaload, 1) := by decide +kernel
theorem dX11_layState_73 : decode cX11_layState 73 = .ok (.iastore, 1) := by decide +kernel
theorem dX11_layState_74 : decode cX11_layState 74 = .ok (.aload_n 0, 1) := by decide +kernel
theorem dX11_layState_75 : decode cX11_layState 75 = .ok (.getfield 48, 3) := by decide +kernel
theorem dX11_layState_78 : decode cX11_layState 78 = .ok (.bipush 24, 2) := by decide +kernel
theorem dX11_layState_80 : decode cX11_layState 80 = .ok (.iload_n 1, 1) := by decide +kernel
theorem dX11_layState_81 : decode cX11_layState 81 = .ok (.imul, 1) := by decide +kernel
theorem dX11_layState_82 : decode cX11_layState 82 = .ok (.bipush 18, 2) := by decide +kernel
theorem dX11_layState_84 : decode cX11_layState 84 = .ok (.iadd, 1) := by decide +kernel
theorem dX11_layState_85 : decode cX11_layState 85 = .ok (.iload_n 2, 1) := by decide +kernel
theorem dX11_layState_86 : decode cX11_layState 86 = .ok (.iadd, 1) := by decide +kernel
theorem dX11_layState_87 : decode cX11_layState 87 = .ok (.aload_n 0, 1) := by decide +kernel
theorem dX11_layState_88 : decode cX11_layState 88 = .ok (.getfield 7, 3) := by decide +kernel
theorem dX11_layState_91 : decode cX11_layState 91 = .ok (.bipush 31, 2) := by decide +kernel
theorem dX11_layState_93 : decode cX11_layState 93 = .ok (.iload_n 2, 1) := by decide +kernel
theorem dX11_layState_94 : decode cX11_layState 94 = .ok (.iadd, 1) := by decide +kernel
theorem dX11_layState_95 : decode cX11_layState 95 = .ok (.iaload, 1) := by decide +kernel
theorem dX11_layState_96 : decode cX11_layState 96 = .ok (.iastore, 1) := by decide +kernel
theorem dX11_layState_97 : decode cX11_layState 97 = .ok (.iinc 2 1, 3) := by decide +kernel
theorem dX11_layState_100 : decode cX11_layState 100 = .ok (.goto (-98), 3) := by decide +kernel
theorem dX11_layState_103 : decode cX11_layState 103 = .ok (.return_, 1) := by decide +kernel
theorem dX11_rotaYear_0 : decode cX11_rotaYear 0 = .ok (.iconst 0, 1) := by decide +kernel
theorem dX11_rotaYear_1 : decode cX11_rotaYear 1 = .ok (.istore 4, 2) := by decide +kernel
theorem dX11_rotaYear_3 : decode cX11_rotaYear 3 = .ok (.iload 4, 2) := by decide +kernel
theorem dX11_rotaYear_5 : decode cX11_rotaYear 5 = .ok (.aload_n 0, 1) := by decide +kernel
theorem dX11_rotaYear_6 : decode cX11_rotaYear 6 = .ok (.getfield 7, 3) := by decide +kernel
theorem dX11_rotaYear_9 : decode cX11_rotaYear 9 = .ok (.iconst 0, 1) := by decide +kernel
theorem dX11_rotaYear_10 : decode cX11_rotaYear 10 = .ok (.iaload, 1) := by decide +kernel
theorem dX11_rotaYear_11 : decode cX11_rotaYear 11 = .ok (.if_icmp .ge 111, 3) := by decide +kernel
theorem dX11_rotaYear_14 : decode cX11_rotaYear 14 = .ok (.aload_n 0, 1) := by decide +kernel
theorem dX11_rotaYear_15 : decode cX11_rotaYear 15 = .ok (.getfield 48, 3) := by decide +kernel
theorem dX11_rotaYear_18 : decode cX11_rotaYear 18 = .ok (.bipush 24, 2) := by decide +kernel
theorem dX11_rotaYear_20 : decode cX11_rotaYear 20 = .ok (.iload_n 1, 1) := by decide +kernel
theorem dX11_rotaYear_21 : decode cX11_rotaYear 21 = .ok (.imul, 1) := by decide +kernel
theorem dX11_rotaYear_22 : decode cX11_rotaYear 22 = .ok (.bipush 24, 2) := by decide +kernel
theorem dX11_rotaYear_24 : decode cX11_rotaYear 24 = .ok (.iadd, 1) := by decide +kernel
theorem dX11_rotaYear_25 : decode cX11_rotaYear 25 = .ok (.iload 4, 2) := by decide +kernel
theorem dX11_rotaYear_27 : decode cX11_rotaYear 27 = .ok (.iadd, 1) := by decide +kernel
theorem dX11_rotaYear_28 : decode cX11_rotaYear 28 = .ok (.aload_n 0, 1) := by decide +kernel
theorem dX11_rotaYear_29 : decode cX11_rotaYear 29 = .ok (.getfield 41, 3) := by decide +kernel
theorem dX11_rotaYear_32 : decode cX11_rotaYear 32 = .ok (.iload_n 2, 1) := by decide +kernel
theorem dX11_rotaYear_33 : decode cX11_rotaYear 33 = .ok (.iload_n 1, 1) := by decide +kernel
theorem dX11_rotaYear_34 : decode cX11_rotaYear 34 = .ok (.iload 4, 2) := by decide +kernel
theorem dX11_rotaYear_36 : decode cX11_rotaYear 36 = .ok (.iadd, 1) := by decide +kernel
theorem dX11_rotaYear_37 : decode cX11_rotaYear 37 = .ok (.iload_n 3, 1) := by decide +kernel
theorem dX11_rotaYear_38 : decode cX11_rotaYear 38 = .ok (.irem, 1) := by decide +kernel
theorem dX11_rotaYear_39 : decode cX11_rotaYear 39 = .ok (.iadd, 1) := by decide +kernel
theorem dX11_rotaYear_40 : decode cX11_rotaYear 40 = .ok (.laload, 1) := by decide +kernel
theorem dX11_rotaYear_41 : decode cX11_rotaYear 41 = .ok (.l2i, 1) := by decide +kernel
theorem dX11_rotaYear_42 : decode cX11_rotaYear 42 = .ok (.iastore, 1) := by decide +kernel
theorem dX11_rotaYear_43 : decode cX11_rotaYear 43 = .ok (.aload_n 0, 1) := by decide +kernel
theorem dX11_rotaYear_44 : decode cX11_rotaYear 44 = .ok (.getfield 48, 3) := by decide +kernel
theorem dX11_rotaYear_47 : decode cX11_rotaYear 47 = .ok (.bipush 24, 2) := by decide +kernel
theorem dX11_rotaYear_49 : decode cX11_rotaYear 49 = .ok (.iload_n 1, 1) := by decide +kernel
theorem dX11_rotaYear_50 : decode cX11_rotaYear 50 = .ok (.imul, 1) := by decide +kernel
theorem dX11_rotaYear_51 : decode cX11_rotaYear 51 = .ok (.bipush 30, 2) := by decide +kernel
theorem dX11_rotaYear_53 : decode cX11_rotaYear 53 = .ok (.iadd, 1) := by decide +kernel
theorem dX11_rotaYear_54 : decode cX11_rotaYear 54 = .ok (.iload 4, 2) := by decide +kernel
theorem dX11_rotaYear_56 : decode cX11_rotaYear 56 = .ok (.iadd, 1) := by decide +kernel
theorem dX11_rotaYear_57 : decode cX11_rotaYear 57 = .ok (.aload_n 0, 1) := by decide +kernel
theorem dX11_rotaYear_58 : decode cX11_rotaYear 58 = .ok (.getfield 48, 3) := by decide +kernel
theorem dX11_rotaYear_61 : decode cX11_rotaYear 61 = .ok (.bipush 24, 2) := by decide +kernel
theorem dX11_rotaYear_63 : decode cX11_rotaYear 63 = .ok (.iload_n 1, 1) := by decide +kernel
theorem dX11_rotaYear_64 : decode cX11_rotaYear 64 = .ok (.imul, 1) := by decide +kernel
theorem dX11_rotaYear_65 : decode cX11_rotaYear 65 = .ok (.iload 4, 2) := by decide +kernel
theorem dX11_rotaYear_67 : decode cX11_rotaYear 67 = .ok (.iadd, 1) := by decide +kernel
theorem dX11_rotaYear_68 : decode cX11_rotaYear 68 = .ok (.iaload, 1) := by decide +kernel
theorem dX11_rotaYear_69 : decode cX11_rotaYear 69 = .ok (.iastore, 1) := by decide +kernel
theorem dX11_rotaYear_70 : decode cX11_rotaYear 70 = .ok (.aload_n 0, 1) := by decide +kernel
theorem dX11_rotaYear_71 : decode cX11_rotaYear 71 = .ok (.getfield 48, 3) := by decide +kernel
theorem dX11_rotaYear_74 : decode cX11_rotaYear 74 = .ok (.bipush 24, 2) := by decide +kernel
theorem dX11_rotaYear_76 : decode cX11_rotaYear 76 = .ok (.iload_n 1, 1) := by decide +kernel
theorem dX11_rotaYear_77 : decode cX11_rotaYear 77 = .ok (.imul, 1) := by decide +kernel
theorem dX11_rotaYear_78 : decode cX11_rotaYear 78 = .ok (.bipush 36, 2) := by decide +kernel
theorem dX11_rotaYear_80 : decode cX11_rotaYear 80 = .ok (.iadd, 1) := by decide +kernel
theorem dX11_rotaYear_81 : decode cX11_rotaYear 81 = .ok (.iload 4, 2) := by decide +kernel
theorem dX11_rotaYear_83 : decode cX11_rotaYear 83 = .ok (.iadd, 1) := by decide +kernel
theorem dX11_rotaYear_84 : decode cX11_rotaYear 84 = .ok (.iconst 0, 1) := by decide +kernel
theorem dX11_rotaYear_85 : decode cX11_rotaYear 85 = .ok (.iastore, 1) := by decide +kernel
theorem dX11_rotaYear_86 : decode cX11_rotaYear 86 = .ok (.aload_n 0, 1) := by decide +kernel
theorem dX11_rotaYear_87 : decode cX11_rotaYear 87 = .ok (.getfield 48, 3) := by decide +kernel
theorem dX11_rotaYear_90 : decode cX11_rotaYear 90 = .ok (.bipush 24, 2) := by decide +kernel
theorem dX11_rotaYear_92 : decode cX11_rotaYear 92 = .ok (.iload_n 1, 1) := by decide +kernel
theorem dX11_rotaYear_93 : decode cX11_rotaYear 93 = .ok (.imul, 1) := by decide +kernel
theorem dX11_rotaYear_94 : decode cX11_rotaYear 94 = .ok (.bipush 42, 2) := by decide +kernel
theorem dX11_rotaYear_96 : decode cX11_rotaYear 96 = .ok (.iadd, 1) := by decide +kernel
theorem dX11_rotaYear_97 : decode cX11_rotaYear 97 = .ok (.iload 4, 2) := by decide +kernel
theorem dX11_rotaYear_99 : decode cX11_rotaYear 99 = .ok (.iadd, 1) := by decide +kernel
theorem dX11_rotaYear_100 : decode cX11_rotaYear 100 = .ok (.aload_n 0, 1) := by decide +kernel
theorem dX11_rotaYear_101 : decode cX11_rotaYear 101 = .ok (.getfield 48, 3) := by decide +kernel
theorem dX11_rotaYear_104 : decode cX11_rotaYear 104 = .ok (.bipush 24, 2) := by decide +kernel
theorem dX11_rotaYear_106 : decode cX11_rotaYear 106 = .ok (.iload_n 1, 1) := by decide +kernel
theorem dX11_rotaYear_107 : decode cX11_rotaYear 107 = .ok (.imul, 1) := by decide +kernel
theorem dX11_rotaYear_108 : decode cX11_rotaYear 108 = .ok (.bipush 12, 2) := by decide +kernel
theorem dX11_rotaYear_110 : decode cX11_rotaYear 110 = .ok (.iadd, 1) := by decide +kernel
theorem dX11_rotaYear_111 : decode cX11_rotaYear 111 = .ok (.iload 4, 2) := by decide +kernel
theorem dX11_rotaYear_113 : decode cX11_rotaYear 113 = .ok (.iadd, 1) := by decide +kernel
theorem dX11_rotaYear_114 : decode cX11_rotaYear 114 = .ok (.iaload, 1) := by decide +kernel
theorem dX11_rotaYear_115 : decode cX11_rotaYear 115 = .ok (.iastore, 1) := by decide +kernel
theorem dX11_rotaYear_116 : decode cX11_rotaYear 116 = .ok (.iinc 4 1, 3) := by decide +kernel
theorem dX11_rotaYear_119 : decode cX11_rotaYear 119 = .ok (.goto (-116), 3) := by decide +kernel
theorem dX11_rotaYear_122 : decode cX11_rotaYear 122 = .ok (.return_, 1) := by decide +kernel
theorem dX11_valueBehind_0 : decode cX11_valueBehind 0 = .ok (.iconst 0, 1) := by decide +kernel
theorem dX11_valueBehind_1 : decode cX11_valueBehind 1 = .ok (.istore_n 2, 1) := by decide +kernel
theorem dX11_valueBehind_2 : decode cX11_valueBehind 2 = .ok (.iconst 0, 1) := by decide +kernel
theorem dX11_valueBehind_3 : decode cX11_valueBehind 3 = .ok (.istore_n 3, 1) := by decide +kernel
theorem dX11_valueBehind_4 : decode cX11_valueBehind 4 = .ok (.iload_n 3, 1) := by decide +kernel
theorem dX11_valueBehind_5 : decode cX11_valueBehind 5 = .ok (.aload_n 0, 1) := by decide +kernel
theorem dX11_valueBehind_6 : decode cX11_valueBehind 6 = .ok (.getfield 7, 3) := by decide +kernel
theorem dX11_valueBehind_9 : decode cX11_valueBehind 9 = .ok (.iconst 0, 1) := by decide +kernel
theorem dX11_valueBehind_10 : decode cX11_valueBehind 10 = .ok (.iaload, 1) := by decide +kernel
theorem dX11_valueBehind_11 : decode cX11_valueBehind 11 = .ok (.if_icmp .ge 106, 3) := by decide +kernel
theorem dX11_valueBehind_14 : decode cX11_valueBehind 14 = .ok (.iconst 0, 1) := by decide +kernel
theorem dX11_valueBehind_15 : decode cX11_valueBehind 15 = .ok (.istore 4, 2) := by decide +kernel
theorem dX11_valueBehind_17 : decode cX11_valueBehind 17 = .ok (.iload 4, 2) := by decide +kernel
theorem dX11_valueBehind_19 : decode cX11_valueBehind 19 = .ok (.bipush 10, 2) := by decide +kernel
theorem dX11_valueBehind_21 : decode cX11_valueBehind 21 = .ok (.if_icmp .ge 90, 3) := by decide +kernel
theorem dX11_valueBehind_24 : decode cX11_valueBehind 24 = .ok (.iload_n 2, 1) := by decide +kernel
theorem dX11_valueBehind_25 : decode cX11_valueBehind 25 = .ok (.aload_n 0, 1) := by decide +kernel
theorem dX11_valueBehind_26 : decode cX11_valueBehind 26 = .ok (.getfield 7, 3) := by decide +kernel
theorem dX11_valueBehind_29 : decode cX11_valueBehind 29 = .ok (.bipush 64, 2) := by decide +kernel
theorem dX11_valueBehind_31 : decode cX11_valueBehind 31 = .ok (.iload 4, 2) := by decide +kernel
theorem dX11_valueBehind_33 : decode cX11_valueBehind 33 = .ok (.iadd, 1) := by decide +kernel
theorem dX11_valueBehind_34 : decode cX11_valueBehind 34 = .ok (.iaload, 1) := by decide +kernel
theorem dX11_valueBehind_35 : decode cX11_valueBehind 35 = .ok (.aload_n 0, 1) := by decide +kernel
theorem dX11_valueBehind_36 : decode cX11_valueBehind 36 = .ok (.aload_n 0, 1) := by decide +kernel
theorem dX11_valueBehind_37 : decode cX11_valueBehind 37 = .ok (.getfield 7, 3) := by decide +kernel
theorem dX11_valueBehind_40 : decode cX11_valueBehind 40 = .ok (.iconst 1, 1) := by decide +kernel
theorem dX11_valueBehind_41 : decode cX11_valueBehind 41 = .ok (.iload_n 3, 1) := by decide +kernel
theorem dX11_valueBehind_42 : decode cX11_valueBehind 42 = .ok (.iadd, 1) := by decide +kernel
theorem dX11_valueBehind_43 : decode cX11_valueBehind 43 = .ok (.iaload, 1) := by decide +kernel
theorem dX11_valueBehind_44 : decode cX11_valueBehind 44 = .ok (.iload 4, 2) := by decide +kernel
theorem dX11_valueBehind_46 : decode cX11_valueBehind 46 = .ok (.aload_n 0, 1) := by decide +kernel
theorem dX11_valueBehind_47 : decode cX11_valueBehind 47 = .ok (.getfield 48, 3) := by decide +kernel
theorem dX11_valueBehind_50 : decode cX11_valueBehind 50 = .ok (.bipush 24, 2) := by decide +kernel
theorem dX11_valueBehind_52 : decode cX11_valueBehind 52 = .ok (.iload_n 1, 1) := by decide +kernel
theorem dX11_valueBehind_53 : decode cX11_valueBehind 53 = .ok (.imul, 1) := by decide +kernel
theorem dX11_valueBehind_54 : decode cX11_valueBehind 54 = .ok (.iload_n 3, 1) := by decide +kernel
theorem dX11_valueBehind_55 : decode cX11_valueBehind 55 = .ok (.iadd, 1) := by decide +kernel
theorem dX11_valueBehind_56 : decode cX11_valueBehind 56 = .ok (.iaload, 1) := by decide +kernel
theorem dX11_valueBehind_57 : decode cX11_valueBehind 57 = .ok (.aload_n 0, 1) := by decide +kernel
theorem dX11_valueBehind_58 : decode cX11_valueBehind 58 = .ok (.getfield 48, 3) := by decide +kernel
theorem dX11_valueBehind_61 : decode cX11_valueBehind 61 = .ok (.bipush 24, 2) := by decide +kernel
theorem dX11_valueBehind_63 : decode cX11_valueBehind 63 = .ok (.iload_n 1, 1) := by decide +kernel
theorem dX11_valueBehind_64 : decode cX11_valueBehind 64 = .ok (.imul, 1) := by decide +kernel
theorem dX11_valueBehind_65 : decode cX11_valueBehind 65 = .ok (.bipush 12, 2) := by decide +kernel
theorem dX11_valueBehind_67 : decode cX11_valueBehind 67 = .ok (.iadd, 1) := by decide +kernel
theorem dX11_valueBehind_68 : decode cX11_valueBehind 68 = .ok (.iload_n 3, 1) := by decide +kernel
theorem dX11_valueBehind_69 : decode cX11_valueBehind 69 = .ok (.iadd, 1) := by decide +kernel
theorem dX11_valueBehind_70 : decode cX11_valueBehind 70 = .ok (.iaload, 1) := by decide +kernel
theorem dX11_valueBehind_71 : decode cX11_valueBehind 71 = .ok (.aload_n 0, 1) := by decide +kernel
theorem dX11_valueBehind_72 : decode cX11_valueBehind 72 = .ok (.getfield 48, 3) := by decide +kernel
theorem dX11_valueBehind_75 : decode cX11_valueBehind 75 = .ok (.bipush 24, 2) := by decide +kernel
theorem dX11_valueBehind_77 : decode cX11_valueBehind 77 = .ok (.iload_n 1, 1) := by decide +kernel
theorem dX11_valueBehind_78 : decode cX11_valueBehind 78 = .ok (.imul, 1) := by decide +kernel
theorem dX11_valueBehind_79 : decode cX11_valueBehind 79 = .ok (.bipush 6, 2) := by decide +kernel
theorem dX11_valueBehind_81 : decode cX11_valueBehind 81 = .ok (.iadd, 1) := by decide +kernel
theorem dX11_valueBehind_82 : decode cX11_valueBehind 82 = .ok (.iload_n 3, 1) := by decide +kernel
theorem dX11_valueBehind_83 : decode cX11_valueBehind 83 = .ok (.iadd, 1) := by decide +kernel
theorem dX11_valueBehind_84 : decode cX11_valueBehind 84 = .ok (.iaload, 1) := by decide +kernel
theorem dX11_valueBehind_85 : decode cX11_valueBehind 85 = .ok (.aload_n 0, 1) := by decide +kernel
theorem dX11_valueBehind_86 : decode cX11_valueBehind 86 = .ok (.getfield 48, 3) := by decide +kernel
theorem dX11_valueBehind_89 : decode cX11_valueBehind 89 = .ok (.bipush 24, 2) := by decide +kernel
theorem dX11_valueBehind_91 : decode cX11_valueBehind 91 = .ok (.iload_n 1, 1) := by decide +kernel
theorem dX11_valueBehind_92 : decode cX11_valueBehind 92 = .ok (.imul, 1) := by decide +kernel
theorem dX11_valueBehind_93 : decode cX11_valueBehind 93 = .ok (.bipush 18, 2) := by decide +kernel
theorem dX11_valueBehind_95 : decode cX11_valueBehind 95 = .ok (.iadd, 1) := by decide +kernel
theorem dX11_valueBehind_96 : decode cX11_valueBehind 96 = .ok (.iload_n 3, 1) := by decide +kernel
theorem dX11_valueBehind_97 : decode cX11_valueBehind 97 = .ok (.iadd, 1) := by decide +kernel
theorem dX11_valueBehind_98 : decode cX11_valueBehind 98 = .ok (.iaload, 1) := by decide +kernel
theorem dX11_valueBehind_99 : decode cX11_valueBehind 99 = .ok (.invokevirtual 130, 3) := by decide +kernel
theorem dX11_valueBehind_102 : decode cX11_valueBehind 102 = .ok (.imul, 1) := by decide +kernel
theorem dX11_valueBehind_103 : decode cX11_valueBehind 103 = .ok (.iadd, 1) := by decide +kernel
theorem dX11_valueBehind_104 : decode cX11_valueBehind 104 = .ok (.istore_n 2, 1) := by decide +kernel
theorem dX11_valueBehind_105 : decode cX11_valueBehind 105 = .ok (.iinc 4 1, 3) := by decide +kernel
theorem dX11_valueBehind_108 : decode cX11_valueBehind 108 = .ok (.goto (-91), 3) := by decide +kernel
theorem dX11_valueBehind_111 : decode cX11_valueBehind 111 = .ok (.iinc 3 1, 3) := by decide +kernel
theorem dX11_valueBehind_114 : decode cX11_valueBehind 114 = .ok (.goto (-110), 3) := by decide +kernel
theorem dX11_valueBehind_117 : decode cX11_valueBehind 117 = .ok (.iload_n 2, 1) := by decide +kernel
theorem dX11_valueBehind_118 : decode cX11_valueBehind 118 = .ok (.ireturn, 1) := by decide +kernel
theorem dX11_rotaBars_0 : decode cX11_rotaBars 0 = .ok (.aload_n 0, 1) := by decide +kernel
theorem dX11_rotaBars_1 : decode cX11_rotaBars 1 = .ok (.iload_n 1, 1) := by decide +kernel
theorem dX11_rotaBars_2 : decode cX11_rotaBars 2 = .ok (.iload_n 2, 1) := by decide +kernel
theorem dX11_rotaBars_3 : decode cX11_rotaBars 3 = .ok (.iload_n 3, 1) := by decide +kernel
theorem dX11_rotaBars_4 : decode cX11_rotaBars 4 = .ok (.iload 4, 2) := by decide +kernel
theorem dX11_rotaBars_6 : decode cX11_rotaBars 6 = .ok (.invokevirtual 243, 3) := by decide +kernel
theorem dX11_rotaBars_9 : decode cX11_rotaBars 9 = .ok (.istore 5, 2) := by decide +kernel
theorem dX11_rotaBars_11 : decode cX11_rotaBars 11 = .ok (.iconst 0, 1) := by decide +kernel
theorem dX11_rotaBars_12 : decode cX11_rotaBars 12 = .ok (.istore 6, 2) := by decide +kernel
theorem dX11_rotaBars_14 : decode cX11_rotaBars 14 = .ok (.iload 6, 2) := by decide +kernel
theorem dX11_rotaBars_16 : decode cX11_rotaBars 16 = .ok (.iload 4, 2) := by decide +kernel
theorem dX11_rotaBars_18 : decode cX11_rotaBars 18 = .ok (.if_icmp .ge 61, 3) := by decide +kernel
theorem dX11_rotaBars_21 : decode cX11_rotaBars 21 = .ok (.iload 5, 2) := by decide +kernel
theorem dX11_rotaBars_23 : decode cX11_rotaBars 23 = .ok (.ifCond .ne 56, 3) := by decide +kernel
theorem dX11_rotaBars_26 : decode cX11_rotaBars 26 = .ok (.aload_n 0, 1) := by decide +kernel
theorem dX11_rotaBars_27 : decode cX11_rotaBars 27 = .ok (.iload_n 1, 1) := by decide +kernel
theorem dX11_rotaBars_28 : decode cX11_rotaBars 28 = .ok (.iload_n 3, 1) := by decide +kernel
theorem dX11_rotaBars_29 : decode cX11_rotaBars 29 = .ok (.iload 6, 2) := by decide +kernel
theorem dX11_rotaBars_31 : decode cX11_rotaBars 31 = .ok (.iadd, 1) := by decide +kernel
theorem dX11_rotaBars_32 : decode cX11_rotaBars 32 = .ok (.invokevirtual 233, 3) := by decide +kernel
theorem dX11_rotaBars_35 : decode cX11_rotaBars 35 = .ok (.lstore 7, 2) := by decide +kernel
theorem dX11_rotaBars_37 : decode cX11_rotaBars 37 = .ok (.lload 7, 2) := by decide +kernel
theorem dX11_rotaBars_39 : decode cX11_rotaBars 39 = .ok (.ldc2_w 252, 3) := by decide +kernel
theorem dX11_rotaBars_42 : decode cX11_rotaBars 42 = .ok (.lcmp, 1) := by decide +kernel
theorem dX11_rotaBars_43 : decode cX11_rotaBars 43 = .ok (.ifCond .eq 22, 3) := by decide +kernel
theorem dX11_rotaBars_46 : decode cX11_rotaBars 46 = .ok (.lload 7, 2) := by decide +kernel
theorem dX11_rotaBars_48 : decode cX11_rotaBars 48 = .ok (.lconst 0, 1) := by decide +kernel
theorem dX11_rotaBars_49 : decode cX11_rotaBars 49 = .ok (.aload_n 0, 1) := by decide +kernel
theorem dX11_rotaBars_50 : decode cX11_rotaBars 50 = .ok (.getfield 7, 3) := by decide +kernel
theorem dX11_rotaBars_53 : decode cX11_rotaBars 53 = .ok (.bipush 43, 2) := by decide +kernel
theorem dX11_rotaBars_55 : decode cX11_rotaBars 55 = .ok (.iaload, 1) := by decide +kernel
theorem dX11_rotaBars_56 : decode cX11_rotaBars 56 = .ok (.iconst 1, 1) := by decide +kernel
theorem dX11_rotaBars_57 : decode cX11_rotaBars 57 = .ok (.isub, 1) := by decide +kernel
theorem dX11_rotaBars_58 : decode cX11_rotaBars 58 = .ok (.i2l, 1) := by decide +kernel
theorem dX11_rotaBars_59 : decode cX11_rotaBars 59 = .ok (.invokestatic 51, 3) := by decide +kernel
theorem dX11_rotaBars_62 : decode cX11_rotaBars 62 = .ok (.ifCond .eq 7, 3) := by decide +kernel
theorem dX11_rotaBars_65 : decode cX11_rotaBars 65 = .ok (.iconst 0, 1) := by decide +kernel
theorem dX11_rotaBars_66 : decode cX11_rotaBars 66 = .ok (.goto 5, 3) := by decide +kernel
theorem dX11_rotaBars_69 : decode cX11_rotaBars 69 = .ok (.bipush (-2), 2) := by decide +kernel
theorem dX11_rotaBars_71 : decode cX11_rotaBars 71 = .ok (.istore 5, 2) := by decide +kernel
theorem dX11_rotaBars_73 : decode cX11_rotaBars 73 = .ok (.iinc 6 1, 3) := by decide +kernel
theorem dX11_rotaBars_76 : decode cX11_rotaBars 76 = .ok (.goto (-62), 3) := by decide +kernel
theorem dX11_rotaBars_79 : decode cX11_rotaBars 79 = .ok (.iload 5, 2) := by decide +kernel
theorem dX11_rotaBars_81 : decode cX11_rotaBars 81 = .ok (.ireturn, 1) := by decide +kernel
theorem dX11_earned_0 : decode cX11_earned 0 = .ok (.iload_n 1, 1) := by decide +kernel
theorem dX11_earned_1 : decode cX11_earned 1 = .ok (.invokestatic 237, 3) := by decide +kernel
theorem dX11_earned_4 : decode cX11_earned 4 = .ok (.ifCond .eq 36, 3) := by decide +kernel
theorem dX11_earned_7 : decode cX11_earned 7 = .ok (.iload_n 2, 1) := by decide +kernel
theorem dX11_earned_8 : decode cX11_earned 8 = .ok (.invokestatic 240, 3) := by decide +kernel
theorem dX11_earned_11 : decode cX11_earned 11 = .ok (.ifCond .eq 29, 3) := by decide +kernel
theorem dX11_earned_14 : decode cX11_earned 14 = .ok (.iload 4, 2) := by decide +kernel
theorem dX11_earned_16 : decode cX11_earned 16 = .ok (.i2l, 1) := by decide +kernel
theorem dX11_earned_17 : decode cX11_earned 17 = .ok (.lconst 1, 1) := by decide +kernel
theorem dX11_earned_18 : decode cX11_earned 18 = .ok (.ldc2_w 254, 3) := by decide +kernel
theorem dX11_earned_21 : decode cX11_earned 21 = .ok (.invokestatic 51, 3) := by decide +kernel
theorem dX11_earned_24 : decode cX11_earned 24 = .ok (.ifCond .eq 16, 3) := by decide +kernel
theorem dX11_earned_27 : decode cX11_earned 27 = .ok (.iload 5, 2) := by decide +kernel
theorem dX11_earned_29 : decode cX11_earned 29 = .ok (.i2l, 1) := by decide +kernel
theorem dX11_earned_30 : decode cX11_earned 30 = .ok (.lconst 0, 1) := by decide +kernel
theorem dX11_earned_31 : decode cX11_earned 31 = .ok (.ldc2_w 256, 3) := by decide +kernel
theorem dX11_earned_34 : decode cX11_earned 34 = .ok (.invokestatic 51, 3) := by decide +kernel
theorem dX11_earned_37 : decode cX11_earned 37 = .ok (.ifCond .ne 6, 3) := by decide +kernel
theorem dX11_earned_40 : decode cX11_earned 40 = .ok (.ldc 84, 2) := by decide +kernel
theorem dX11_earned_42 : decode cX11_earned 42 = .ok (.ireturn, 1) := by decide +kernel
theorem dX11_earned_43 : decode cX11_earned 43 = .ok (.aload_n 0, 1) := by decide +kernel
theorem dX11_earned_44 : decode cX11_earned 44 = .ok (.iload_n 1, 1) := by decide +kernel
theorem dX11_earned_45 : decode cX11_earned 45 = .ok (.iload_n 2, 1) := by decide +kernel
theorem dX11_earned_46 : decode cX11_earned 46 = .ok (.iload_n 3, 1) := by decide +kernel
theorem dX11_earned_47 : decode cX11_earned 47 = .ok (.iload 4, 2) := by decide +kernel
theorem dX11_earned_49 : decode cX11_earned 49 = .ok (.invokevirtual 258, 3) := by decide +kernel
theorem dX11_earned_52 : decode cX11_earned 52 = .ok (.istore 6, 2) := by decide +kernel
theorem dX11_earned_54 : decode cX11_earned 54 = .ok (.iload 6, 2) := by decide +kernel
theorem dX11_earned_56 : decode cX11_earned 56 = .ok (.ifCond .eq 10, 3) := by decide +kernel
theorem dX11_earned_59 : decode cX11_earned 59 = .ok (.iload 6, 2) := by decide +kernel
theorem dX11_earned_61 : decode cX11_earned 61 = .ok (.ldc_w 261, 3) := by decide +kernel
theorem dX11_earned_64 : decode cX11_earned 64 = .ok (.isub, 1) := by decide +kernel
theorem dX11_earned_65 : decode cX11_earned 65 = .ok (.ireturn, 1) := by decide +kernel
theorem dX11_earned_66 : decode cX11_earned 66 = .ok (.aload_n 0, 1) := by decide +kernel
theorem dX11_earned_67 : decode cX11_earned 67 = .ok (.iconst 0, 1) := by decide +kernel
theorem dX11_earned_68 : decode cX11_earned 68 = .ok (.invokevirtual 262, 3) := by decide +kernel
theorem dX11_earned_71 : decode cX11_earned 71 = .ok (.iconst 0, 1) := by decide +kernel
theorem dX11_earned_72 : decode cX11_earned 72 = .ok (.istore 7, 2) := by decide +kernel
theorem dX11_earned_74 : decode cX11_earned 74 = .ok (.iconst 0, 1) := by decide +kernel
theorem dX11_earned_75 : decode cX11_earned 75 = .ok (.istore 8, 2) := by decide +kernel
theorem dX11_earned_77 : decode cX11_earned 77 = .ok (.iload 8, 2) := by decide +kernel
theorem dX11_earned_79 : decode cX11_earned 79 = .ok (.iload 5, 2) := by decide +kernel
theorem dX11_earned_81 : decode cX11_earned 81 = .ok (.if_icmp .ge 36, 3) := by decide +kernel
theorem dX11_earned_84 : decode cX11_earned 84 = .ok (.aload_n 0, 1) := by decide +kernel
theorem dX11_earned_85 : decode cX11_earned 85 = .ok (.iload 8, 2) := by decide +kernel
theorem dX11_earned_87 : decode cX11_earned 87 = .ok (.bipush 16, 2) := by decide +kernel
theorem dX11_earned_89 : decode cX11_earned 89 = .ok (.iload_n 1, 1) := by decide +kernel
theorem dX11_earned_90 : decode cX11_earned 90 = .ok (.imul, 1) := by decide +kernel
theorem dX11_earned_91 : decode cX11_earned 91 = .ok (.iload_n 3, 1) := by decide +kernel
theorem dX11_earned_92 : decode cX11_earned 92 = .ok (.iadd, 1) := by decide +kernel
theorem dX11_earned_93 : decode cX11_earned 93 = .ok (.iload 4, 2) := by decide +kernel
theorem dX11_earned_95 : decode cX11_earned 95 = .ok (.invokevirtual 266, 3) := by decide +kernel
theorem dX11_earned_98 : decode cX11_earned 98 = .ok (.iload 7, 2) := by decide +kernel
theorem dX11_earned_100 : decode cX11_earned 100 = .ok (.aload_n 0, 1) := by decide +kernel
theorem dX11_earned_101 : decode cX11_earned 101 = .ok (.iload 8, 2) := by decide +kernel
theorem dX11_earned_103 : decode cX11_earned 103 = .ok (.iconst 1, 1) := by decide +kernel
theorem dX11_earned_104 : decode cX11_earned 104 = .ok (.iadd, 1) := by decide +kernel
theorem dX11_earned_105 : decode cX11_earned 105 = .ok (.invokevirtual 270, 3) := by decide +kernel
theorem dX11_earned_108 : decode cX11_earned 108 = .ok (.iadd, 1) := by decide +kernel
theorem dX11_earned_109 : decode cX11_earned 109 = .ok (.istore 7, 2) := by decide +kernel
theorem dX11_earned_111 : decode cX11_earned 111 = .ok (.iinc 8 1, 3) := by decide +kernel
theorem dX11_earned_114 : decode cX11_earned 114 = .ok (.goto (-37), 3) := by decide +kernel
theorem dX11_earned_117 : decode cX11_earned 117 = .ok (.iload 7, 2) := by decide +kernel
theorem dX11_earned_119 : decode cX11_earned 119 = .ok (.ireturn, 1) := by decide +kernel
theorem dX11_areAlike_0 : decode cX11_areAlike 0 = .ok (.iconst 1, 1) := by decide +kernel
theorem dX11_areAlike_1 : decode cX11_areAlike 1 = .ok (.istore_n 3, 1) := by decide +kernel
theorem dX11_areAlike_2 : decode cX11_areAlike 2 = .ok (.iconst 0, 1) := by decide +kernel
theorem dX11_areAlike_3 : decode cX11_areAlike 3 = .ok (.istore 4, 2) := by decide +kernel
theorem dX11_areAlike_5 : decode cX11_areAlike 5 = .ok (.iload 4, 2) := by decide +kernel
theorem dX11_areAlike_7 : decode cX11_areAlike 7 = .ok (.aload_n 0, 1) := by decide +kernel
theorem dX11_areAlike_8 : decode cX11_areAlike 8 = .ok (.getfield 7, 3) := by decide +kernel
theorem dX11_areAlike_11 : decode cX11_areAlike 11 = .ok (.iconst 0, 1) := by decide +kernel
theorem dX11_areAlike_12 : decode cX11_areAlike 12 = .ok (.iaload, 1) := by decide +kernel
theorem dX11_areAlike_13 : decode cX11_areAlike 13 = .ok (.if_icmp .ge 73, 3) := by decide +kernel
theorem dX11_areAlike_16 : decode cX11_areAlike 16 = .ok (.iconst 0, 1) := by decide +kernel
theorem dX11_areAlike_17 : decode cX11_areAlike 17 = .ok (.istore 5, 2) := by decide +kernel
theorem dX11_areAlike_19 : decode cX11_areAlike 19 = .ok (.iload 5, 2) := by decide +kernel
theorem dX11_areAlike_21 : decode cX11_areAlike 21 = .ok (.iconst 4, 1) := by decide +kernel
theorem dX11_areAlike_22 : decode cX11_areAlike 22 = .ok (.if_icmp .ge 58, 3) := by decide +kernel
theorem dX11_areAlike_25 : decode cX11_areAlike 25 = .ok (.iload_n 3, 1) := by decide +kernel
theorem dX11_areAlike_26 : decode cX11_areAlike 26 = .ok (.ifCond .eq 46, 3) := by decide +kernel
theorem dX11_areAlike_29 : decode cX11_areAlike 29 = .ok (.aload_n 0, 1) := by decide +kernel
theorem dX11_areAlike_30 : decode cX11_areAlike 30 = .ok (.getfield 48, 3) := by decide +kernel
theorem dX11_areAlike_33 : decode cX11_areAlike 33 = .ok (.bipush 24, 2) := by decide +kernel
theorem dX11_areAlike_35 : decode cX11_areAlike 35 = .ok (.iload_n 1, 1) := by decide +kernel
theorem dX11_areAlike_36 : decode cX11_areAlike 36 = .ok (.imul, 1) := by decide +kernel
theorem dX11_areAlike_37 : decode cX11_areAlike 37 = .ok (.bipush 6, 2) := by decide +kernel
theorem dX11_areAlike_39 : decode cX11_areAlike 39 = .ok (.iload 5, 2) := by decide +kernel
theorem dX11_areAlike_41 : decode cX11_areAlike 41 = .ok (.imul, 1) := by decide +kernel
theorem dX11_areAlike_42 : decode cX11_areAlike 42 = .ok (.iadd, 1) := by decide +kernel
theorem dX11_areAlike_43 : decode cX11_areAlike 43 = .ok (.iload 4, 2) := by decide +kernel
theorem dX11_areAlike_45 : decode cX11_areAlike 45 = .ok (.iadd, 1) := by decide +kernel
theorem dX11_areAlike_46 : decode cX11_areAlike 46 = .ok (.iaload, 1) := by decide +kernel
theorem dX11_areAlike_47 : decode cX11_areAlike 47 = .ok (.aload_n 0, 1) := by decide +kernel
theorem dX11_areAlike_48 : decode cX11_areAlike 48 = .ok (.getfield 48, 3) := by decide +kernel
theorem dX11_areAlike_51 : decode cX11_areAlike 51 = .ok (.bipush 24, 2) := by decide +kernel
theorem dX11_areAlike_53 : decode cX11_areAlike 53 = .ok (.iload_n 2, 1) := by decide +kernel
theorem dX11_areAlike_54 : decode cX11_areAlike 54 = .ok (.imul, 1) := by decide +kernel
theorem dX11_areAlike_55 : decode cX11_areAlike 55 = .ok (.bipush 6, 2) := by decide +kernel
theorem dX11_areAlike_57 : decode cX11_areAlike 57 = .ok (.iload 5, 2) := by decide +kernel
theorem dX11_areAlike_59 : decode cX11_areAlike 59 = .ok (.imul, 1) := by decide +kernel
theorem dX11_areAlike_60 : decode cX11_areAlike 60 = .ok (.iadd, 1) := by decide +kernel
theorem dX11_areAlike_61 : decode cX11_areAlike 61 = .ok (.iload 4, 2) := by decide +kernel
theorem dX11_areAlike_63 : decode cX11_areAlike 63 = .ok (.iadd, 1) := by decide +kernel
theorem dX11_areAlike_64 : decode cX11_areAlike 64 = .ok (.iaload, 1) := by decide +kernel
theorem dX11_areAlike_65 : decode cX11_areAlike 65 = .ok (.if_icmp .ne 7, 3) := by decide +kernel
theorem dX11_areAlike_68 : decode cX11_areAlike 68 = .ok (.iconst 1, 1) := by decide +kernel
theorem dX11_areAlike_69 : decode cX11_areAlike 69 = .ok (.goto 4, 3) := by decide +kernel
theorem dX11_areAlike_72 : decode cX11_areAlike 72 = .ok (.iconst 0, 1) := by decide +kernel
theorem dX11_areAlike_73 : decode cX11_areAlike 73 = .ok (.istore_n 3, 1) := by decide +kernel
theorem dX11_areAlike_74 : decode cX11_areAlike 74 = .ok (.iinc 5 1, 3) := by decide +kernel
theorem dX11_areAlike_77 : decode cX11_areAlike 77 = .ok (.goto (-58), 3) := by decide +kernel
theorem dX11_areAlike_80 : decode cX11_areAlike 80 = .ok (.iinc 4 1, 3) := by decide +kernel
theorem dX11_areAlike_83 : decode cX11_areAlike 83 = .ok (.goto (-78), 3) := by decide +kernel
theorem dX11_areAlike_86 : decode cX11_areAlike 86 = .ok (.iload_n 3, 1) := by decide +kernel
theorem dX11_areAlike_87 : decode cX11_areAlike 87 = .ok (.ireturn, 1) := by decide +kernel
theorem dX11_again_0 : decode cX11_again 0 = .ok (.iload_n 1, 1) := by decide +kernel
theorem dX11_again_1 : decode cX11_again 1 = .ok (.invokestatic 237, 3) := by decide +kernel
theorem dX11_again_4 : decode cX11_again 4 = .ok (.ifCond .eq 34, 3) := by decide +kernel
theorem dX11_again_7 : decode cX11_again 7 = .ok (.iload_n 2, 1) := by decide +kernel
theorem dX11_again_8 : decode cX11_again 8 = .ok (.invokestatic 240, 3) := by decide +kernel
theorem dX11_again_11 : decode cX11_again 11 = .ok (.ifCond .eq 27, 3) := by decide +kernel
theorem dX11_again_14 : decode cX11_again 14 = .ok (.iload 4, 2) := by decide +kernel
theorem dX11_again_16 : decode cX11_again 16 = .ok (.i2l, 1) := by decide +kernel
theorem dX11_again_17 : decode cX11_again 17 = .ok (.lconst 1, 1) := by decide +kernel
theorem dX11_again_18 : decode cX11_again 18 = .ok (.ldc2_w 254, 3) := by decide +kernel
theorem dX11_again_21 : decode cX11_again 21 = .ok (.invokestatic 51, 3) := by decide +kernel
theorem dX11_again_24 : decode cX11_again 24 = .ok (.ifCond .eq 14, 3) := by decide +kernel
theorem dX11_again_27 : decode cX11_again 27 = .ok (.iload 5, 2) := by decide +kernel
theorem dX11_again_29 : decode cX11_again 29 = .ok (.i2l, 1) := by decide +kernel
theorem dX11_again_30 : decode cX11_again 30 = .ok (.lconst 0, 1) := by decide +kernel
theorem dX11_again_31 : decode cX11_again 31 = .ok (.lconst 1, 1) := by decide +kernel
theorem dX11_again_32 : decode cX11_again 32 = .ok (.invokestatic 51, 3) := by decide +kernel
theorem dX11_again_35 : decode cX11_again 35 = .ok (.ifCond .ne 5, 3) := by decide +kernel
theorem dX11_again_38 : decode cX11_again 38 = .ok (.iconst (-1), 1) := by decide +kernel
theorem dX11_again_39 : decode cX11_again 39 = .ok (.ireturn, 1) := by decide +kernel
theorem dX11_again_40 : decode cX11_again 40 = .ok (.aload_n 0, 1) := by decide +kernel
theorem dX11_again_41 : decode cX11_again 41 = .ok (.iload_n 1, 1) := by decide +kernel
theorem dX11_again_42 : decode cX11_again 42 = .ok (.iload_n 2, 1) := by decide +kernel
theorem dX11_again_43 : decode cX11_again 43 = .ok (.iload_n 3, 1) := by decide +kernel
theorem dX11_again_44 : decode cX11_again 44 = .ok (.iload 4, 2) := by decide +kernel
theorem dX11_again_46 : decode cX11_again 46 = .ok (.invokevirtual 258, 3) := by decide +kernel
theorem dX11_again_49 : decode cX11_again 49 = .ok (.istore 6, 2) := by decide +kernel
theorem dX11_again_51 : decode cX11_again 51 = .ok (.iload 6, 2) := by decide +kernel
theorem dX11_again_53 : decode cX11_again 53 = .ok (.ifCond .eq 6, 3) := by decide +kernel
theorem dX11_again_56 : decode cX11_again 56 = .ok (.iload 6, 2) := by decide +kernel
theorem dX11_again_58 : decode cX11_again 58 = .ok (.ireturn, 1) := by decide +kernel
theorem dX11_again_59 : decode cX11_again 59 = .ok (.aload_n 0, 1) := by decide +kernel
theorem dX11_again_60 : decode cX11_again 60 = .ok (.iconst 0, 1) := by decide +kernel
theorem dX11_again_61 : decode cX11_again 61 = .ok (.invokevirtual 262, 3) := by decide +kernel
theorem dX11_again_64 : decode cX11_again 64 = .ok (.iconst 1, 1) := by decide +kernel
theorem dX11_again_65 : decode cX11_again 65 = .ok (.istore 7, 2) := by decide +kernel
theorem dX11_again_67 : decode cX11_again 67 = .ok (.iload 7, 2) := by decide +kernel
theorem dX11_again_69 : decode cX11_again 69 = .ok (.sipush 200, 3) := by decide +kernel
theorem dX11_again_72 : decode cX11_again 72 = .ok (.if_icmp .gt 73, 3) := by decide +kernel
theorem dX11_again_75 : decode cX11_again 75 = .ok (.aload_n 0, 1) := by decide +kernel
theorem dX11_again_76 : decode cX11_again 76 = .ok (.iload 7, 2) := by decide +kernel
theorem dX11_again_78 : decode cX11_again 78 = .ok (.iconst 1, 1) := by decide +kernel
theorem dX11_again_79 : decode cX11_again 79 = .ok (.isub, 1) := by decide +kernel
theorem dX11_again_80 : decode cX11_again 80 = .ok (.bipush 16, 2) := by decide +kernel
theorem dX11_again_82 : decode cX11_again 82 = .ok (.iload_n 1, 1) := by decide +kernel
theorem dX11_again_83 : decode cX11_again 83 = .ok (.imul, 1) := by decide +kernel
theorem dX11_again_84 : decode cX11_again 84 = .ok (.iload_n 3, 1) := by decide +kernel
theorem dX11_again_85 : decode cX11_again 85 = .ok (.iadd, 1) := by decide +kernel
theorem dX11_again_86 : decode cX11_again 86 = .ok (.iload 4, 2) := by decide +kernel
theorem dX11_again_88 : decode cX11_again 88 = .ok (.invokevirtual 266, 3) := by decide +kernel
theorem dX11_again_91 : decode cX11_again 91 = .ok (.iload 4, 2) := by decide +kernel
theorem dX11_again_93 : decode cX11_again 93 = .ok (.istore 8, 2) := by decide +kernel
theorem dX11_again_95 : decode cX11_again 95 = .ok (.iload 8, 2) := by decide +kernel
theorem dX11_again_97 : decode cX11_again 97 = .ok (.iload 7, 2) := by decide +kernel
theorem dX11_again_99 : decode cX11_again 99 = .ok (.if_icmp .gt 40, 3) := by decide +kernel
theorem dX11_again_102 : decode cX11_again 102 = .ok (.aload_n 0, 1) := by decide +kernel
theorem dX11_again_103 : decode cX11_again 103 = .ok (.iload 7, 2) := by decide +kernel
