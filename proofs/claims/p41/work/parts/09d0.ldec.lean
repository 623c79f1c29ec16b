theorem dL_asks_0 : decode cL_asks 0 = .ok (.iload_n 1, 1) := by decide +kernel
theorem dL_asks_1 : decode cL_asks 1 = .ok (.ifCond .ne 11, 3) := by decide +kernel
theorem dL_asks_4 : decode cL_asks 4 = .ok (.aload_n 0, 1) := by decide +kernel
theorem dL_asks_5 : decode cL_asks 5 = .ok (.iload_n 2, 1) := by decide +kernel
theorem dL_asks_6 : decode cL_asks 6 = .ok (.invokevirtual 7, 3) := by decide +kernel
theorem dL_asks_9 : decode cL_asks 9 = .ok (.goto 91, 3) := by decide +kernel
theorem dL_asks_12 : decode cL_asks 12 = .ok (.iload_n 1, 1) := by decide +kernel
theorem dL_asks_13 : decode cL_asks 13 = .ok (.iconst 1, 1) := by decide +kernel
theorem dL_asks_14 : decode cL_asks 14 = .ok (.if_icmp .ne 12, 3) := by decide +kernel
theorem dL_asks_17 : decode cL_asks 17 = .ok (.aload_n 0, 1) := by decide +kernel
theorem dL_asks_18 : decode cL_asks 18 = .ok (.iload_n 2, 1) := by decide +kernel
theorem dL_asks_19 : decode cL_asks 19 = .ok (.iload_n 3, 1) := by decide +kernel
theorem dL_asks_20 : decode cL_asks 20 = .ok (.invokevirtual 13, 3) := by decide +kernel
theorem dL_asks_23 : decode cL_asks 23 = .ok (.goto 77, 3) := by decide +kernel
theorem dL_asks_26 : decode cL_asks 26 = .ok (.iload_n 1, 1) := by decide +kernel
theorem dL_asks_27 : decode cL_asks 27 = .ok (.iconst 2, 1) := by decide +kernel
theorem dL_asks_28 : decode cL_asks 28 = .ok (.if_icmp .ne 12, 3) := by decide +kernel
theorem dL_asks_31 : decode cL_asks 31 = .ok (.aload_n 0, 1) := by decide +kernel
theorem dL_asks_32 : decode cL_asks 32 = .ok (.iload_n 2, 1) := by decide +kernel
theorem dL_asks_33 : decode cL_asks 33 = .ok (.iload_n 3, 1) := by decide +kernel
theorem dL_asks_34 : decode cL_asks 34 = .ok (.invokevirtual 17, 3) := by decide +kernel
theorem dL_asks_37 : decode cL_asks 37 = .ok (.goto 63, 3) := by decide +kernel
theorem dL_asks_40 : decode cL_asks 40 = .ok (.iload_n 1, 1) := by decide +kernel
theorem dL_asks_41 : decode cL_asks 41 = .ok (.iconst 3, 1) := by decide +kernel
theorem dL_asks_42 : decode cL_asks 42 = .ok (.if_icmp .ne 12, 3) := by decide +kernel
theorem dL_asks_45 : decode cL_asks 45 = .ok (.aload_n 0, 1) := by decide +kernel
theorem dL_asks_46 : decode cL_asks 46 = .ok (.iload_n 2, 1) := by decide +kernel
theorem dL_asks_47 : decode cL_asks 47 = .ok (.iload_n 3, 1) := by decide +kernel
theorem dL_asks_48 : decode cL_asks 48 = .ok (.invokevirtual 20, 3) := by decide +kernel
theorem dL_asks_51 : decode cL_asks 51 = .ok (.goto 49, 3) := by decide +kernel
theorem dL_asks_54 : decode cL_asks 54 = .ok (.iload_n 1, 1) := by decide +kernel
theorem dL_asks_55 : decode cL_asks 55 = .ok (.iconst 4, 1) := by decide +kernel
theorem dL_asks_56 : decode cL_asks 56 = .ok (.if_icmp .ne 12, 3) := by decide +kernel
theorem dL_asks_59 : decode cL_asks 59 = .ok (.aload_n 0, 1) := by decide +kernel
theorem dL_asks_60 : decode cL_asks 60 = .ok (.iload_n 2, 1) := by decide +kernel
theorem dL_asks_61 : decode cL_asks 61 = .ok (.iload_n 3, 1) := by decide +kernel
theorem dL_asks_62 : decode cL_asks 62 = .ok (.invokevirtual 23, 3) := by decide +kernel
theorem dL_asks_65 : decode cL_asks 65 = .ok (.goto 35, 3) := by decide +kernel
theorem dL_asks_68 : decode cL_asks 68 = .ok (.iload_n 1, 1) := by decide +kernel
theorem dL_asks_69 : decode cL_asks 69 = .ok (.iconst 5, 1) := by decide +kernel
theorem dL_asks_70 : decode cL_asks 70 = .ok (.if_icmp .ne 12, 3) := by decide +kernel
theorem dL_asks_73 : decode cL_asks 73 = .ok (.aload_n 0, 1) := by decide +kernel
theorem dL_asks_74 : decode cL_asks 74 = .ok (.iload_n 2, 1) := by decide +kernel
theorem dL_asks_75 : decode cL_asks 75 = .ok (.iload_n 3, 1) := by decide +kernel
theorem dL_asks_76 : decode cL_asks 76 = .ok (.invokevirtual 26, 3) := by decide +kernel
theorem dL_asks_79 : decode cL_asks 79 = .ok (.goto 21, 3) := by decide +kernel
theorem dL_asks_82 : decode cL_asks 82 = .ok (.iload_n 1, 1) := by decide +kernel
theorem dL_asks_83 : decode cL_asks 83 = .ok (.bipush 6, 2) := by decide +kernel
theorem dL_asks_85 : decode cL_asks 85 = .ok (.if_icmp .ne 11, 3) := by decide +kernel
theorem dL_asks_88 : decode cL_asks 88 = .ok (.aload_n 0, 1) := by decide +kernel
theorem dL_asks_89 : decode cL_asks 89 = .ok (.iload_n 2, 1) := by decide +kernel
theorem dL_asks_90 : decode cL_asks 90 = .ok (.invokevirtual 29, 3) := by decide +kernel
theorem dL_asks_93 : decode cL_asks 93 = .ok (.goto 7, 3) := by decide +kernel
theorem dL_asks_96 : decode cL_asks 96 = .ok (.aload_n 0, 1) := by decide +kernel
theorem dL_asks_97 : decode cL_asks 97 = .ok (.invokevirtual 32, 3) := by decide +kernel
theorem dL_asks_100 : decode cL_asks 100 = .ok (.ireturn, 1) := by decide +kernel
theorem dL_on_0 : decode cL_on 0 = .ok (.aload_n 0, 1) := by decide +kernel
theorem dL_on_1 : decode cL_on 1 = .ok (.iload_n 1, 1) := by decide +kernel
theorem dL_on_2 : decode cL_on 2 = .ok (.iload_n 2, 1) := by decide +kernel
theorem dL_on_3 : decode cL_on 3 = .ok (.iload_n 3, 1) := by decide +kernel
theorem dL_on_4 : decode cL_on 4 = .ok (.invokestatic 36, 3) := by decide +kernel
theorem dL_on_7 : decode cL_on 7 = .ok (.ireturn, 1) := by decide +kernel
theorem dL_on_8 : decode cL_on 8 = .ok (.astore 4, 2) := by decide +kernel
theorem dL_on_10 : decode cL_on 10 = .ok (.bipush (-11), 2) := by decide +kernel
theorem dL_on_12 : decode cL_on 12 = .ok (.ireturn, 1) := by decide +kernel
theorem dL_on_13 : decode cL_on 13 = .ok (.astore 4, 2) := by decide +kernel
theorem dL_on_15 : decode cL_on 15 = .ok (.bipush (-13), 2) := by decide +kernel
theorem dL_on_17 : decode cL_on 17 = .ok (.ireturn, 1) := by decide +kernel
theorem dL_isFile_0 : decode cL_isFile 0 = .ok (.aload_n 0, 1) := by decide +kernel
theorem dL_isFile_1 : decode cL_isFile 1 = .ok (.iload_n 1, 1) := by decide +kernel
theorem dL_isFile_2 : decode cL_isFile 2 = .ok (.invokevirtual 46, 3) := by decide +kernel
theorem dL_isFile_5 : decode cL_isFile 5 = .ok (.istore 4, 2) := by decide +kernel
theorem dL_isFile_7 : decode cL_isFile 7 = .ok (.aload_n 0, 1) := by decide +kernel
theorem dL_isFile_8 : decode cL_isFile 8 = .ok (.iload_n 1, 1) := by decide +kernel
theorem dL_isFile_9 : decode cL_isFile 9 = .ok (.invokevirtual 49, 3) := by decide +kernel
theorem dL_isFile_12 : decode cL_isFile 12 = .ok (.istore 5, 2) := by decide +kernel
theorem dL_isFile_14 : decode cL_isFile 14 = .ok (.iconst 0, 1) := by decide +kernel
theorem dL_isFile_15 : decode cL_isFile 15 = .ok (.istore 6, 2) := by decide +kernel
theorem dL_isFile_17 : decode cL_isFile 17 = .ok (.iload 5, 2) := by decide +kernel
theorem dL_isFile_19 : decode cL_isFile 19 = .ok (.bipush 48, 2) := by decide +kernel
theorem dL_isFile_21 : decode cL_isFile 21 = .ok (.if_icmp .gt 30, 3) := by decide +kernel
theorem dL_isFile_24 : decode cL_isFile 24 = .ok (.iload 4, 2) := by decide +kernel
theorem dL_isFile_26 : decode cL_isFile 26 = .ok (.ifCond .ne 7, 3) := by decide +kernel
theorem dL_isFile_29 : decode cL_isFile 29 = .ok (.iconst 1, 1) := by decide +kernel
theorem dL_isFile_30 : decode cL_isFile 30 = .ok (.goto 4, 3) := by decide +kernel
theorem dL_isFile_33 : decode cL_isFile 33 = .ok (.iconst 0, 1) := by decide +kernel
theorem dL_isFile_34 : decode cL_isFile 34 = .ok (.iload 5, 2) := by decide +kernel
theorem dL_isFile_36 : decode cL_isFile 36 = .ok (.ifCond .ne 7, 3) := by decide +kernel
theorem dL_isFile_39 : decode cL_isFile 39 = .ok (.iconst 1, 1) := by decide +kernel
theorem dL_isFile_40 : decode cL_isFile 40 = .ok (.goto 4, 3) := by decide +kernel
theorem dL_isFile_43 : decode cL_isFile 43 = .ok (.iconst 0, 1) := by decide +kernel
theorem dL_isFile_44 : decode cL_isFile 44 = .ok (.if_icmp .ne 7, 3) := by decide +kernel
theorem dL_isFile_47 : decode cL_isFile 47 = .ok (.iconst 1, 1) := by decide +kernel
theorem dL_isFile_48 : decode cL_isFile 48 = .ok (.goto 4, 3) := by decide +kernel
theorem dL_isFile_51 : decode cL_isFile 51 = .ok (.iconst 0, 1) := by decide +kernel
theorem dL_isFile_52 : decode cL_isFile 52 = .ok (.istore 7, 2) := by decide +kernel
theorem dL_isFile_54 : decode cL_isFile 54 = .ok (.iconst 0, 1) := by decide +kernel
theorem dL_isFile_55 : decode cL_isFile 55 = .ok (.istore 8, 2) := by decide +kernel
theorem dL_isFile_57 : decode cL_isFile 57 = .ok (.iload 8, 2) := by decide +kernel
theorem dL_isFile_59 : decode cL_isFile 59 = .ok (.iload 4, 2) := by decide +kernel
theorem dL_isFile_61 : decode cL_isFile 61 = .ok (.if_icmp .ge 68, 3) := by decide +kernel
theorem dL_isFile_64 : decode cL_isFile 64 = .ok (.iload 7, 2) := by decide +kernel
theorem dL_isFile_66 : decode cL_isFile 66 = .ok (.ifCond .eq 63, 3) := by decide +kernel
theorem dL_isFile_69 : decode cL_isFile 69 = .ok (.aload_n 0, 1) := by decide +kernel
theorem dL_isFile_70 : decode cL_isFile 70 = .ok (.iload_n 1, 1) := by decide +kernel
theorem dL_isFile_71 : decode cL_isFile 71 = .ok (.iload 8, 2) := by decide +kernel
theorem dL_isFile_73 : decode cL_isFile 73 = .ok (.invokevirtual 52, 3) := by decide +kernel
theorem dL_isFile_76 : decode cL_isFile 76 = .ok (.istore 9, 2) := by decide +kernel
theorem dL_isFile_78 : decode cL_isFile 78 = .ok (.iload 9, 2) := by decide +kernel
theorem dL_isFile_80 : decode cL_isFile 80 = .ok (.iload 6, 2) := by decide +kernel
theorem dL_isFile_82 : decode cL_isFile 82 = .ok (.if_icmp .le 34, 3) := by decide +kernel
theorem dL_isFile_85 : decode cL_isFile 85 = .ok (.iload 9, 2) := by decide +kernel
theorem dL_isFile_87 : decode cL_isFile 87 = .ok (.iload 6, 2) := by decide +kernel
theorem dL_isFile_89 : decode cL_isFile 89 = .ok (.isub, 1) := by decide +kernel
theorem dL_isFile_90 : decode cL_isFile 90 = .ok (.iload_n 3, 1) := by decide +kernel
theorem dL_isFile_91 : decode cL_isFile 91 = .ok (.if_icmp .gt 25, 3) := by decide +kernel
theorem dL_isFile_94 : decode cL_isFile 94 = .ok (.iload 8, 2) := by decide +kernel
theorem dL_isFile_96 : decode cL_isFile 96 = .ok (.iload 4, 2) := by decide +kernel
theorem dL_isFile_98 : decode cL_isFile 98 = .ok (.iconst 1, 1) := by decide +kernel
theorem dL_isFile_99 : decode cL_isFile 99 = .ok (.isub, 1) := by decide +kernel
theorem dL_isFile_100 : decode cL_isFile 100 = .ok (.if_icmp .eq 12, 3) := by decide +kernel
theorem dL_isFile_103 : decode cL_isFile 103 = .ok (.iload 9, 2) := by decide +kernel
theorem dL_isFile_105 : decode cL_isFile 105 = .ok (.iload 6, 2) := by decide +kernel
theorem dL_isFile_107 : decode cL_isFile 107 = .ok (.isub, 1) := by decide +kernel
theorem dL_isFile_108 : decode cL_isFile 108 = .ok (.iload_n 2, 1) := by decide +kernel
theorem dL_isFile_109 : decode cL_isFile 109 = .ok (.if_icmp .lt 7, 3) := by decide +kernel
theorem dL_isFile_112 : decode cL_isFile 112 = .ok (.iconst 1, 1) := by decide +kernel
theorem dL_isFile_113 : decode cL_isFile 113 = .ok (.goto 4, 3) := by decide +kernel
theorem dL_isFile_116 : decode cL_isFile 116 = .ok (.iconst 0, 1) := by decide +kernel
theorem dL_isFile_117 : decode cL_isFile 117 = .ok (.istore 7, 2) := by decide +kernel
theorem dL_isFile_119 : decode cL_isFile 119 = .ok (.iload 9, 2) := by decide +kernel
theorem dL_isFile_121 : decode cL_isFile 121 = .ok (.istore 6, 2) := by decide +kernel
theorem dL_isFile_123 : decode cL_isFile 123 = .ok (.iinc 8 1, 3) := by decide +kernel
theorem dL_isFile_126 : decode cL_isFile 126 = .ok (.goto (-69), 3) := by decide +kernel
theorem dL_isFile_129 : decode cL_isFile 129 = .ok (.lconst 0, 1) := by decide +kernel
theorem dL_isFile_130 : decode cL_isFile 130 = .ok (.lstore 8, 2) := by decide +kernel
theorem dL_isFile_132 : decode cL_isFile 132 = .ok (.iconst 0, 1) := by decide +kernel
theorem dL_isFile_133 : decode cL_isFile 133 = .ok (.istore 10, 2) := by decide +kernel
theorem dL_isFile_135 : decode cL_isFile 135 = .ok (.iload 10, 2) := by decide +kernel
theorem dL_isFile_137 : decode cL_isFile 137 = .ok (.iload 5, 2) := by decide +kernel
theorem dL_isFile_139 : decode cL_isFile 139 = .ok (.if_icmp .ge 30, 3) := by decide +kernel
theorem dL_isFile_142 : decode cL_isFile 142 = .ok (.lload 8, 2) := by decide +kernel
theorem dL_isFile_144 : decode cL_isFile 144 = .ok (.iconst 5, 1) := by decide +kernel
theorem dL_isFile_145 : decode cL_isFile 145 = .ok (.lshl, 1) := by decide +kernel
theorem dL_isFile_146 : decode cL_isFile 146 = .ok (.lload 8, 2) := by decide +kernel
theorem dL_isFile_148 : decode cL_isFile 148 = .ok (.bipush 59, 2) := by decide +kernel
theorem dL_isFile_150 : decode cL_isFile 150 = .ok (.lushr, 1) := by decide +kernel
theorem dL_isFile_151 : decode cL_isFile 151 = .ok (.lor, 1) := by decide +kernel
theorem dL_isFile_152 : decode cL_isFile 152 = .ok (.aload_n 0, 1) := by decide +kernel
theorem dL_isFile_153 : decode cL_isFile 153 = .ok (.iload_n 1, 1) := by decide +kernel
theorem dL_isFile_154 : decode cL_isFile 154 = .ok (.iload 10, 2) := by decide +kernel
theorem dL_isFile_156 : decode cL_isFile 156 = .ok (.invokevirtual 55, 3) := by decide +kernel
theorem dL_isFile_159 : decode cL_isFile 159 = .ok (.i2l, 1) := by decide +kernel
theorem dL_isFile_160 : decode cL_isFile 160 = .ok (.lxor, 1) := by decide +kernel
theorem dL_isFile_161 : decode cL_isFile 161 = .ok (.lstore 8, 2) := by decide +kernel
theorem dL_isFile_163 : decode cL_isFile 163 = .ok (.iinc 10 1, 3) := by decide +kernel
theorem dL_isFile_166 : decode cL_isFile 166 = .ok (.goto (-31), 3) := by decide +kernel
theorem dL_isFile_169 : decode cL_isFile 169 = .ok (.aload_n 0, 1) := by decide +kernel
theorem dL_isFile_170 : decode cL_isFile 170 = .ok (.iload_n 1, 1) := by decide +kernel
theorem dL_isFile_171 : decode cL_isFile 171 = .ok (.invokevirtual 58, 3) := by decide +kernel
theorem dL_isFile_174 : decode cL_isFile 174 = .ok (.istore 10, 2) := by decide +kernel
theorem dL_isFile_176 : decode cL_isFile 176 = .ok (.aload_n 0, 1) := by decide +kernel
theorem dL_isFile_177 : decode cL_isFile 177 = .ok (.iconst 0, 1) := by decide +kernel
theorem dL_isFile_178 : decode cL_isFile 178 = .ok (.iload_n 1, 1) := by decide +kernel
theorem dL_isFile_179 : decode cL_isFile 179 = .ok (.iconst 0, 1) := by decide +kernel
theorem dL_isFile_180 : decode cL_isFile 180 = .ok (.invokestatic 61, 3) := by decide +kernel
theorem dL_isFile_183 : decode cL_isFile 183 = .ok (.istore 11, 2) := by decide +kernel
theorem dL_isFile_185 : decode cL_isFile 185 = .ok (.iload 7, 2) := by decide +kernel
theorem dL_isFile_187 : decode cL_isFile 187 = .ok (.ifCond .eq 83, 3) := by decide +kernel
theorem dL_isFile_190 : decode cL_isFile 190 = .ok (.iload 6, 2) := by decide +kernel
theorem dL_isFile_192 : decode cL_isFile 192 = .ok (.iload 5, 2) := by decide +kernel
theorem dL_isFile_194 : decode cL_isFile 194 = .ok (.if_icmp .ne 76, 3) := by decide +kernel
theorem dL_isFile_197 : decode cL_isFile 197 = .ok (.aload_n 0, 1) := by decide +kernel
theorem dL_isFile_198 : decode cL_isFile 198 = .ok (.iload_n 1, 1) := by decide +kernel
theorem dL_isFile_199 : decode cL_isFile 199 = .ok (.invokevirtual 64, 3) := by decide +kernel
theorem dL_isFile_202 : decode cL_isFile 202 = .ok (.lload 8, 2) := by decide +kernel
theorem dL_isFile_204 : decode cL_isFile 204 = .ok (.lcmp, 1) := by decide +kernel
theorem dL_isFile_205 : decode cL_isFile 205 = .ok (.ifCond .ne 65, 3) := by decide +kernel
theorem dL_isFile_208 : decode cL_isFile 208 = .ok (.iload 10, 2) := by decide +kernel
theorem dL_isFile_210 : decode cL_isFile 210 = .ok (.iload 4, 2) := by decide +kernel
theorem dL_isFile_212 : decode cL_isFile 212 = .ok (.if_icmp .lt 58, 3) := by decide +kernel
theorem dL_isFile_215 : decode cL_isFile 215 = .ok (.iload 10, 2) := by decide +kernel
theorem dL_isFile_217 : decode cL_isFile 217 = .ok (.iload 4, 2) := by decide +kernel
theorem dL_isFile_219 : decode cL_isFile 219 = .ok (.iload 5, 2) := by decide +kernel
theorem dL_isFile_221 : decode cL_isFile 221 = .ok (.iadd, 1) := by decide +kernel
theorem dL_isFile_222 : decode cL_isFile 222 = .ok (.if_icmp .gt 48, 3) := by decide +kernel
theorem dL_isFile_225 : decode cL_isFile 225 = .ok (.iload 11, 2) := by decide +kernel
theorem dL_isFile_227 : decode cL_isFile 227 = .ok (.bipush (-13), 2) := by decide +kernel
theorem dL_isFile_229 : decode cL_isFile 229 = .ok (.if_icmp .ne 15, 3) := by decide +kernel
theorem dL_isFile_232 : decode cL_isFile 232 = .ok (.aload_n 0, 1) := by decide +kernel
theorem dL_isFile_233 : decode cL_isFile 233 = .ok (.iload_n 1, 1) := by decide +kernel
theorem dL_isFile_234 : decode cL_isFile 234 = .ok (.invokevirtual 68, 3) := by decide +kernel
theorem dL_isFile_237 : decode cL_isFile 237 = .ok (.iconst (-1), 1) := by decide +kernel
theorem dL_isFile_238 : decode cL_isFile 238 = .ok (.if_icmp .ne 32, 3) := by decide +kernel
theorem dL_isFile_241 : decode cL_isFile 241 = .ok (.goto 25, 3) := by decide +kernel
theorem dL_isFile_244 : decode cL_isFile 244 = .ok (.aload_n 0, 1) := by decide +kernel
theorem dL_isFile_245 : decode cL_isFile 245 = .ok (.iload_n 1, 1) := by decide +kernel
theorem dL_isFile_246 : decode cL_isFile 246 = .ok (.invokevirtual 68, 3) := by decide +kernel
theorem dL_isFile_249 : decode cL_isFile 249 = .ok (.ifCond .lt 21, 3) := by decide +kernel
theorem dL_isFile_252 : decode cL_isFile 252 = .ok (.iload 11, 2) := by decide +kernel
theorem dL_isFile_254 : decode cL_isFile 254 = .ok (.iload 4, 2) := by decide +kernel
theorem dL_isFile_256 : decode cL_isFile 256 = .ok (.if_icmp .lt 14, 3) := by decide +kernel
theorem dL_isFile_259 : decode cL_isFile 259 = .ok (.iload 11, 2) := by decide +kernel
theorem dL_isFile_261 : decode cL_isFile 261 = .ok (.iload 10, 2) := by decide +kernel
theorem dL_isFile_263 : decode cL_isFile 263 = .ok (.if_icmp .gt 7, 3) := by decide +kernel
theorem dL_isFile_266 : decode cL_isFile 266 = .ok (.iconst 1, 1) := by decide +kernel
theorem dL_isFile_267 : decode cL_isFile 267 = .ok (.goto 4, 3) := by decide +kernel
theorem dL_isFile_270 : decode cL_isFile 270 = .ok (.iconst 0, 1) := by decide +kernel
theorem dL_isFile_271 : decode cL_isFile 271 = .ok (.ireturn, 1) := by decide +kernel
theorem dL_isDay_0 : decode cL_isDay 0 = .ok (.aload_n 0, 1) := by decide +kernel
theorem dL_isDay_1 : decode cL_isDay 1 = .ok (.iload_n 1, 1) := by decide +kernel
theorem dL_isDay_2 : decode cL_isDay 2 = .ok (.iload_n 2, 1) := by decide +kernel
theorem dL_isDay_3 : decode cL_isDay 3 = .ok (.invokevirtual 71, 3) := by decide +kernel
theorem dL_isDay_6 : decode cL_isDay 6 = .ok (.istore 6, 2) := by decide +kernel
theorem dL_isDay_8 : decode cL_isDay 8 = .ok (.aload_n 0, 1) := by decide +kernel
theorem dL_isDay_9 : decode cL_isDay 9 = .ok (.iconst 1, 1) := by decide +kernel
theorem dL_isDay_10 : decode cL_isDay 10 = .ok (.iload_n 1, 1) := by decide +kernel
theorem dL_isDay_11 : decode cL_isDay 11 = .ok (.iload_n 2, 1) := by decide +kernel
theorem dL_isDay_12 : decode cL_isDay 12 = .ok (.invokestatic 61, 3) := by decide +kernel
theorem dL_isDay_15 : decode cL_isDay 15 = .ok (.istore 7, 2) := by decide +kernel
theorem dL_isDay_17 : decode cL_isDay 17 = .ok (.iload 6, 2) := by decide +kernel
theorem dL_isDay_19 : decode cL_isDay 19 = .ok (.ifCond .ne 77, 3) := by decide +kernel
theorem dL_isDay_22 : decode cL_isDay 22 = .ok (.iload 7, 2) := by decide +kernel
theorem dL_isDay_24 : decode cL_isDay 24 = .ok (.bipush (-13), 2) := by decide +kernel
theorem dL_isDay_26 : decode cL_isDay 26 = .ok (.if_icmp .ne 68, 3) := by decide +kernel
theorem dL_isDay_29 : decode cL_isDay 29 = .ok (.aload_n 0, 1) := by decide +kernel
theorem dL_isDay_30 : decode cL_isDay 30 = .ok (.iconst 2, 1) := by decide +kernel
theorem dL_isDay_31 : decode cL_isDay 31 = .ok (.iload_n 1, 1) := by decide +kernel
theorem dL_isDay_32 : decode cL_isDay 32 = .ok (.iload_n 2, 1) := by decide +kernel
theorem dL_isDay_33 : decode cL_isDay 33 = .ok (.invokestatic 61, 3) := by decide +kernel
theorem dL_isDay_36 : decode cL_isDay 36 = .ok (.bipush (-13), 2) := by decide +kernel
theorem dL_isDay_38 : decode cL_isDay 38 = .ok (.if_icmp .ne 56, 3) := by decide +kernel
theorem dL_isDay_41 : decode cL_isDay 41 = .ok (.aload_n 0, 1) := by decide +kernel
theorem dL_isDay_42 : decode cL_isDay 42 = .ok (.iconst 3, 1) := by decide +kernel
theorem dL_isDay_43 : decode cL_isDay 43 = .ok (.iload_n 1, 1) := by decide +kernel
theorem dL_isDay_44 : decode cL_isDay 44 = .ok (.iload_n 2, 1) := by decide +kernel
theorem dL_isDay_45 : decode cL_isDay 45 = .ok (.invokestatic 61, 3) := by decide +kernel
theorem dL_isDay_48 : decode cL_isDay 48 = .ok (.bipush (-13), 2) := by decide +kernel
theorem dL_isDay_50 : decode cL_isDay 50 = .ok (.if_icmp .ne 44, 3) := by decide +kernel
theorem dL_isDay_53 : decode cL_isDay 53 = .ok (.aload_n 0, 1) := by decide +kernel
theorem dL_isDay_54 : decode cL_isDay 54 = .ok (.iconst 4, 1) := by decide +kernel
theorem dL_isDay_55 : decode cL_isDay 55 = .ok (.iload_n 1, 1) := by decide +kernel
theorem dL_isDay_56 : decode cL_isDay 56 = .ok (.iload_n 2, 1) := by decide +kernel
theorem dL_isDay_57 : decode cL_isDay 57 = .ok (.invokestatic 61, 3) := by decide +kernel
theorem dL_isDay_60 : decode cL_isDay 60 = .ok (.bipush (-13), 2) := by decide +kernel
theorem dL_isDay_62 : decode cL_isDay 62 = .ok (.if_icmp .ne 32, 3) := by decide +kernel
theorem dL_isDay_65 : decode cL_isDay 65 = .ok (.aload_n 0, 1) := by decide +kernel
theorem dL_isDay_66 : decode cL_isDay 66 = .ok (.iload_n 1, 1) := by decide +kernel
theorem dL_isDay_67 : decode cL_isDay 67 = .ok (.iload_n 2, 1) := by decide +kernel
theorem dL_isDay_68 : decode cL_isDay 68 = .ok (.invokevirtual 74, 3) := by decide +kernel
theorem dL_isDay_71 : decode cL_isDay 71 = .ok (.iload_n 2, 1) := by decide +kernel
theorem dL_isDay_72 : decode cL_isDay 72 = .ok (.ifCond .ne 7, 3) := by decide +kernel
theorem dL_isDay_75 : decode cL_isDay 75 = .ok (.iconst (-1), 1) := by decide +kernel
theorem dL_isDay_76 : decode cL_isDay 76 = .ok (.goto 11, 3) := by decide +kernel
theorem dL_isDay_79 : decode cL_isDay 79 = .ok (.aload_n 0, 1) := by decide +kernel
theorem dL_isDay_80 : decode cL_isDay 80 = .ok (.iload_n 1, 1) := by decide +kernel
theorem dL_isDay_81 : decode cL_isDay 81 = .ok (.iload_n 2, 1) := by decide +kernel
theorem dL_isDay_82 : decode cL_isDay 82 = .ok (.iconst 1, 1) := by decide +kernel
theorem dL_isDay_83 : decode cL_isDay 83 = .ok (.isub, 1) := by decide +kernel
theorem dL_isDay_84 : decode cL_isDay 84 = .ok (.invokevirtual 74, 3) := by decide +kernel
theorem dL_isDay_87 : decode cL_isDay 87 = .ok (.if_icmp .ne 7, 3) := by decide +kernel
theorem dL_isDay_90 : decode cL_isDay 90 = .ok (.iconst 1, 1) := by decide +kernel
theorem dL_isDay_91 : decode cL_isDay 91 = .ok (.goto 4, 3) := by decide +kernel
theorem dL_isDay_94 : decode cL_isDay 94 = .ok (.iconst 0, 1) := by decide +kernel
theorem dL_isDay_95 : decode cL_isDay 95 = .ok (.ireturn, 1) := by decide +kernel
theorem dL_isDay_96 : decode cL_isDay 96 = .ok (.aload_n 0, 1) := by decide +kernel
theorem dL_isDay_97 : decode cL_isDay 97 = .ok (.iconst 4, 1) := by decide +kernel
theorem dL_isDay_98 : decode cL_isDay 98 = .ok (.iload_n 1, 1) := by decide +kernel
theorem dL_isDay_99 : decode cL_isDay 99 = .ok (.iload_n 2, 1) := by decide +kernel
theorem dL_isDay_100 : decode cL_isDay 100 = .ok (.invokestatic 61, 3) := by decide +kernel
theorem dL_isDay_103 : decode cL_isDay 103 = .ok (.istore 8, 2) := by decide +kernel
theorem dL_isDay_105 : decode cL_isDay 105 = .ok (.aload_n 0, 1) := by decide +kernel
theorem dL_isDay_106 : decode cL_isDay 106 = .ok (.iconst 2, 1) := by decide +kernel
theorem dL_isDay_107 : decode cL_isDay 107 = .ok (.iload_n 1, 1) := by decide +kernel
theorem dL_isDay_108 : decode cL_isDay 108 = .ok (.iload_n 2, 1) := by decide +kernel
theorem dL_isDay_109 : decode cL_isDay 109 = .ok (.invokestatic 61, 3) := by decide +kernel
theorem dL_isDay_112 : decode cL_isDay 112 = .ok (.istore 9, 2) := by decide +kernel
theorem dL_isDay_114 : decode cL_isDay 114 = .ok (.iload 4, 2) := by decide +kernel
theorem dL_isDay_116 : decode cL_isDay 116 = .ok (.iload 8, 2) := by decide +kernel
theorem dL_isDay_118 : decode cL_isDay 118 = .ok (.imul, 1) := by decide +kernel
theorem dL_isDay_119 : decode cL_isDay 119 = .ok (.i2f, 1) := by decide +kernel
theorem dL_isDay_120 : decode cL_isDay 120 = .ok (.fstore 10, 2) := by decide +kernel
theorem dL_isDay_122 : decode cL_isDay 122 = .ok (.aload_n 0, 1) := by decide +kernel
theorem dL_isDay_123 : decode cL_isDay 123 = .ok (.iload_n 1, 1) := by decide +kernel
theorem dL_isDay_124 : decode cL_isDay 124 = .ok (.iload_n 2, 1) := by decide +kernel
theorem dL_isDay_125 : decode cL_isDay 125 = .ok (.invokevirtual 74, 3) := by decide +kernel
theorem dL_isDay_128 : decode cL_isDay 128 = .ok (.iload_n 2, 1) := by decide +kernel
theorem dL_isDay_129 : decode cL_isDay 129 = .ok (.if_icmp .ne 86, 3) := by decide +kernel
theorem dL_isDay_132 : decode cL_isDay 132 = .ok (.iload 7, 2) := by decide +kernel
theorem dL_isDay_134 : decode cL_isDay 134 = .ok (.ifCond .lt 81, 3) := by decide +kernel
theorem dL_isDay_137 : decode cL_isDay 137 = .ok (.iload 9, 2) := by decide +kernel
theorem dL_isDay_139 : decode cL_isDay 139 = .ok (.ifCond .lt 76, 3) := by decide +kernel
theorem dL_isDay_142 : decode cL_isDay 142 = .ok (.iload 9, 2) := by decide +kernel
theorem dL_isDay_144 : decode cL_isDay 144 = .ok (.iload 7, 2) := by decide +kernel
theorem dL_isDay_146 : decode cL_isDay 146 = .ok (.if_icmp .gt 69, 3) := by decide +kernel
theorem dL_isDay_149 : decode cL_isDay 149 = .ok (.aload_n 0, 1) := by decide +kernel
theorem dL_isDay_150 : decode cL_isDay 150 = .ok (.iload_n 1, 1) := by decide +kernel
theorem dL_isDay_151 : decode cL_isDay 151 = .ok (.iload_n 2, 1) := by decide +kernel
theorem dL_isDay_152 : decode cL_isDay 152 = .ok (.invokevirtual 77, 3) := by decide +kernel
theorem dL_isDay_155 : decode cL_isDay 155 = .ok (.aload_n 3, 1) := by decide +kernel
theorem dL_isDay_156 : decode cL_isDay 156 = .ok (.bipush 16, 2) := by decide +kernel
theorem dL_isDay_158 : decode cL_isDay 158 = .ok (.iload_n 1, 1) := by decide +kernel
theorem dL_isDay_159 : decode cL_isDay 159 = .ok (.imul, 1) := by decide +kernel
theorem dL_isDay_160 : decode cL_isDay 160 = .ok (.iload_n 2, 1) := by decide +kernel
theorem dL_isDay_161 : decode cL_isDay 161 = .ok (.iadd, 1) := by decide +kernel
theorem dL_isDay_162 : decode cL_isDay 162 = .ok (.laload, 1) := by decide +kernel
theorem dL_isDay_163 : decode cL_isDay 163 = .ok (.lcmp, 1) := by decide +kernel
theorem dL_isDay_164 : decode cL_isDay 164 = .ok (.ifCond .ne 51, 3) := by decide +kernel
theorem dL_isDay_167 : decode cL_isDay 167 = .ok (.aload_n 0, 1) := by decide +kernel
theorem dL_isDay_168 : decode cL_isDay 168 = .ok (.iload_n 1, 1) := by decide +kernel
theorem dL_isDay_169 : decode cL_isDay 169 = .ok (.iload_n 2, 1) := by decide +kernel
theorem dL_isDay_170 : decode cL_isDay 170 = .ok (.invokevirtual 81, 3) := by decide +kernel
theorem dL_isDay_173 : decode cL_isDay 173 = .ok (.aload_n 3, 1) := by decide +kernel
theorem dL_isDay_174 : decode cL_isDay 174 = .ok (.bipush 16, 2) := by decide +kernel
theorem dL_isDay_176 : decode cL_isDay 176 = .ok (.iload_n 1, 1) := by decide +kernel
theorem dL_isDay_177 : decode cL_isDay 177 = .ok (.imul, 1) := by decide +kernel
theorem dL_isDay_178 : decode cL_isDay 178 = .ok (.iload_n 2, 1) := by decide +kernel
theorem dL_isDay_179 : decode cL_isDay 179 = .ok (.iadd, 1) := by decide +kernel
theorem dL_isDay_180 : decode cL_isDay 180 = .ok (.laload, 1) := by decide +kernel
theorem dL_isDay_181 : decode cL_isDay 181 = .ok (.lcmp, 1) := by decide +kernel
theorem dL_isDay_182 : decode cL_isDay 182 = .ok (.ifCond .ne 33, 3) := by decide +kernel
theorem dL_isDay_185 : decode cL_isDay 185 = .ok (.iload 6, 2) := by decide +kernel
theorem dL_isDay_187 : decode cL_isDay 187 = .ok (.iconst 2, 1) := by decide +kernel
theorem dL_isDay_188 : decode cL_isDay 188 = .ok (.if_icmp .eq 9, 3) := by decide +kernel
theorem dL_isDay_191 : decode cL_isDay 191 = .ok (.iload 8, 2) := by decide +kernel
theorem dL_isDay_193 : decode cL_isDay 193 = .ok (.iconst 1, 1) := by decide +kernel
theorem dL_isDay_194 : decode cL_isDay 194 = .ok (.if_icmp .ne 21, 3) := by decide +kernel
theorem dL_isDay_197 : decode cL_isDay 197 = .ok (.iload 8, 2) := by decide +kernel
theorem dL_isDay_199 : decode cL_isDay 199 = .ok (.iconst 1, 1) := by decide +kernel
theorem dL_isDay_200 : decode cL_isDay 200 = .ok (.if_icmp .lt 15, 3) := by decide +kernel
theorem dL_isDay_203 : decode cL_isDay 203 = .ok (.iload 8, 2) := by decide +kernel
theorem dL_isDay_205 : decode cL_isDay 205 = .ok (.iload_n 2, 1) := by decide +kernel
theorem dL_isDay_206 : decode cL_isDay 206 = .ok (.iconst 1, 1) := by decide +kernel
theorem dL_isDay_207 : decode cL_isDay 207 = .ok (.iadd, 1) := by decide +kernel
theorem dL_isDay_208 : decode cL_isDay 208 = .ok (.if_icmp .gt 7, 3) := by decide +kernel
theorem dL_isDay_211 : decode cL_isDay 211 = .ok (.iconst 1, 1) := by decide +kernel
theorem dL_isDay_212 : decode cL_isDay 212 = .ok (.goto 4, 3) := by decide +kernel
theorem dL_isDay_215 : decode cL_isDay 215 = .ok (.iconst 0, 1) := by decide +kernel
theorem dL_isDay_216 : decode cL_isDay 216 = .ok (.istore 11, 2) := by decide +kernel
theorem dL_isDay_218 : decode cL_isDay 218 = .ok (.iload 11, 2) := by decide +kernel
theorem dL_isDay_220 : decode cL_isDay 220 = .ok (.ifCond .eq 53, 3) := by decide +kernel
theorem dL_isDay_223 : decode cL_isDay 223 = .ok (.aload_n 0, 1) := by decide +kernel
theorem dL_isDay_224 : decode cL_isDay 224 = .ok (.iload_n 1, 1) := by decide +kernel
theorem dL_isDay_225 : decode cL_isDay 225 = .ok (.iload_n 2, 1) := by decide +kernel
theorem dL_isDay_226 : decode cL_isDay 226 = .ok (.invokevirtual 84, 3) := by decide +kernel
theorem dL_isDay_229 : decode cL_isDay 229 = .ok (.fload 10, 2) := by decide +kernel
theorem dL_isDay_231 : decode cL_isDay 231 = .ok (.fcmp .l, 1) := by decide +kernel
theorem dL_isDay_232 : decode cL_isDay 232 = .ok (.ifCond .lt 41, 3) := by decide +kernel
theorem dL_isDay_235 : decode cL_isDay 235 = .ok (.aload_n 0, 1) := by decide +kernel
theorem dL_isDay_236 : decode cL_isDay 236 = .ok (.iload_n 1, 1) := by decide +kernel
theorem dL_isDay_237 : decode cL_isDay 237 = .ok (.iload_n 2, 1) := by decide +kernel
theorem dL_isDay_238 : decode cL_isDay 238 = .ok (.invokevirtual 84, 3) := by decide +kernel
theorem dL_isDay_241 : decode cL_isDay 241 = .ok (.fload 10, 2) := by decide +kernel
theorem dL_isDay_243 : decode cL_isDay 243 = .ok (.ldc 88, 2) := by decide +kernel
theorem dL_isDay_245 : decode cL_isDay 245 = .ok (.iload 5, 2) := by decide +kernel
theorem dL_isDay_247 : decode cL_isDay 247 = .ok (.i2f, 1) := by decide +kernel
theorem dL_isDay_248 : decode cL_isDay 248 = .ok (.fdiv, 1) := by decide +kernel
theorem dL_isDay_249 : decode cL_isDay 249 = .ok (.fadd, 1) := by decide +kernel
theorem dL_isDay_250 : decode cL_isDay 250 = .ok (.fcmp .g, 1) := by decide +kernel
theorem dL_isDay_251 : decode cL_isDay 251 = .ok (.ifCond .gt 22, 3) := by decide +kernel
theorem dL_isDay_254 : decode cL_isDay 254 = .ok (.aload_n 0, 1) := by decide +kernel
theorem dL_isDay_255 : decode cL_isDay 255 = .ok (.iconst 3, 1) := by decide +kernel
theorem dL_isDay_256 : decode cL_isDay 256 = .ok (.iload_n 1, 1) := by decide +kernel
theorem dL_isDay_257 : decode cL_isDay 257 = .ok (.iload_n 2, 1) := by decide +kernel
theorem dL_isDay_258 : decode cL_isDay 258 = .ok (.invokestatic 61, 3) := by decide +kernel
theorem dL_isDay_261 : decode cL_isDay 261 = .ok (.ifCond .gt 8, 3) := by decide +kernel
theorem dL_isDay_264 : decode cL_isDay 264 = .ok (.iload 7, 2) := by decide +kernel
theorem dL_isDay_266 : decode cL_isDay 266 = .ok (.ifCond .ne 7, 3) := by decide +kernel
theorem dL_isDay_269 : decode cL_isDay 269 = .ok (.iconst 1, 1) := by decide +kernel
theorem dL_isDay_270 : decode cL_isDay 270 = .ok (.goto 4, 3) := by decide +kernel
theorem dL_isDay_273 : decode cL_isDay 273 = .ok (.iconst 0, 1) := by decide +kernel
theorem dL_isDay_274 : decode cL_isDay 274 = .ok (.ireturn, 1) := by decide +kernel
theorem dL_law_0 : decode cL_law 0 = .ok (.new 8, 3) := by decide +kernel
theorem dL_law_3 : decode cL_law 3 = .ok (.dup, 1) := by decide +kernel
theorem dL_law_4 : decode cL_law 4 = .ok (.invokespecial 89, 3) := by decide +kernel
theorem dL_law_7 : decode cL_law 7 = .ok (.astore_n 1, 1) := by decide +kernel
theorem dL_law_8 : decode cL_law 8 = .ok (.bipush 64, 2) := by decide +kernel
theorem dL_law_10 : decode cL_law 10 = .ok (.newarray .long, 2) := by decide +kernel
theorem dL_law_12 : decode cL_law 12 = .ok (.astore_n 2, 1) := by decide +kernel
theorem dL_law_13 : decode cL_law 13 = .ok (.iconst 4, 1) := by decide +kernel
theorem dL_law_14 : decode cL_law 14 = .ok (.newarray .int, 2) := by decide +kernel
theorem dL_law_16 : decode cL_law 16 = .ok (.astore_n 3, 1) := by decide +kernel
theorem dL_law_17 : decode cL_law 17 = .ok (.iconst 4, 1) := by decide +kernel
theorem dL_law_18 : decode cL_law 18 = .ok (.newarray .int, 2) := by decide +kernel
theorem dL_law_20 : decode cL_law 20 = .ok (.astore 4, 2) := by decide +kernel
theorem dL_law_22 : decode cL_law 22 = .ok (.iconst 4, 1) := by decide +kernel
theorem dL_law_23 : decode cL_law 23 = .ok (.newarray .int, 2) := by decide +kernel
theorem dL_law_25 : decode cL_law 25 = .ok (.astore 5, 2) := by decide +kernel
theorem dL_law_27 : decode cL_law 27 = .ok (.iconst 4, 1) := by decide +kernel
theorem dL_law_28 : decode cL_law 28 = .ok (.newarray .int, 2) := by decide +kernel
theorem dL_law_30 : decode cL_law 30 = .ok (.astore 6, 2) := by decide +kernel
theorem dL_law_32 : decode cL_law 32 = .ok (.iconst 3, 1) := by decide +kernel
theorem dL_law_33 : decode cL_law 33 = .ok (.istore 7, 2) := by decide +kernel
theorem dL_law_35 : decode cL_law 35 = .ok (.bipush 12, 2) := by decide +kernel
theorem dL_law_37 : decode cL_law 37 = .ok (.istore 8, 2) := by decide +kernel
theorem dL_law_39 : decode cL_law 39 = .ok (.iconst 5, 1) := by decide +kernel
theorem dL_law_40 : decode cL_law 40 = .ok (.istore 9, 2) := by decide +kernel
theorem dL_law_42 : decode cL_law 42 = .ok (.iconst 4, 1) := by decide +kernel
theorem dL_law_43 : decode cL_law 43 = .ok (.istore 10, 2) := by decide +kernel
theorem dL_law_45 : decode cL_law 45 = .ok (.sipush 200, 3) := by decide +kernel
theorem dL_law_48 : decode cL_law 48 = .ok (.istore 11, 2) := by decide +kernel
theorem dL_law_50 : decode cL_law 50 = .ok (.iconst 1, 1) := by decide +kernel
theorem dL_law_51 : decode cL_law 51 = .ok (.istore 12, 2) := by decide +kernel
theorem dL_law_53 : decode cL_law 53 = .ok (.aload_n 1, 1) := by decide +kernel
theorem dL_law_54 : decode cL_law 54 = .ok (.invokevirtual 90, 3) := by decide +kernel
theorem dL_law_57 : decode cL_law 57 = .ok (.ifCond .ne 21, 3) := by decide +kernel
theorem dL_law_60 : decode cL_law 60 = .ok (.aload_n 1, 1) := by decide +kernel
theorem dL_law_61 : decode cL_law 61 = .ok (.invokevirtual 93, 3) := by decide +kernel
theorem dL_law_64 : decode cL_law 64 = .ok (.ifCond .ne 14, 3) := by decide +kernel
theorem dL_law_67 : decode cL_law 67 = .ok (.aload_n 1, 1) := by decide +kernel
theorem dL_law_68 : decode cL_law 68 = .ok (.invokevirtual 96, 3) := by decide +kernel
theorem dL_law_71 : decode cL_law 71 = .ok (.ifCond .ne 7, 3) := by decide +kernel
theorem dL_law_74 : decode cL_law 74 = .ok (.iconst 1, 1) := by decide +kernel
theorem dL_law_75 : decode cL_law 75 = .ok (.goto 4, 3) := by decide +kernel
theorem dL_law_78 : decode cL_law 78 = .ok (.iconst 0, 1) := by decide +kernel
theorem dL_law_79 : decode cL_law 79 = .ok (.istore 13, 2) := by decide +kernel
theorem dL_law_81 : decode cL_law 81 = .ok (.aload_n 0, 1) := by decide +kernel
theorem dL_law_82 : decode cL_law 82 = .ok (.arraylength, 1) := by decide +kernel
theorem dL_law_83 : decode cL_law 83 = .ok (.bipush 40, 2) := by decide +kernel
theorem dL_law_85 : decode cL_law 85 = .ok (.if_icmp .ge 9, 3) := by decide +kernel
theorem dL_law_88 : decode cL_law 88 = .ok (.sipush 150, 3) := by decide +kernel
theorem dL_law_91 : decode cL_law 91 = .ok (.goto 20, 3) := by decide +kernel
theorem dL_law_94 : decode cL_law 94 = .ok (.aload_n 0, 1) := by decide +kernel
theorem dL_law_95 : decode cL_law 95 = .ok (.arraylength, 1) := by decide +kernel
theorem dL_law_96 : decode cL_law 96 = .ok (.bipush 80, 2) := by decide +kernel
theorem dL_law_98 : decode cL_law 98 = .ok (.if_icmp .ge 10, 3) := by decide +kernel
theorem dL_law_101 : decode cL_law 101 = .ok (.iconst 2, 1) := by decide +kernel
theorem dL_law_102 : decode cL_law 102 = .ok (.aload_n 0, 1) := by decide +kernel
theorem dL_law_103 : decode cL_law 103 = .ok (.arraylength, 1) := by decide +kernel
theorem dL_law_104 : decode cL_law 104 = .ok (.imul, 1) := by decide +kernel
theorem dL_law_105 : decode cL_law 105 = .ok (.goto 6, 3) := by decide +kernel
theorem dL_law_108 : decode cL_law 108 = .ok (.sipush 200, 3) := by decide +kernel
theorem dL_law_111 : decode cL_law 111 = .ok (.istore 14, 2) := by decide +kernel
theorem dL_law_113 : decode cL_law 113 = .ok (.iconst 0, 1) := by decide +kernel
theorem dL_law_114 : decode cL_law 114 = .ok (.istore 15, 2) := by decide +kernel
theorem dL_law_116 : decode cL_law 116 = .ok (.iload 15, 2) := by decide +kernel
theorem dL_law_118 : decode cL_law 118 = .ok (.iload 14, 2) := by decide +kernel
theorem dL_law_120 : decode cL_law 120 = .ok (.if_icmp .ge 1488, 3) := by decide +kernel
theorem dL_law_123 : decode cL_law 123 = .ok (.iload 13, 2) := by decide +kernel
theorem dL_law_125 : decode cL_law 125 = .ok (.ifCond .eq 1483, 3) := by decide +kernel
theorem dL_law_128 : decode cL_law 128 = .ok (.iload 15, 2) := by decide +kernel
theorem dL_law_130 : decode cL_law 130 = .ok (.aload_n 0, 1) := by decide +kernel
theorem dL_law_131 : decode cL_law 131 = .ok (.arraylength, 1) := by decide +kernel
theorem dL_law_132 : decode cL_law 132 = .ok (.if_icmp .ge 10, 3) := by decide +kernel
theorem dL_law_135 : decode cL_law 135 = .ok (.aload_n 0, 1) := by decide +kernel
theorem dL_law_136 : decode cL_law 136 = .ok (.iload 15, 2) := by decide +kernel
theorem dL_law_138 : decode cL_law 138 = .ok (.iaload, 1) := by decide +kernel
theorem dL_law_139 : decode cL_law 139 = .ok (.goto 21, 3) := by decide +kernel
theorem dL_law_142 : decode cL_law 142 = .ok (.ldc 99, 2) := by decide +kernel
theorem dL_law_144 : decode cL_law 144 = .ok (.iload 15, 2) := by decide +kernel
