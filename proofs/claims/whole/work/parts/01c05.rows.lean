theorem dX10_links_64 : decode cX10_links 64 = .ok (.iload 4, 2) := by decide +kernel
theorem dX10_links_66 : decode cX10_links 66 = .ok (.invokevirtual 169, 3) := by decide +kernel
theorem dX10_links_69 : decode cX10_links 69 = .ok (.ifCond .ne 7, 3) := by decide +kernel
theorem dX10_links_72 : decode cX10_links 72 = .ok (.iconst 1, 1) := by decide +kernel
theorem dX10_links_73 : decode cX10_links 73 = .ok (.goto 4, 3) := by decide +kernel
theorem dX10_links_76 : decode cX10_links 76 = .ok (.iconst 0, 1) := by decide +kernel
theorem dX10_links_77 : decode cX10_links 77 = .ok (.bastore, 1) := by decide +kernel
theorem dX10_links_78 : decode cX10_links 78 = .ok (.iinc 4 1, 3) := by decide +kernel
theorem dX10_links_81 : decode cX10_links 81 = .ok (.goto (-62), 3) := by decide +kernel
theorem dX10_links_84 : decode cX10_links 84 = .ok (.aload_n 0, 1) := by decide +kernel
theorem dX10_links_85 : decode cX10_links 85 = .ok (.getfield 25, 3) := by decide +kernel
theorem dX10_links_88 : decode cX10_links 88 = .ok (.iload_n 3, 1) := by decide +kernel
theorem dX10_links_89 : decode cX10_links 89 = .ok (.aload_n 0, 1) := by decide +kernel
theorem dX10_links_90 : decode cX10_links 90 = .ok (.getfield 81, 3) := by decide +kernel
theorem dX10_links_93 : decode cX10_links 93 = .ok (.iload_n 1, 1) := by decide +kernel
theorem dX10_links_94 : decode cX10_links 94 = .ok (.iaload, 1) := by decide +kernel
theorem dX10_links_95 : decode cX10_links 95 = .ok (.iconst 1, 1) := by decide +kernel
theorem dX10_links_96 : decode cX10_links 96 = .ok (.if_icmp .ne 10, 3) := by decide +kernel
theorem dX10_links_99 : decode cX10_links 99 = .ok (.aload_n 0, 1) := by decide +kernel
theorem dX10_links_100 : decode cX10_links 100 = .ok (.getfield 151, 3) := by decide +kernel
theorem dX10_links_103 : decode cX10_links 103 = .ok (.goto 13, 3) := by decide +kernel
theorem dX10_links_106 : decode cX10_links 106 = .ok (.aload_n 0, 1) := by decide +kernel
theorem dX10_links_107 : decode cX10_links 107 = .ok (.getfield 25, 3) := by decide +kernel
theorem dX10_links_110 : decode cX10_links 110 = .ok (.aload_n 0, 1) := by decide +kernel
theorem dX10_links_111 : decode cX10_links 111 = .ok (.iload_n 1, 1) := by decide +kernel
theorem dX10_links_112 : decode cX10_links 112 = .ok (.invokevirtual 157, 3) := by decide +kernel
theorem dX10_links_115 : decode cX10_links 115 = .ok (.iaload, 1) := by decide +kernel
theorem dX10_links_116 : decode cX10_links 116 = .ok (.iastore, 1) := by decide +kernel
theorem dX10_links_117 : decode cX10_links 117 = .ok (.aload_n 0, 1) := by decide +kernel
theorem dX10_links_118 : decode cX10_links 118 = .ok (.getfield 13, 3) := by decide +kernel
theorem dX10_links_121 : decode cX10_links 121 = .ok (.iload_n 3, 1) := by decide +kernel
theorem dX10_links_122 : decode cX10_links 122 = .ok (.aload_n 0, 1) := by decide +kernel
theorem dX10_links_123 : decode cX10_links 123 = .ok (.getfield 13, 3) := by decide +kernel
theorem dX10_links_126 : decode cX10_links 126 = .ok (.iload_n 2, 1) := by decide +kernel
theorem dX10_links_127 : decode cX10_links 127 = .ok (.iaload, 1) := by decide +kernel
theorem dX10_links_128 : decode cX10_links 128 = .ok (.iastore, 1) := by decide +kernel
theorem dX10_links_129 : decode cX10_links 129 = .ok (.aload_n 0, 1) := by decide +kernel
theorem dX10_links_130 : decode cX10_links 130 = .ok (.getfield 19, 3) := by decide +kernel
theorem dX10_links_133 : decode cX10_links 133 = .ok (.iload_n 3, 1) := by decide +kernel
theorem dX10_links_134 : decode cX10_links 134 = .ok (.aload_n 0, 1) := by decide +kernel
theorem dX10_links_135 : decode cX10_links 135 = .ok (.getfield 19, 3) := by decide +kernel
theorem dX10_links_138 : decode cX10_links 138 = .ok (.iload_n 2, 1) := by decide +kernel
theorem dX10_links_139 : decode cX10_links 139 = .ok (.iaload, 1) := by decide +kernel
theorem dX10_links_140 : decode cX10_links 140 = .ok (.iastore, 1) := by decide +kernel
theorem dX10_links_141 : decode cX10_links 141 = .ok (.iconst 0, 1) := by decide +kernel
theorem dX10_links_142 : decode cX10_links 142 = .ok (.istore 4, 2) := by decide +kernel
theorem dX10_links_144 : decode cX10_links 144 = .ok (.iload 4, 2) := by decide +kernel
theorem dX10_links_146 : decode cX10_links 146 = .ok (.bipush 48, 2) := by decide +kernel
theorem dX10_links_148 : decode cX10_links 148 = .ok (.if_icmp .ge 57, 3) := by decide +kernel
theorem dX10_links_151 : decode cX10_links 151 = .ok (.aload_n 0, 1) := by decide +kernel
theorem dX10_links_152 : decode cX10_links 152 = .ok (.getfield 7, 3) := by decide +kernel
theorem dX10_links_155 : decode cX10_links 155 = .ok (.bipush 48, 2) := by decide +kernel
theorem dX10_links_157 : decode cX10_links 157 = .ok (.iload_n 3, 1) := by decide +kernel
theorem dX10_links_158 : decode cX10_links 158 = .ok (.imul, 1) := by decide +kernel
theorem dX10_links_159 : decode cX10_links 159 = .ok (.iload 4, 2) := by decide +kernel
theorem dX10_links_161 : decode cX10_links 161 = .ok (.iadd, 1) := by decide +kernel
theorem dX10_links_162 : decode cX10_links 162 = .ok (.aload_n 0, 1) := by decide +kernel
theorem dX10_links_163 : decode cX10_links 163 = .ok (.getfield 7, 3) := by decide +kernel
theorem dX10_links_166 : decode cX10_links 166 = .ok (.bipush 48, 2) := by decide +kernel
theorem dX10_links_168 : decode cX10_links 168 = .ok (.iload_n 2, 1) := by decide +kernel
theorem dX10_links_169 : decode cX10_links 169 = .ok (.imul, 1) := by decide +kernel
theorem dX10_links_170 : decode cX10_links 170 = .ok (.iload 4, 2) := by decide +kernel
theorem dX10_links_172 : decode cX10_links 172 = .ok (.iadd, 1) := by decide +kernel
theorem dX10_links_173 : decode cX10_links 173 = .ok (.iaload, 1) := by decide +kernel
theorem dX10_links_174 : decode cX10_links 174 = .ok (.iastore, 1) := by decide +kernel
theorem dX10_links_175 : decode cX10_links 175 = .ok (.aload_n 0, 1) := by decide +kernel
theorem dX10_links_176 : decode cX10_links 176 = .ok (.getfield 16, 3) := by decide +kernel
theorem dX10_links_179 : decode cX10_links 179 = .ok (.bipush 48, 2) := by decide +kernel
theorem dX10_links_181 : decode cX10_links 181 = .ok (.iload_n 3, 1) := by decide +kernel
theorem dX10_links_182 : decode cX10_links 182 = .ok (.imul, 1) := by decide +kernel
theorem dX10_links_183 : decode cX10_links 183 = .ok (.iload 4, 2) := by decide +kernel
theorem dX10_links_185 : decode cX10_links 185 = .ok (.iadd, 1) := by decide +kernel
theorem dX10_links_186 : decode cX10_links 186 = .ok (.aload_n 0, 1) := by decide +kernel
theorem dX10_links_187 : decode cX10_links 187 = .ok (.getfield 16, 3) := by decide +kernel
theorem dX10_links_190 : decode cX10_links 190 = .ok (.bipush 48, 2) := by decide +kernel
theorem dX10_links_192 : decode cX10_links 192 = .ok (.iload_n 2, 1) := by decide +kernel
theorem dX10_links_193 : decode cX10_links 193 = .ok (.imul, 1) := by decide +kernel
theorem dX10_links_194 : decode cX10_links 194 = .ok (.iload 4, 2) := by decide +kernel
theorem dX10_links_196 : decode cX10_links 196 = .ok (.iadd, 1) := by decide +kernel
theorem dX10_links_197 : decode cX10_links 197 = .ok (.iaload, 1) := by decide +kernel
theorem dX10_links_198 : decode cX10_links 198 = .ok (.iastore, 1) := by decide +kernel
theorem dX10_links_199 : decode cX10_links 199 = .ok (.iinc 4 1, 3) := by decide +kernel
theorem dX10_links_202 : decode cX10_links 202 = .ok (.goto (-58), 3) := by decide +kernel
theorem dX10_links_205 : decode cX10_links 205 = .ok (.aload_n 0, 1) := by decide +kernel
theorem dX10_links_206 : decode cX10_links 206 = .ok (.getfield 22, 3) := by decide +kernel
theorem dX10_links_209 : decode cX10_links 209 = .ok (.iload_n 3, 1) := by decide +kernel
theorem dX10_links_210 : decode cX10_links 210 = .ok (.aload_n 0, 1) := by decide +kernel
theorem dX10_links_211 : decode cX10_links 211 = .ok (.getfield 81, 3) := by decide +kernel
theorem dX10_links_214 : decode cX10_links 214 = .ok (.iload_n 1, 1) := by decide +kernel
theorem dX10_links_215 : decode cX10_links 215 = .ok (.iaload, 1) := by decide +kernel
theorem dX10_links_216 : decode cX10_links 216 = .ok (.iastore, 1) := by decide +kernel
theorem dX10_links_217 : decode cX10_links 217 = .ok (.return_, 1) := by decide +kernel
set_option maxRecDepth 20000 in
theorem ggX10_night_X10_isFine : GoodIn wsX10_night wsX10_isFine := goodIn_r _ [10, 11, 116, 117, 118, 119, 120, 121, 122, 123, 124, 125, 126, 127, 128, 129, 130, 131, 132, 133, 134, 135, 136, 137, 138, 139, 140, 141, 142, 143, 144, 145] (by decide +kernel) (by decide +kernel)
set_option maxRecDepth 20000 in
theorem gX10_night_X10_isFine : GoodIn wsX10_night (wsV RX10 114 RX10 yX10_isFine wsX10_isFine) := goodIn_app (goodIn_of _ (by decide +kernel)) ggX10_night_X10_isFine
set_option maxRecDepth 20000 in
theorem ggX10_night_X10_goes : GoodIn wsX10_night wsX10_goes := goodIn_r _ [15, 16, 2, 17, 18, 19, 20, 5, 3, 21, 22, 23, 9, 24, 25, 26, 27, 28, 29, 30, 31, 32, 33, 34, 1, 35, 36, 37, 38, 39, 40, 41, 42, 43, 44, 45, 46, 47, 48, 49, 50, 51, 52, 53, 54, 55, 56, 57, 58, 59, 60, 61, 62, 63, 64, 65, 66, 67, 68, 69, 70, 71, 72, 73, 74, 75, 76, 77, 78, 79, 80, 81, 82, 83, 84, 85, 86, 87, 88, 89, 90, 91, 92, 93, 94, 95, 96, 97, 98, 99, 100, 101, 102, 103, 104, 105, 106, 107, 116, 117, 118, 119, 120, 121, 122, 123, 124, 125, 126, 127, 128, 129, 130, 131, 132, 133, 134, 135, 136, 137, 138, 139, 140, 141, 142, 143, 144, 145] (by decide +kernel) (by decide +kernel)
set_option maxRecDepth 20000 in
theorem gX10_night_X10_goes : GoodIn wsX10_night (wsV RX10 190 RX10 yX10_goes wsX10_goes) := goodIn_app (goodIn_of _ (by decide +kernel)) ggX10_night_X10_goes
set_option maxRecDepth 20000 in
theorem ggX10_night_X10_price : GoodIn wsX10_night wsX10_price := goodIn_r _ [111, 19, 2, 17, 3, 18, 116, 117, 118, 119, 120, 121, 122, 123, 124, 125, 126, 127, 128, 129, 130, 131, 132, 133, 134, 135, 136, 137, 138, 139, 140, 141, 142, 143, 144, 145] (by decide +kernel) (by decide +kernel)
set_option maxRecDepth 20000 in
theorem gX10_night_X10_price : GoodIn wsX10_night (wsV RX10 193 RX10 yX10_price wsX10_price) := goodIn_app (goodIn_of _ (by decide +kernel)) ggX10_night_X10_price
set_option maxRecDepth 20000 in
theorem ggX10_night_X10_links : GoodIn wsX10_night wsX10_links := goodIn_r _ [115, 1, 48, 107, 20, 102, 53, 69, 57, 35, 49, 50, 51, 9, 52, 54, 55, 56, 58, 59, 60, 61, 62, 63, 64, 65, 66, 67, 68, 86, 87, 88, 89, 70, 71, 72, 73, 74, 75, 76, 77, 78, 79, 80, 81, 94, 95, 96, 97, 98, 99, 100, 101, 36, 37, 38, 39, 40, 41, 42, 43, 103, 104, 105, 106, 116, 117, 118, 119, 120, 121, 122, 123, 124, 125, 126, 127, 128, 129, 130, 131, 132, 133, 134, 135, 136, 137, 138, 139, 140, 141, 142, 143, 144, 145] (by decide +kernel) (by decide +kernel)
set_option maxRecDepth 20000 in
theorem gX10_night_X10_links : GoodIn wsX10_night (wsV RX10 196 RX10 yX10_links wsX10_links) := goodIn_app (goodIn_of _ (by decide +kernel)) ggX10_night_X10_links
theorem dX10_night_0 : decode cX10_night 0 = .ok (.aload_n 0, 1) := by decide +kernel
theorem dX10_night_1 : decode cX10_night 1 = .ok (.aload_n 0, 1) := by decide +kernel
theorem dX10_night_2 : decode cX10_night 2 = .ok (.getfield 151, 3) := by decide +kernel
theorem dX10_night_5 : decode cX10_night 5 = .ok (.bipush 60, 2) := by decide +kernel
theorem dX10_night_7 : decode cX10_night 7 = .ok (.if_icmp .ne 7, 3) := by decide +kernel
theorem dX10_night_10 : decode cX10_night 10 = .ok (.iconst 1, 1) := by decide +kernel
theorem dX10_night_11 : decode cX10_night 11 = .ok (.goto 4, 3) := by decide +kernel
theorem dX10_night_14 : decode cX10_night 14 = .ok (.iconst 0, 1) := by decide +kernel
theorem dX10_night_15 : decode cX10_night 15 = .ok (.invokevirtual 114, 3) := by decide +kernel
theorem dX10_night_18 : decode cX10_night 18 = .ok (.ifCond .ne 5, 3) := by decide +kernel
theorem dX10_night_21 : decode cX10_night 21 = .ok (.iconst 0, 1) := by decide +kernel
theorem dX10_night_22 : decode cX10_night 22 = .ok (.ireturn, 1) := by decide +kernel
theorem dX10_night_23 : decode cX10_night 23 = .ok (.aload_n 0, 1) := by decide +kernel
theorem dX10_night_24 : decode cX10_night 24 = .ok (.invokevirtual 190, 3) := by decide +kernel
theorem dX10_night_27 : decode cX10_night 27 = .ok (.iconst 0, 1) := by decide +kernel
theorem dX10_night_28 : decode cX10_night 28 = .ok (.istore_n 1, 1) := by decide +kernel
theorem dX10_night_29 : decode cX10_night 29 = .ok (.iconst 0, 1) := by decide +kernel
theorem dX10_night_30 : decode cX10_night 30 = .ok (.istore_n 2, 1) := by decide +kernel
theorem dX10_night_31 : decode cX10_night 31 = .ok (.iload_n 2, 1) := by decide +kernel
theorem dX10_night_32 : decode cX10_night 32 = .ok (.iconst 4, 1) := by decide +kernel
theorem dX10_night_33 : decode cX10_night 33 = .ok (.if_icmp .ge 54, 3) := by decide +kernel
theorem dX10_night_36 : decode cX10_night 36 = .ok (.aload_n 0, 1) := by decide +kernel
theorem dX10_night_37 : decode cX10_night 37 = .ok (.getfield 75, 3) := by decide +kernel
theorem dX10_night_40 : decode cX10_night 40 = .ok (.iload_n 2, 1) := by decide +kernel
theorem dX10_night_41 : decode cX10_night 41 = .ok (.iaload, 1) := by decide +kernel
theorem dX10_night_42 : decode cX10_night 42 = .ok (.istore_n 3, 1) := by decide +kernel
theorem dX10_night_43 : decode cX10_night 43 = .ok (.aload_n 0, 1) := by decide +kernel
theorem dX10_night_44 : decode cX10_night 44 = .ok (.getfield 87, 3) := by decide +kernel
theorem dX10_night_47 : decode cX10_night 47 = .ok (.iload_n 3, 1) := by decide +kernel
theorem dX10_night_48 : decode cX10_night 48 = .ok (.baload, 1) := by decide +kernel
theorem dX10_night_49 : decode cX10_night 49 = .ok (.ifCond .eq 32, 3) := by decide +kernel
theorem dX10_night_52 : decode cX10_night 52 = .ok (.aload_n 0, 1) := by decide +kernel
theorem dX10_night_53 : decode cX10_night 53 = .ok (.getfield 69, 3) := by decide +kernel
theorem dX10_night_56 : decode cX10_night 56 = .ok (.iload_n 3, 1) := by decide +kernel
theorem dX10_night_57 : decode cX10_night 57 = .ok (.dup2, 1) := by decide +kernel
theorem dX10_night_58 : decode cX10_night 58 = .ok (.iaload, 1) := by decide +kernel
theorem dX10_night_59 : decode cX10_night 59 = .ok (.aload_n 0, 1) := by decide +kernel
theorem dX10_night_60 : decode cX10_night 60 = .ok (.iload_n 2, 1) := by decide +kernel
theorem dX10_night_61 : decode cX10_night 61 = .ok (.invokevirtual 193, 3) := by decide +kernel
theorem dX10_night_64 : decode cX10_night 64 = .ok (.aload_n 0, 1) := by decide +kernel
theorem dX10_night_65 : decode cX10_night 65 = .ok (.getfield 84, 3) := by decide +kernel
theorem dX10_night_68 : decode cX10_night 68 = .ok (.iload_n 3, 1) := by decide +kernel
theorem dX10_night_69 : decode cX10_night 69 = .ok (.iaload, 1) := by decide +kernel
theorem dX10_night_70 : decode cX10_night 70 = .ok (.imul, 1) := by decide +kernel
theorem dX10_night_71 : decode cX10_night 71 = .ok (.iadd, 1) := by decide +kernel
theorem dX10_night_72 : decode cX10_night 72 = .ok (.iastore, 1) := by decide +kernel
theorem dX10_night_73 : decode cX10_night 73 = .ok (.aload_n 0, 1) := by decide +kernel
theorem dX10_night_74 : decode cX10_night 74 = .ok (.iload_n 3, 1) := by decide +kernel
theorem dX10_night_75 : decode cX10_night 75 = .ok (.invokevirtual 196, 3) := by decide +kernel
theorem dX10_night_78 : decode cX10_night 78 = .ok (.iinc 1 1, 3) := by decide +kernel
theorem dX10_night_81 : decode cX10_night 81 = .ok (.iinc 2 1, 3) := by decide +kernel
theorem dX10_night_84 : decode cX10_night 84 = .ok (.goto (-53), 3) := by decide +kernel
theorem dX10_night_87 : decode cX10_night 87 = .ok (.aload_n 0, 1) := by decide +kernel
theorem dX10_night_88 : decode cX10_night 88 = .ok (.dup, 1) := by decide +kernel
theorem dX10_night_89 : decode cX10_night 89 = .ok (.getfield 151, 3) := by decide +kernel
theorem dX10_night_92 : decode cX10_night 92 = .ok (.iconst 1, 1) := by decide +kernel
theorem dX10_night_93 : decode cX10_night 93 = .ok (.iadd, 1) := by decide +kernel
theorem dX10_night_94 : decode cX10_night 94 = .ok (.putfield 151, 3) := by decide +kernel
theorem dX10_night_97 : decode cX10_night 97 = .ok (.iload_n 1, 1) := by decide +kernel
theorem dX10_night_98 : decode cX10_night 98 = .ok (.ireturn, 1) := by decide +kernel
theorem dX10_nights_0 : decode cX10_nights 0 = .ok (.aload_n 0, 1) := by decide +kernel
theorem dX10_nights_1 : decode cX10_nights 1 = .ok (.iconst 0, 1) := by decide +kernel
theorem dX10_nights_2 : decode cX10_nights 2 = .ok (.putfield 96, 3) := by decide +kernel
theorem dX10_nights_5 : decode cX10_nights 5 = .ok (.aload_n 0, 1) := by decide +kernel
theorem dX10_nights_6 : decode cX10_nights 6 = .ok (.getfield 151, 3) := by decide +kernel
theorem dX10_nights_9 : decode cX10_nights 9 = .ok (.ireturn, 1) := by decide +kernel
set_option maxRecDepth 20000 in
theorem ggX10_isNight_X10_isIn : GoodIn wsX10_isNight wsX10_isIn := goodIn_r _ [5] (by decide +kernel) (by decide +kernel)
set_option maxRecDepth 20000 in
theorem gX10_isNight_X10_isIn : GoodIn wsX10_isNight (va_wsS RX10 99 yX10_isIn wsX10_isIn) := goodIn_app (goodIn_of _ (by decide +kernel)) ggX10_isNight_X10_isIn
theorem dX10_isNight_0 : decode cX10_isNight 0 = .ok (.iload_n 1, 1) := by decide +kernel
theorem dX10_isNight_1 : decode cX10_isNight 1 = .ok (.iconst 0, 1) := by decide +kernel
theorem dX10_isNight_2 : decode cX10_isNight 2 = .ok (.aload_n 0, 1) := by decide +kernel
theorem dX10_isNight_3 : decode cX10_isNight 3 = .ok (.getfield 151, 3) := by decide +kernel
theorem dX10_isNight_6 : decode cX10_isNight 6 = .ok (.iconst 1, 1) := by decide +kernel
theorem dX10_isNight_7 : decode cX10_isNight 7 = .ok (.isub, 1) := by decide +kernel
theorem dX10_isNight_8 : decode cX10_isNight 8 = .ok (.invokestatic 99, 3) := by decide +kernel
theorem dX10_isNight_11 : decode cX10_isNight 11 = .ok (.ireturn, 1) := by decide +kernel
set_option maxRecDepth 20000 in
theorem ggX10_got_X10_isClient : GoodIn wsX10_got wsX10_isClient := goodIn_r _ [5, 6, 7, 4, 8] (by decide +kernel) (by decide +kernel)
set_option maxRecDepth 20000 in
theorem gX10_got_X10_isClient : GoodIn wsX10_got (va_wsS RX10 103 yX10_isClient wsX10_isClient) := goodIn_app (goodIn_of _ (by decide +kernel)) ggX10_got_X10_isClient
set_option maxRecDepth 20000 in
theorem ggX10_got_X10_isNight : GoodIn wsX10_got wsX10_isNight := goodIn_r _ [12, 13, 6, 7, 4, 8, 19, 20, 21, 22, 23, 24, 25, 26, 27, 28, 29, 30, 31, 32, 33, 34, 35, 36, 37, 38, 39, 40, 41, 42, 43, 44, 45, 46, 47, 48] (by decide +kernel) (by decide +kernel)
set_option maxRecDepth 20000 in
theorem gX10_got_X10_isNight : GoodIn wsX10_got (wsV RX10 200 RX10 yX10_isNight wsX10_isNight) := goodIn_app (goodIn_of _ (by decide +kernel)) ggX10_got_X10_isNight
set_option maxRecDepth 20000 in
theorem ggX10_got_X10_isFine : GoodIn wsX10_got wsX10_isFine := goodIn_r _ [17, 18, 19, 20, 21, 22, 23, 24, 25, 26, 27, 28, 29, 30, 31, 32, 33, 34, 35, 36, 37, 38, 39, 40, 41, 42, 43, 44, 45, 46, 47, 48] (by decide +kernel) (by decide +kernel)
set_option maxRecDepth 20000 in
theorem gX10_got_X10_isFine : GoodIn wsX10_got (wsV RX10 114 RX10 yX10_isFine wsX10_isFine) := goodIn_app (goodIn_of _ (by decide +kernel)) ggX10_got_X10_isFine
theorem dX10_got_0 : decode cX10_got 0 = .ok (.iload_n 1, 1) := by decide +kernel
theorem dX10_got_1 : decode cX10_got 1 = .ok (.invokestatic 103, 3) := by decide +kernel
theorem dX10_got_4 : decode cX10_got 4 = .ok (.istore_n 3, 1) := by decide +kernel
theorem dX10_got_5 : decode cX10_got 5 = .ok (.aload_n 0, 1) := by decide +kernel
theorem dX10_got_6 : decode cX10_got 6 = .ok (.iload_n 3, 1) := by decide +kernel
theorem dX10_got_7 : decode cX10_got 7 = .ok (.ifCond .ne 7, 3) := by decide +kernel
theorem dX10_got_10 : decode cX10_got 10 = .ok (.iconst 1, 1) := by decide +kernel
theorem dX10_got_11 : decode cX10_got 11 = .ok (.goto 16, 3) := by decide +kernel
theorem dX10_got_14 : decode cX10_got 14 = .ok (.aload_n 0, 1) := by decide +kernel
theorem dX10_got_15 : decode cX10_got 15 = .ok (.iload_n 2, 1) := by decide +kernel
theorem dX10_got_16 : decode cX10_got 16 = .ok (.invokevirtual 200, 3) := by decide +kernel
theorem dX10_got_19 : decode cX10_got 19 = .ok (.ifCond .ne 7, 3) := by decide +kernel
theorem dX10_got_22 : decode cX10_got 22 = .ok (.iconst 2, 1) := by decide +kernel
theorem dX10_got_23 : decode cX10_got 23 = .ok (.goto 4, 3) := by decide +kernel
theorem dX10_got_26 : decode cX10_got 26 = .ok (.iconst 0, 1) := by decide +kernel
theorem dX10_got_27 : decode cX10_got 27 = .ok (.invokevirtual 114, 3) := by decide +kernel
theorem dX10_got_30 : decode cX10_got 30 = .ok (.ifCond .eq 17, 3) := by decide +kernel
theorem dX10_got_33 : decode cX10_got 33 = .ok (.aload_n 0, 1) := by decide +kernel
theorem dX10_got_34 : decode cX10_got 34 = .ok (.getfield 22, 3) := by decide +kernel
theorem dX10_got_37 : decode cX10_got 37 = .ok (.bipush 60, 2) := by decide +kernel
theorem dX10_got_39 : decode cX10_got 39 = .ok (.iload_n 1, 1) := by decide +kernel
theorem dX10_got_40 : decode cX10_got 40 = .ok (.imul, 1) := by decide +kernel
theorem dX10_got_41 : decode cX10_got 41 = .ok (.iload_n 2, 1) := by decide +kernel
theorem dX10_got_42 : decode cX10_got 42 = .ok (.iadd, 1) := by decide +kernel
theorem dX10_got_43 : decode cX10_got 43 = .ok (.iaload, 1) := by decide +kernel
theorem dX10_got_44 : decode cX10_got 44 = .ok (.goto 4, 3) := by decide +kernel
theorem dX10_got_47 : decode cX10_got 47 = .ok (.iconst 0, 1) := by decide +kernel
theorem dX10_got_48 : decode cX10_got 48 = .ok (.ireturn, 1) := by decide +kernel
set_option maxRecDepth 20000 in
theorem ggX10_dayOf_X10_isClient : GoodIn wsX10_dayOf wsX10_isClient := goodIn_r _ [4, 5, 6, 3, 7] (by decide +kernel) (by decide +kernel)
set_option maxRecDepth 20000 in
theorem gX10_dayOf_X10_isClient : GoodIn wsX10_dayOf (va_wsS RX10 103 yX10_isClient wsX10_isClient) := goodIn_app (goodIn_of _ (by decide +kernel)) ggX10_dayOf_X10_isClient
set_option maxRecDepth 20000 in
theorem ggX10_dayOf_X10_isNight : GoodIn wsX10_dayOf wsX10_isNight := goodIn_r _ [11, 12, 5, 6, 3, 7, 23, 24, 25, 26, 27, 28, 29, 30, 31, 32, 33, 34, 35, 36, 37, 38, 39, 40, 41, 42, 43, 44, 45, 46, 47, 48, 49, 50, 51, 52] (by decide +kernel) (by decide +kernel)
set_option maxRecDepth 20000 in
theorem gX10_dayOf_X10_isNight : GoodIn wsX10_dayOf (wsV RX10 200 RX10 yX10_isNight wsX10_isNight) := goodIn_app (goodIn_of _ (by decide +kernel)) ggX10_dayOf_X10_isNight
set_option maxRecDepth 20000 in
theorem ggX10_dayOf_X10_isFine : GoodIn wsX10_dayOf wsX10_isFine := goodIn_r _ [16, 17, 23, 24, 25, 26, 27, 28, 29, 30, 31, 32, 33, 34, 35, 36, 37, 38, 39, 40, 41, 42, 43, 44, 45, 46, 47, 48, 49, 50, 51, 52] (by decide +kernel) (by decide +kernel)
set_option maxRecDepth 20000 in
theorem gX10_dayOf_X10_isFine : GoodIn wsX10_dayOf (wsV RX10 114 RX10 yX10_isFine wsX10_isFine) := goodIn_app (goodIn_of _ (by decide +kernel)) ggX10_dayOf_X10_isFine
set_option maxRecDepth 20000 in
theorem ggX10_dayOf_X10_latest : GoodIn wsX10_dayOf wsX10_latest := goodIn_r _ [21, 22, 23, 24, 25, 26, 27, 28, 29, 30, 31, 32, 33, 34, 35, 36, 37, 38, 39, 40, 41, 42, 43, 44, 45, 46, 47, 48, 49, 50, 51, 52] (by decide +kernel) (by decide +kernel)
set_option maxRecDepth 20000 in
theorem gX10_dayOf_X10_latest : GoodIn wsX10_dayOf (wsV RX10 154 RX10 yX10_latest wsX10_latest) := goodIn_app (goodIn_of _ (by decide +kernel)) ggX10_dayOf_X10_latest
theorem dX10_dayOf_0 : decode cX10_dayOf 0 = .ok (.iload_n 1, 1) := by decide +kernel
theorem dX10_dayOf_1 : decode cX10_dayOf 1 = .ok (.invokestatic 103, 3) := by decide +kernel
theorem dX10_dayOf_4 : decode cX10_dayOf 4 = .ok (.istore_n 3, 1) := by decide +kernel
theorem dX10_dayOf_5 : decode cX10_dayOf 5 = .ok (.aload_n 0, 1) := by decide +kernel
theorem dX10_dayOf_6 : decode cX10_dayOf 6 = .ok (.iload_n 3, 1) := by decide +kernel
theorem dX10_dayOf_7 : decode cX10_dayOf 7 = .ok (.ifCond .ne 7, 3) := by decide +kernel
theorem dX10_dayOf_10 : decode cX10_dayOf 10 = .ok (.iconst 1, 1) := by decide +kernel
theorem dX10_dayOf_11 : decode cX10_dayOf 11 = .ok (.goto 16, 3) := by decide +kernel
theorem dX10_dayOf_14 : decode cX10_dayOf 14 = .ok (.aload_n 0, 1) := by decide +kernel
theorem dX10_dayOf_15 : decode cX10_dayOf 15 = .ok (.iload_n 2, 1) := by decide +kernel
theorem dX10_dayOf_16 : decode cX10_dayOf 16 = .ok (.invokevirtual 200, 3) := by decide +kernel
theorem dX10_dayOf_19 : decode cX10_dayOf 19 = .ok (.ifCond .ne 7, 3) := by decide +kernel
theorem dX10_dayOf_22 : decode cX10_dayOf 22 = .ok (.iconst 2, 1) := by decide +kernel
theorem dX10_dayOf_23 : decode cX10_dayOf 23 = .ok (.goto 4, 3) := by decide +kernel
theorem dX10_dayOf_26 : decode cX10_dayOf 26 = .ok (.iconst 0, 1) := by decide +kernel
theorem dX10_dayOf_27 : decode cX10_dayOf 27 = .ok (.invokevirtual 114, 3) := by decide +kernel
theorem dX10_dayOf_30 : decode cX10_dayOf 30 = .ok (.ifCond .ne 5, 3) := by decide +kernel
theorem dX10_dayOf_33 : decode cX10_dayOf 33 = .ok (.iconst 0, 1) := by decide +kernel
theorem dX10_dayOf_34 : decode cX10_dayOf 34 = .ok (.ireturn, 1) := by decide +kernel
theorem dX10_dayOf_35 : decode cX10_dayOf 35 = .ok (.aload_n 0, 1) := by decide +kernel
theorem dX10_dayOf_36 : decode cX10_dayOf 36 = .ok (.iload_n 1, 1) := by decide +kernel
theorem dX10_dayOf_37 : decode cX10_dayOf 37 = .ok (.iload_n 2, 1) := by decide +kernel
theorem dX10_dayOf_38 : decode cX10_dayOf 38 = .ok (.invokevirtual 154, 3) := by decide +kernel
theorem dX10_dayOf_41 : decode cX10_dayOf 41 = .ok (.istore 4, 2) := by decide +kernel
theorem dX10_dayOf_43 : decode cX10_dayOf 43 = .ok (.iload 4, 2) := by decide +kernel
theorem dX10_dayOf_45 : decode cX10_dayOf 45 = .ok (.iconst (-1), 1) := by decide +kernel
theorem dX10_dayOf_46 : decode cX10_dayOf 46 = .ok (.if_icmp .ne 7, 3) := by decide +kernel
theorem dX10_dayOf_49 : decode cX10_dayOf 49 = .ok (.iconst (-1), 1) := by decide +kernel
theorem dX10_dayOf_50 : decode cX10_dayOf 50 = .ok (.goto 10, 3) := by decide +kernel
theorem dX10_dayOf_53 : decode cX10_dayOf 53 = .ok (.iload 4, 2) := by decide +kernel
theorem dX10_dayOf_55 : decode cX10_dayOf 55 = .ok (.bipush 60, 2) := by decide +kernel
theorem dX10_dayOf_57 : decode cX10_dayOf 57 = .ok (.iload_n 1, 1) := by decide +kernel
theorem dX10_dayOf_58 : decode cX10_dayOf 58 = .ok (.imul, 1) := by decide +kernel
theorem dX10_dayOf_59 : decode cX10_dayOf 59 = .ok (.isub, 1) := by decide +kernel
theorem dX10_dayOf_60 : decode cX10_dayOf 60 = .ok (.ireturn, 1) := by decide +kernel
set_option maxRecDepth 20000 in
theorem ggX10_chain_X10_isClient : GoodIn wsX10_chain wsX10_isClient := goodIn_r _ [4, 5, 6, 3, 7] (by decide +kernel) (by decide +kernel)
set_option maxRecDepth 20000 in
theorem gX10_chain_X10_isClient : GoodIn wsX10_chain (va_wsS RX10 103 yX10_isClient wsX10_isClient) := goodIn_app (goodIn_of _ (by decide +kernel)) ggX10_chain_X10_isClient
set_option maxRecDepth 20000 in
theorem ggX10_chain_X10_isFine : GoodIn wsX10_chain wsX10_isFine := goodIn_r _ [11, 12, 19, 20, 21, 22, 23, 24, 25, 26, 27, 28, 29, 30, 31, 32, 33, 34, 35, 36, 37, 38, 39, 40, 41, 42, 43, 44, 45, 46, 47, 48] (by decide +kernel) (by decide +kernel)
set_option maxRecDepth 20000 in
theorem gX10_chain_X10_isFine : GoodIn wsX10_chain (wsV RX10 114 RX10 yX10_isFine wsX10_isFine) := goodIn_app (goodIn_of _ (by decide +kernel)) ggX10_chain_X10_isFine
set_option maxRecDepth 20000 in
theorem ggX10_chain_X10_differences : GoodIn wsX10_chain wsX10_differences := goodIn_r _ [16, 17, 18, 19, 20, 21, 22, 23, 24, 25, 26, 27, 28, 29, 30, 31, 32, 33, 34, 35, 36, 37, 38, 39, 40, 41, 42, 43, 44, 45, 46, 47, 48] (by decide +kernel) (by decide +kernel)
set_option maxRecDepth 20000 in
theorem gX10_chain_X10_differences : GoodIn wsX10_chain (wsV RX10 178 RX10 yX10_differences wsX10_differences) := goodIn_app (goodIn_of _ (by decide +kernel)) ggX10_chain_X10_differences
theorem dX10_chain_0 : decode cX10_chain 0 = .ok (.aload_n 0, 1) := by decide +kernel
theorem dX10_chain_1 : decode cX10_chain 1 = .ok (.iload_n 1, 1) := by decide +kernel
theorem dX10_chain_2 : decode cX10_chain 2 = .ok (.invokestatic 103, 3) := by decide +kernel
theorem dX10_chain_5 : decode cX10_chain 5 = .ok (.ifCond .eq 7, 3) := by decide +kernel
theorem dX10_chain_8 : decode cX10_chain 8 = .ok (.iconst 0, 1) := by decide +kernel
theorem dX10_chain_9 : decode cX10_chain 9 = .ok (.goto 4, 3) := by decide +kernel
theorem dX10_chain_12 : decode cX10_chain 12 = .ok (.iconst 1, 1) := by decide +kernel
theorem dX10_chain_13 : decode cX10_chain 13 = .ok (.invokevirtual 114, 3) := by decide +kernel
theorem dX10_chain_16 : decode cX10_chain 16 = .ok (.ifCond .eq 11, 3) := by decide +kernel
theorem dX10_chain_19 : decode cX10_chain 19 = .ok (.aload_n 0, 1) := by decide +kernel
theorem dX10_chain_20 : decode cX10_chain 20 = .ok (.iload_n 1, 1) := by decide +kernel
theorem dX10_chain_21 : decode cX10_chain 21 = .ok (.invokevirtual 178, 3) := by decide +kernel
theorem dX10_chain_24 : decode cX10_chain 24 = .ok (.goto 4, 3) := by decide +kernel
theorem dX10_chain_27 : decode cX10_chain 27 = .ok (.iconst 0, 1) := by decide +kernel
theorem dX10_chain_28 : decode cX10_chain 28 = .ok (.ireturn, 1) := by decide +kernel
set_option maxRecDepth 20000 in
theorem ggX10_asks_X10_isClient : GoodIn wsX10_asks wsX10_isClient := goodIn_r _ [5, 6, 7, 4, 8] (by decide +kernel) (by decide +kernel)
set_option maxRecDepth 20000 in
theorem gX10_asks_X10_isClient : GoodIn wsX10_asks (va_wsS RX10 103 yX10_isClient wsX10_isClient) := goodIn_app (goodIn_of _ (by decide +kernel)) ggX10_asks_X10_isClient
set_option maxRecDepth 20000 in
theorem ggX10_asks_X10_isNight : GoodIn wsX10_asks wsX10_isNight := goodIn_r _ [12, 13, 6, 7, 4, 8, 19, 20, 21, 22, 23, 24, 25, 26, 27, 28, 29, 30, 31, 32, 33, 34, 35, 36, 37, 38, 39, 40, 41, 42, 43, 44, 45, 46, 47, 48] (by decide +kernel) (by decide +kernel)
set_option maxRecDepth 20000 in
theorem gX10_asks_X10_isNight : GoodIn wsX10_asks (wsV RX10 200 RX10 yX10_isNight wsX10_isNight) := goodIn_app (goodIn_of _ (by decide +kernel)) ggX10_asks_X10_isNight
set_option maxRecDepth 20000 in
theorem ggX10_asks_X10_isFine : GoodIn wsX10_asks wsX10_isFine := goodIn_r _ [17, 18, 19, 20, 21, 22, 23, 24, 25, 26, 27, 28, 29, 30, 31, 32, 33, 34, 35, 36, 37, 38, 39, 40, 41, 42, 43, 44, 45, 46, 47, 48] (by decide +kernel) (by decide +kernel)
set_option maxRecDepth 20000 in
theorem gX10_asks_X10_isFine : GoodIn wsX10_asks (wsV RX10 114 RX10 yX10_isFine wsX10_isFine) := goodIn_app (goodIn_of _ (by decide +kernel)) ggX10_asks_X10_isFine
theorem dX10_asks_0 : decode cX10_asks 0 = .ok (.iload_n 1, 1) := by decide +kernel
theorem dX10_asks_1 : decode cX10_asks 1 = .ok (.invokestatic 103, 3) := by decide +kernel
theorem dX10_asks_4 : decode cX10_asks 4 = .ok (.istore_n 3, 1) := by decide +kernel
theorem dX10_asks_5 : decode cX10_asks 5 = .ok (.aload_n 0, 1) := by decide +kernel
theorem dX10_asks_6 : decode cX10_asks 6 = .ok (.iload_n 3, 1) := by decide +kernel
theorem dX10_asks_7 : decode cX10_asks 7 = .ok (.ifCond .ne 7, 3) := by decide +kernel
theorem dX10_asks_10 : decode cX10_asks 10 = .ok (.iconst 1, 1) := by decide +kernel
theorem dX10_asks_11 : decode cX10_asks 11 = .ok (.goto 34, 3) := by decide +kernel
theorem dX10_asks_14 : decode cX10_asks 14 = .ok (.aload_n 0, 1) := by decide +kernel
theorem dX10_asks_15 : decode cX10_asks 15 = .ok (.iload_n 2, 1) := by decide +kernel
theorem dX10_asks_16 : decode cX10_asks 16 = .ok (.invokevirtual 200, 3) := by decide +kernel
theorem dX10_asks_19 : decode cX10_asks 19 = .ok (.ifCond .ne 7, 3) := by decide +kernel
theorem dX10_asks_22 : decode cX10_asks 22 = .ok (.iconst 2, 1) := by decide +kernel
theorem dX10_asks_23 : decode cX10_asks 23 = .ok (.goto 22, 3) := by decide +kernel
theorem dX10_asks_26 : decode cX10_asks 26 = .ok (.aload_n 0, 1) := by decide +kernel
theorem dX10_asks_27 : decode cX10_asks 27 = .ok (.getfield 22, 3) := by decide +kernel
theorem dX10_asks_30 : decode cX10_asks 30 = .ok (.bipush 60, 2) := by decide +kernel
theorem dX10_asks_32 : decode cX10_asks 32 = .ok (.iload_n 1, 1) := by decide +kernel
theorem dX10_asks_33 : decode cX10_asks 33 = .ok (.imul, 1) := by decide +kernel
theorem dX10_asks_34 : decode cX10_asks 34 = .ok (.iload_n 2, 1) := by decide +kernel
theorem dX10_asks_35 : decode cX10_asks 35 = .ok (.iadd, 1) := by decide +kernel
theorem dX10_asks_36 : decode cX10_asks 36 = .ok (.iaload, 1) := by decide +kernel
theorem dX10_asks_37 : decode cX10_asks 37 = .ok (.ifCond .ne 7, 3) := by decide +kernel
theorem dX10_asks_40 : decode cX10_asks 40 = .ok (.iconst 3, 1) := by decide +kernel
theorem dX10_asks_41 : decode cX10_asks 41 = .ok (.goto 4, 3) := by decide +kernel
theorem dX10_asks_44 : decode cX10_asks 44 = .ok (.iconst 0, 1) := by decide +kernel
theorem dX10_asks_45 : decode cX10_asks 45 = .ok (.invokevirtual 114, 3) := by decide +kernel
theorem dX10_asks_48 : decode cX10_asks 48 = .ok (.ireturn, 1) := by decide +kernel
theorem dX10_held0_0 : decode cX10_held0 0 = .ok (.iconst 0, 1) := by decide +kernel
theorem dX10_held0_1 : decode cX10_held0 1 = .ok (.istore_n 2, 1) := by decide +kernel
theorem dX10_held0_2 : decode cX10_held0 2 = .ok (.iconst 0, 1) := by decide +kernel
theorem dX10_held0_3 : decode cX10_held0 3 = .ok (.istore_n 3, 1) := by decide +kernel
theorem dX10_held0_4 : decode cX10_held0 4 = .ok (.iload_n 3, 1) := by decide +kernel
theorem dX10_held0_5 : decode cX10_held0 5 = .ok (.aload_n 0, 1) := by decide +kernel
theorem dX10_held0_6 : decode cX10_held0 6 = .ok (.getfield 19, 3) := by decide +kernel
theorem dX10_held0_9 : decode cX10_held0 9 = .ok (.iload_n 1, 1) := by decide +kernel
theorem dX10_held0_10 : decode cX10_held0 10 = .ok (.iaload, 1) := by decide +kernel
theorem dX10_held0_11 : decode cX10_held0 11 = .ok (.if_icmp .ge 31, 3) := by decide +kernel
theorem dX10_held0_14 : decode cX10_held0 14 = .ok (.iload_n 2, 1) := by decide +kernel
theorem dX10_held0_15 : decode cX10_held0 15 = .ok (.aload_n 0, 1) := by decide +kernel
theorem dX10_held0_16 : decode cX10_held0 16 = .ok (.getfield 28, 3) := by decide +kernel
theorem dX10_held0_19 : decode cX10_held0 19 = .ok (.bipush 48, 2) := by decide +kernel
theorem dX10_held0_21 : decode cX10_held0 21 = .ok (.iload_n 1, 1) := by decide +kernel
theorem dX10_held0_22 : decode cX10_held0 22 = .ok (.imul, 1) := by decide +kernel
theorem dX10_held0_23 : decode cX10_held0 23 = .ok (.iload_n 3, 1) := by decide +kernel
theorem dX10_held0_24 : decode cX10_held0 24 = .ok (.iadd, 1) := by decide +kernel
theorem dX10_held0_25 : decode cX10_held0 25 = .ok (.baload, 1) := by decide +kernel
theorem dX10_held0_26 : decode cX10_held0 26 = .ok (.ifCond .eq 7, 3) := by decide +kernel
theorem dX10_held0_29 : decode cX10_held0 29 = .ok (.iconst 1, 1) := by decide +kernel
theorem dX10_held0_30 : decode cX10_held0 30 = .ok (.goto 4, 3) := by decide +kernel
theorem dX10_held0_33 : decode cX10_held0 33 = .ok (.iconst 0, 1) := by decide +kernel
theorem dX10_held0_34 : decode cX10_held0 34 = .ok (.iadd, 1) := by decide +kernel
theorem dX10_held0_35 : decode cX10_held0 35 = .ok (.istore_n 2, 1) := by decide +kernel
theorem dX10_held0_36 : decode cX10_held0 36 = .ok (.iinc 3 1, 3) := by decide +kernel
theorem dX10_held0_39 : decode cX10_held0 39 = .ok (.goto (-35), 3) := by decide +kernel
theorem dX10_held0_42 : decode cX10_held0 42 = .ok (.iload_n 2, 1) := by decide +kernel
theorem dX10_held0_43 : decode cX10_held0 43 = .ok (.ireturn, 1) := by decide +kernel
set_option maxRecDepth 20000 in
theorem ggX10_bytes_X10_asks : GoodIn wsX10_bytes wsX10_asks := goodIn_r _ [7, 8, 9, 10, 6, 11, 12, 13, 14, 15, 16, 17, 18, 19, 20, 21, 22, 23, 24, 34, 35, 36, 37, 38, 39, 40, 41, 42, 43, 44, 45, 46, 47, 48, 49, 50, 51, 52, 53, 54, 55, 56, 57, 58, 59, 60, 61, 62, 63] (by decide +kernel) (by decide +kernel)
set_option maxRecDepth 20000 in
theorem gX10_bytes_X10_asks : GoodIn wsX10_bytes (wsV RX10 203 RX10 yX10_asks wsX10_asks) := goodIn_app (goodIn_of _ (by decide +kernel)) ggX10_bytes_X10_asks
set_option maxRecDepth 20000 in
theorem ggX10_bytes_X10_bytesOf : GoodIn wsX10_bytes wsX10_bytesOf := goodIn_r _ [28, 29, 30, 31, 32, 6, 33, 34, 35, 36, 37, 38, 39, 40, 41, 42, 43, 44, 45, 46, 47, 48, 49, 50, 51, 52, 53, 54, 55, 56, 57, 58, 59, 60, 61, 62, 63] (by decide +kernel) (by decide +kernel)
set_option maxRecDepth 20000 in
theorem gX10_bytes_X10_bytesOf : GoodIn wsX10_bytes (wsV RX10 144 RX10 yX10_bytesOf wsX10_bytesOf) := goodIn_app (goodIn_of _ (by decide +kernel)) ggX10_bytes_X10_bytesOf
theorem dX10_bytes_0 : decode cX10_bytes 0 = .ok (.aload_n 0, 1) := by decide +kernel
theorem dX10_bytes_1 : decode cX10_bytes 1 = .ok (.iload_n 1, 1) := by decide +kernel
theorem dX10_bytes_2 : decode cX10_bytes 2 = .ok (.iload_n 2, 1) := by decide +kernel
theorem dX10_bytes_3 : decode cX10_bytes 3 = .ok (.invokevirtual 203, 3) := by decide +kernel
theorem dX10_bytes_6 : decode cX10_bytes 6 = .ok (.ifCond .ne 5, 3) := by decide +kernel
theorem dX10_bytes_9 : decode cX10_bytes 9 = .ok (.iconst 0, 1) := by decide +kernel
theorem dX10_bytes_10 : decode cX10_bytes 10 = .ok (.ireturn, 1) := by decide +kernel
theorem dX10_bytes_11 : decode cX10_bytes 11 = .ok (.bipush 60, 2) := by decide +kernel
theorem dX10_bytes_13 : decode cX10_bytes 13 = .ok (.iload_n 1, 1) := by decide +kernel
theorem dX10_bytes_14 : decode cX10_bytes 14 = .ok (.imul, 1) := by decide +kernel
theorem dX10_bytes_15 : decode cX10_bytes 15 = .ok (.iload_n 2, 1) := by decide +kernel
theorem dX10_bytes_16 : decode cX10_bytes 16 = .ok (.iadd, 1) := by decide +kernel
theorem dX10_bytes_17 : decode cX10_bytes 17 = .ok (.istore_n 3, 1) := by decide +kernel
theorem dX10_bytes_18 : decode cX10_bytes 18 = .ok (.aload_n 0, 1) := by decide +kernel
theorem dX10_bytes_19 : decode cX10_bytes 19 = .ok (.getfield 19, 3) := by decide +kernel
theorem dX10_bytes_22 : decode cX10_bytes 22 = .ok (.iload_n 3, 1) := by decide +kernel
theorem dX10_bytes_23 : decode cX10_bytes 23 = .ok (.iaload, 1) := by decide +kernel
theorem dX10_bytes_24 : decode cX10_bytes 24 = .ok (.istore 4, 2) := by decide +kernel
theorem dX10_bytes_26 : decode cX10_bytes 26 = .ok (.iconst 0, 1) := by decide +kernel
theorem dX10_bytes_27 : decode cX10_bytes 27 = .ok (.istore 5, 2) := by decide +kernel
theorem dX10_bytes_29 : decode cX10_bytes 29 = .ok (.iload 5, 2) := by decide +kernel
theorem dX10_bytes_31 : decode cX10_bytes 31 = .ok (.aload_n 0, 1) := by decide +kernel
theorem dX10_bytes_32 : decode cX10_bytes 32 = .ok (.getfield 19, 3) := by decide +kernel
theorem dX10_bytes_35 : decode cX10_bytes 35 = .ok (.iload_n 3, 1) := by decide +kernel
theorem dX10_bytes_36 : decode cX10_bytes 36 = .ok (.iaload, 1) := by decide +kernel
theorem dX10_bytes_37 : decode cX10_bytes 37 = .ok (.if_icmp .ge 40, 3) := by decide +kernel
theorem dX10_bytes_40 : decode cX10_bytes 40 = .ok (.iload 4, 2) := by decide +kernel
theorem dX10_bytes_42 : decode cX10_bytes 42 = .ok (.aload_n 0, 1) := by decide +kernel
theorem dX10_bytes_43 : decode cX10_bytes 43 = .ok (.getfield 28, 3) := by decide +kernel
theorem dX10_bytes_46 : decode cX10_bytes 46 = .ok (.bipush 48, 2) := by decide +kernel
theorem dX10_bytes_48 : decode cX10_bytes 48 = .ok (.iload_n 3, 1) := by decide +kernel
theorem dX10_bytes_49 : decode cX10_bytes 49 = .ok (.imul, 1) := by decide +kernel
theorem dX10_bytes_50 : decode cX10_bytes 50 = .ok (.iload 5, 2) := by decide +kernel
theorem dX10_bytes_52 : decode cX10_bytes 52 = .ok (.iadd, 1) := by decide +kernel
theorem dX10_bytes_53 : decode cX10_bytes 53 = .ok (.baload, 1) := by decide +kernel
theorem dX10_bytes_54 : decode cX10_bytes 54 = .ok (.ifCond .eq 13, 3) := by decide +kernel
theorem dX10_bytes_57 : decode cX10_bytes 57 = .ok (.aload_n 0, 1) := by decide +kernel
theorem dX10_bytes_58 : decode cX10_bytes 58 = .ok (.iload_n 3, 1) := by decide +kernel
theorem dX10_bytes_59 : decode cX10_bytes 59 = .ok (.iload 5, 2) := by decide +kernel
theorem dX10_bytes_61 : decode cX10_bytes 61 = .ok (.invokevirtual 144, 3) := by decide +kernel
theorem dX10_bytes_64 : decode cX10_bytes 64 = .ok (.goto 4, 3) := by decide +kernel
theorem dX10_bytes_67 : decode cX10_bytes 67 = .ok (.iconst 0, 1) := by decide +kernel
theorem dX10_bytes_68 : decode cX10_bytes 68 = .ok (.iadd, 1) := by decide +kernel
theorem dX10_bytes_69 : decode cX10_bytes 69 = .ok (.istore 4, 2) := by decide +kernel
theorem dX10_bytes_71 : decode cX10_bytes 71 = .ok (.iinc 5 1, 3) := by decide +kernel
theorem dX10_bytes_74 : decode cX10_bytes 74 = .ok (.goto (-45), 3) := by decide +kernel
theorem dX10_bytes_77 : decode cX10_bytes 77 = .ok (.iload 4, 2) := by decide +kernel
theorem dX10_bytes_79 : decode cX10_bytes 79 = .ok (.ireturn, 1) := by decide +kernel
set_option maxRecDepth 20000 in
theorem ggX10_held_X10_asks : GoodIn wsX10_held wsX10_asks := goodIn_r _ [5, 6, 7, 8, 4, 9, 10, 11, 12, 13, 14, 15, 16, 17, 18, 19, 20, 21, 22, 29, 30, 31, 32, 33, 34, 35, 36, 37, 38, 39, 40, 41, 42, 43, 44, 45, 46, 47, 48, 49, 50, 51, 52, 53, 54, 55, 56, 57, 58] (by decide +kernel) (by decide +kernel)
set_option maxRecDepth 20000 in
theorem gX10_held_X10_asks : GoodIn wsX10_held (wsV RX10 203 RX10 yX10_asks wsX10_asks) := goodIn_app (goodIn_of _ (by decide +kernel)) ggX10_held_X10_asks
set_option maxRecDepth 20000 in
theorem ggX10_held_X10_held0 : GoodIn wsX10_held wsX10_held0 := goodIn_r _ [26, 27, 28, 29, 30, 31, 32, 33, 34, 35, 36, 37, 38, 39, 40, 41, 42, 43, 44, 45, 46, 47, 48, 49, 50, 51, 52, 53, 54, 55, 56, 57, 58] (by decide +kernel) (by decide +kernel)
set_option maxRecDepth 20000 in
theorem gX10_held_X10_held0 : GoodIn wsX10_held (wsV RX10 206 RX10 yX10_held0 wsX10_held0) := goodIn_app (goodIn_of _ (by decide +kernel)) ggX10_held_X10_held0
theorem dX10_held_0 : decode cX10_held 0 = .ok (.aload_n 0, 1) := by decide +kernel
theorem dX10_held_1 : decode cX10_held 1 = .ok (.iload_n 1, 1) := by decide +kernel
theorem dX10_held_2 : decode cX10_held 2 = .ok (.iload_n 2, 1) := by decide +kernel
theorem dX10_held_3 : decode cX10_held 3 = .ok (.invokevirtual 203, 3) := by decide +kernel
theorem dX10_held_6 : decode cX10_held 6 = .ok (.ifCond .eq 16, 3) := by decide +kernel
theorem dX10_held_9 : decode cX10_held 9 = .ok (.aload_n 0, 1) := by decide +kernel
theorem dX10_held_10 : decode cX10_held 10 = .ok (.bipush 60, 2) := by decide +kernel
theorem dX10_held_12 : decode cX10_held 12 = .ok (.iload_n 1, 1) := by decide +kernel
theorem dX10_held_13 : decode cX10_held 13 = .ok (.imul, 1) := by decide +kernel
theorem dX10_held_14 : decode cX10_held 14 = .ok (.iload_n 2, 1) := by decide +kernel
theorem dX10_held_15 : decode cX10_held 15 = .ok (.iadd, 1) := by decide +kernel
theorem dX10_held_16 : decode cX10_held 16 = .ok (.invokevirtual 206, 3) := by decide +kernel
theorem dX10_held_19 : decode cX10_held 19 = .ok (.goto 4, 3) := by decide +kernel
theorem dX10_held_22 : decode cX10_held 22 = .ok (.iconst 0, 1) := by decide +kernel
theorem dX10_held_23 : decode cX10_held 23 = .ok (.ireturn, 1) := by decide +kernel
set_option maxRecDepth 20000 in
theorem ggX10_lengthOf_X10_asks : GoodIn wsX10_lengthOf wsX10_asks := goodIn_r _ [6, 7, 8, 9, 5, 10, 11, 12, 13, 14, 15, 16, 17, 18, 19, 20, 21, 22, 23, 24, 25, 26, 27, 28, 29, 30, 31, 32, 33, 34, 35, 36, 37, 38, 39, 40, 41, 42, 43, 44, 45, 46, 47, 48, 49, 50, 51, 52, 53] (by decide +kernel) (by decide +kernel)
set_option maxRecDepth 20000 in
theorem gX10_lengthOf_X10_asks : GoodIn wsX10_lengthOf (wsV RX10 203 RX10 yX10_asks wsX10_asks) := goodIn_app (goodIn_of _ (by decide +kernel)) ggX10_lengthOf_X10_asks
theorem dX10_lengthOf_0 : decode cX10_lengthOf 0 = .ok (.aload_n 0, 1) := by decide +kernel
theorem dX10_lengthOf_1 : decode cX10_lengthOf 1 = .ok (.iload_n 1, 1) := by decide +kernel
theorem dX10_lengthOf_2 : decode cX10_lengthOf 2 = .ok (.iload_n 2, 1) := by decide +kernel
theorem dX10_lengthOf_3 : decode cX10_lengthOf 3 = .ok (.invokevirtual 203, 3) := by decide +kernel
theorem dX10_lengthOf_6 : decode cX10_lengthOf 6 = .ok (.ifCond .eq 17, 3) := by decide +kernel
theorem dX10_lengthOf_9 : decode cX10_lengthOf 9 = .ok (.aload_n 0, 1) := by decide +kernel
theorem dX10_lengthOf_10 : decode cX10_lengthOf 10 = .ok (.getfield 13, 3) := by decide +kernel
theorem dX10_lengthOf_13 : decode cX10_lengthOf 13 = .ok (.bipush 60, 2) := by decide +kernel
theorem dX10_lengthOf_15 : decode cX10_lengthOf 15 = .ok (.iload_n 1, 1) := by decide +kernel
theorem dX10_lengthOf_16 : decode cX10_lengthOf 16 = .ok (.imul, 1) := by decide +kernel
theorem dX10_lengthOf_17 : decode cX10_lengthOf 17 = .ok (.iload_n 2, 1) := by decide +kernel
theorem dX10_lengthOf_18 : decode cX10_lengthOf 18 = .ok (.iadd, 1) := by decide +kernel
theorem dX10_lengthOf_19 : decode cX10_lengthOf 19 = .ok (.iaload, 1) := by decide +kernel
theorem dX10_lengthOf_20 : decode cX10_lengthOf 20 = .ok (.goto 4, 3) := by decide +kernel
theorem dX10_lengthOf_23 : decode cX10_lengthOf 23 = .ok (.iconst 0, 1) := by decide +kernel
theorem dX10_lengthOf_24 : decode cX10_lengthOf 24 = .ok (.ireturn, 1) := by decide +kernel
set_option maxRecDepth 20000 in
theorem ggX10_digestOf_X10_asks : GoodIn wsX10_digestOf wsX10_asks := goodIn_r _ [5, 6, 7, 8, 4, 9, 10, 11, 12, 13, 14, 15, 16, 17, 18, 19, 20, 21, 22, 33, 34, 35, 36, 37, 38, 39, 40, 41, 42, 43, 44, 45, 46, 47, 48, 49, 50, 51, 52, 53, 54, 55, 56, 57, 58, 59, 60, 61, 62] (by decide +kernel) (by decide +kernel)
set_option maxRecDepth 20000 in
theorem gX10_digestOf_X10_asks : GoodIn wsX10_digestOf (wsV RX10 203 RX10 yX10_asks wsX10_asks) := goodIn_app (goodIn_of _ (by decide +kernel)) ggX10_digestOf_X10_asks
set_option maxRecDepth 20000 in
theorem ggX10_digestOf_X10_digests : GoodIn wsX10_digestOf wsX10_digests := goodIn_r _ [26, 27, 28, 29, 30, 4, 31, 32, 33, 34, 35, 36, 37, 38, 39, 40, 41, 42, 43, 44, 45, 46, 47, 48, 49, 50, 51, 52, 53, 54, 55, 56, 57, 58, 59, 60, 61, 62] (by decide +kernel) (by decide +kernel)
set_option maxRecDepth 20000 in
theorem gX10_digestOf_X10_digests : GoodIn wsX10_digestOf (wsV RX10 128 RX10 yX10_digests wsX10_digests) := goodIn_app (goodIn_of _ (by decide +kernel)) ggX10_digestOf_X10_digests
theorem dX10_digestOf_0 : decode cX10_digestOf 0 = .ok (.aload_n 0, 1) := by decide +kernel
theorem dX10_digestOf_1 : decode cX10_digestOf 1 = .ok (.iload_n 1, 1) := by decide +kernel
theorem dX10_digestOf_2 : decode cX10_digestOf 2 = .ok (.iload_n 2, 1) := by decide +kernel
theorem dX10_digestOf_3 : decode cX10_digestOf 3 = .ok (.invokevirtual 203, 3) := by decide +kernel
theorem dX10_digestOf_6 : decode cX10_digestOf 6 = .ok (.ifCond .eq 16, 3) := by decide +kernel
theorem dX10_digestOf_9 : decode cX10_digestOf 9 = .ok (.aload_n 0, 1) := by decide +kernel
theorem dX10_digestOf_10 : decode cX10_digestOf 10 = .ok (.bipush 60, 2) := by decide +kernel
theorem dX10_digestOf_12 : decode cX10_digestOf 12 = .ok (.iload_n 1, 1) := by decide +kernel
theorem dX10_digestOf_13 : decode cX10_digestOf 13 = .ok (.imul, 1) := by decide +kernel
theorem dX10_digestOf_14 : decode cX10_digestOf 14 = .ok (.iload_n 2, 1) := by decide +kernel
theorem dX10_digestOf_15 : decode cX10_digestOf 15 = .ok (.iadd, 1) := by decide +kernel
theorem dX10_digestOf_16 : decode cX10_digestOf 16 = .ok (.invokevirtual 128, 3) := by decide +kernel
theorem dX10_digestOf_19 : decode cX10_digestOf 19 = .ok (.goto 4, 3) := by decide +kernel
theorem dX10_digestOf_22 : decode cX10_digestOf 22 = .ok (.lconst 0, 1) := by decide +kernel
theorem dX10_digestOf_23 : decode cX10_digestOf 23 = .ok (.lreturn, 1) := by decide +kernel
set_option maxRecDepth 20000 in
theorem ggX10_digestByChunks_X10_asks : GoodIn wsX10_digestByChunks wsX10_asks := goodIn_r _ [5, 6, 7, 8, 4, 9, 10, 11, 12, 13, 14, 15, 16, 17, 18, 19, 20, 21, 22, 33, 34, 35, 36, 37, 38, 39, 40, 41, 42, 43, 44, 45, 46, 47, 48, 49, 50, 51, 52, 53, 54, 55, 56, 57, 58, 59, 60, 61, 62] (by decide +kernel) (by decide +kernel)
set_option maxRecDepth 20000 in
theorem gX10_digestByChunks_X10_asks : GoodIn wsX10_digestByChunks (wsV RX10 203 RX10 yX10_asks wsX10_asks) := goodIn_app (goodIn_of _ (by decide +kernel)) ggX10_digestByChunks_X10_asks
set_option maxRecDepth 20000 in
theorem ggX10_digestByChunks_X10_digests : GoodIn wsX10_digestByChunks wsX10_digests := goodIn_r _ [26, 27, 28, 29, 30, 4, 31, 32, 33, 34, 35, 36, 37, 38, 39, 40, 41, 42, 43, 44, 45, 46, 47, 48, 49, 50, 51, 52, 53, 54, 55, 56, 57, 58, 59, 60, 61, 62] (by decide +kernel) (by decide +kernel)
set_option maxRecDepth 20000 in
theorem gX10_digestByChunks_X10_digests : GoodIn wsX10_digestByChunks (wsV RX10 128 RX10 yX10_digests wsX10_digests) := goodIn_app (goodIn_of _ (by decide +kernel)) ggX10_digestByChunks_X10_digests
theorem dX10_digestByChunks_0 : decode cX10_digestByChunks 0 = .ok (.aload_n 0, 1) := by decide +kernel
theorem dX10_digestByChunks_1 : decode cX10_digestByChunks 1 = .ok (.iload_n 1, 1) := by decide +kernel
theorem dX10_digestByChunks_2 : decode cX10_digestByChunks 2 = .ok (.iload_n 2, 1) := by decide +kernel
theorem dX10_digestByChunks_3 : decode cX10_digestByChunks 3 = .ok (.invokevirtual 203, 3) := by decide +kernel
theorem dX10_digestByChunks_6 : decode cX10_digestByChunks 6 = .ok (.ifCond .eq 16, 3) := by decide +kernel
theorem dX10_digestByChunks_9 : decode cX10_digestByChunks 9 = .ok (.aload_n 0, 1) := by decide +kernel
theorem dX10_digestByChunks_10 : decode cX10_digestByChunks 10 = .ok (.bipush 60, 2) := by decide +kernel
theorem dX10_digestByChunks_12 : decode cX10_digestByChunks 12 = .ok (.iload_n 1, 1) := by decide +kernel
theorem dX10_digestByChunks_13 : decode cX10_digestByChunks 13 = .ok (.imul, 1) := by decide +kernel
theorem dX10_digestByChunks_14 : decode cX10_digestByChunks 14 = .ok (.iload_n 2, 1) := by decide +kernel
theorem dX10_digestByChunks_15 : decode cX10_digestByChunks 15 = .ok (.iadd, 1) := by decide +kernel
theorem dX10_digestByChunks_16 : decode cX10_digestByChunks 16 = .ok (.invokevirtual 128, 3) := by decide +kernel
theorem dX10_digestByChunks_19 : decode cX10_digestByChunks 19 = .ok (.goto 4, 3) := by decide +kernel
theorem dX10_digestByChunks_22 : decode cX10_digestByChunks 22 = .ok (.lconst 0, 1) := by decide +kernel
theorem dX10_digestByChunks_23 : decode cX10_digestByChunks 23 = .ok (.lreturn, 1) := by decide +kernel
set_option maxRecDepth 20000 in
theorem ggX10_restore_X10_asks : GoodIn wsX10_restore wsX10_asks := goodIn_r _ [7, 8, 9, 10, 6, 11, 12, 13, 14, 15, 16, 17, 18, 19, 20, 21, 22, 23, 24, 29, 30, 31, 32, 33, 34, 35, 36, 37, 38, 39, 40, 41, 42, 43, 44, 45, 46, 47, 48, 49, 50, 51, 52, 53, 54, 55, 56, 57, 58] (by decide +kernel) (by decide +kernel)
set_option maxRecDepth 20000 in
theorem gX10_restore_X10_asks : GoodIn wsX10_restore (wsV RX10 203 RX10 yX10_asks wsX10_asks) := goodIn_app (goodIn_of _ (by decide +kernel)) ggX10_restore_X10_asks
set_option maxRecDepth 20000 in
theorem ggX10_restore_X10_at0 : GoodIn wsX10_restore wsX10_at0 := goodIn_r _ [28, 2, 29, 30, 31, 32, 33, 34, 35, 36, 37, 38, 39, 40, 41, 42, 43, 44, 45, 46, 47, 48, 49, 50, 51, 52, 53, 54, 55, 56, 57, 58] (by decide +kernel) (by decide +kernel)
set_option maxRecDepth 20000 in
theorem gX10_restore_X10_at0 : GoodIn wsX10_restore (wsV RX10 117 RX10 yX10_at0 wsX10_at0) := goodIn_app (goodIn_of _ (by decide +kernel)) ggX10_restore_X10_at0
theorem dX10_restore_0 : decode cX10_restore 0 = .ok (.aload_n 0, 1) := by decide +kernel
theorem dX10_restore_1 : decode cX10_restore 1 = .ok (.iload_n 1, 1) := by decide +kernel
theorem dX10_restore_2 : decode cX10_restore 2 = .ok (.iload_n 2, 1) := by decide +kernel
theorem dX10_restore_3 : decode cX10_restore 3 = .ok (.invokevirtual 203, 3) := by decide +kernel
theorem dX10_restore_6 : decode cX10_restore 6 = .ok (.ifCond .ne 5, 3) := by decide +kernel
theorem dX10_restore_9 : decode cX10_restore 9 = .ok (.iconst 0, 1) := by decide +kernel
theorem dX10_restore_10 : decode cX10_restore 10 = .ok (.ireturn, 1) := by decide +kernel
theorem dX10_restore_11 : decode cX10_restore 11 = .ok (.bipush 60, 2) := by decide +kernel
theorem dX10_restore_13 : decode cX10_restore 13 = .ok (.iload_n 1, 1) := by decide +kernel
theorem dX10_restore_14 : decode cX10_restore 14 = .ok (.imul, 1) := by decide +kernel
theorem dX10_restore_15 : decode cX10_restore 15 = .ok (.iload_n 2, 1) := by decide +kernel
theorem dX10_restore_16 : decode cX10_restore 16 = .ok (.iadd, 1) := by decide +kernel
theorem dX10_restore_17 : decode cX10_restore 17 = .ok (.istore_n 3, 1) := by decide +kernel
theorem dX10_restore_18 : decode cX10_restore 18 = .ok (.sipush 240, 3) := by decide +kernel
theorem dX10_restore_21 : decode cX10_restore 21 = .ok (.iload_n 1, 1) := by decide +kernel
theorem dX10_restore_22 : decode cX10_restore 22 = .ok (.iadd, 1) := by decide +kernel
theorem dX10_restore_23 : decode cX10_restore 23 = .ok (.istore 4, 2) := by decide +kernel
theorem dX10_restore_25 : decode cX10_restore 25 = .ok (.iconst 0, 1) := by decide +kernel
theorem dX10_restore_26 : decode cX10_restore 26 = .ok (.istore 5, 2) := by decide +kernel
theorem dX10_restore_28 : decode cX10_restore 28 = .ok (.iconst 0, 1) := by decide +kernel
theorem dX10_restore_29 : decode cX10_restore 29 = .ok (.istore 6, 2) := by decide +kernel
theorem dX10_restore_31 : decode cX10_restore 31 = .ok (.iload 6, 2) := by decide +kernel
theorem dX10_restore_33 : decode cX10_restore 33 = .ok (.bipush 48, 2) := by decide +kernel
theorem dX10_restore_35 : decode cX10_restore 35 = .ok (.if_icmp .ge 86, 3) := by decide +kernel
theorem dX10_restore_38 : decode cX10_restore 38 = .ok (.iload 6, 2) := by decide +kernel
theorem dX10_restore_40 : decode cX10_restore 40 = .ok (.aload_n 0, 1) := by decide +kernel
theorem dX10_restore_41 : decode cX10_restore 41 = .ok (.getfield 13, 3) := by decide +kernel
theorem dX10_restore_44 : decode cX10_restore 44 = .ok (.iload 4, 2) := by decide +kernel
theorem dX10_restore_46 : decode cX10_restore 46 = .ok (.iaload, 1) := by decide +kernel
theorem dX10_restore_47 : decode cX10_restore 47 = .ok (.if_icmp .ge 7, 3) := by decide +kernel
theorem dX10_restore_50 : decode cX10_restore 50 = .ok (.iconst 1, 1) := by decide +kernel
theorem dX10_restore_51 : decode cX10_restore 51 = .ok (.goto 4, 3) := by decide +kernel
theorem dX10_restore_54 : decode cX10_restore 54 = .ok (.iconst 0, 1) := by decide +kernel
theorem dX10_restore_55 : decode cX10_restore 55 = .ok (.istore 7, 2) := by decide +kernel
theorem dX10_restore_57 : decode cX10_restore 57 = .ok (.iload 6, 2) := by decide +kernel
theorem dX10_restore_59 : decode cX10_restore 59 = .ok (.aload_n 0, 1) := by decide +kernel
theorem dX10_restore_60 : decode cX10_restore 60 = .ok (.getfield 13, 3) := by decide +kernel
theorem dX10_restore_63 : decode cX10_restore 63 = .ok (.iload_n 3, 1) := by decide +kernel
theorem dX10_restore_64 : decode cX10_restore 64 = .ok (.iaload, 1) := by decide +kernel
theorem dX10_restore_65 : decode cX10_restore 65 = .ok (.if_icmp .ge 7, 3) := by decide +kernel
theorem dX10_restore_68 : decode cX10_restore 68 = .ok (.iconst 1, 1) := by decide +kernel
theorem dX10_restore_69 : decode cX10_restore 69 = .ok (.goto 4, 3) := by decide +kernel
theorem dX10_restore_72 : decode cX10_restore 72 = .ok (.iconst 0, 1) := by decide +kernel
theorem dX10_restore_73 : decode cX10_restore 73 = .ok (.istore 8, 2) := by decide +kernel
theorem dX10_restore_75 : decode cX10_restore 75 = .ok (.iload 5, 2) := by decide +kernel
theorem dX10_restore_77 : decode cX10_restore 77 = .ok (.iload 7, 2) := by decide +kernel
theorem dX10_restore_79 : decode cX10_restore 79 = .ok (.iload 8, 2) := by decide +kernel
theorem dX10_restore_81 : decode cX10_restore 81 = .ok (.if_icmp .ne 26, 3) := by decide +kernel
theorem dX10_restore_84 : decode cX10_restore 84 = .ok (.iload 8, 2) := by decide +kernel
theorem dX10_restore_86 : decode cX10_restore 86 = .ok (.ifCond .eq 25, 3) := by decide +kernel
theorem dX10_restore_89 : decode cX10_restore 89 = .ok (.aload_n 0, 1) := by decide +kernel
theorem dX10_restore_90 : decode cX10_restore 90 = .ok (.iload 4, 2) := by decide +kernel
theorem dX10_restore_92 : decode cX10_restore 92 = .ok (.iload 6, 2) := by decide +kernel
theorem dX10_restore_94 : decode cX10_restore 94 = .ok (.invokevirtual 117, 3) := by decide +kernel
theorem dX10_restore_97 : decode cX10_restore 97 = .ok (.aload_n 0, 1) := by decide +kernel
theorem dX10_restore_98 : decode cX10_restore 98 = .ok (.iload_n 3, 1) := by decide +kernel
theorem dX10_restore_99 : decode cX10_restore 99 = .ok (.iload 6, 2) := by decide +kernel
theorem dX10_restore_101 : decode cX10_restore 101 = .ok (.invokevirtual 117, 3) := by decide +kernel
theorem dX10_restore_104 : decode cX10_restore 104 = .ok (.if_icmp .eq 7, 3) := by decide +kernel
theorem dX10_restore_107 : decode cX10_restore 107 = .ok (.iconst 1, 1) := by decide +kernel
theorem dX10_restore_108 : decode cX10_restore 108 = .ok (.goto 4, 3) := by decide +kernel
theorem dX10_restore_111 : decode cX10_restore 111 = .ok (.iconst 0, 1) := by decide +kernel
theorem dX10_restore_112 : decode cX10_restore 112 = .ok (.iadd, 1) := by decide +kernel
theorem dX10_restore_113 : decode cX10_restore 113 = .ok (.istore 5, 2) := by decide +kernel
theorem dX10_restore_115 : decode cX10_restore 115 = .ok (.iinc 6 1, 3) := by decide +kernel
theorem dX10_restore_118 : decode cX10_restore 118 = .ok (.goto (-87), 3) := by decide +kernel
theorem dX10_restore_121 : decode cX10_restore 121 = .ok (.iconst 0, 1) := by decide +kernel
theorem dX10_restore_122 : decode cX10_restore 122 = .ok (.istore 6, 2) := by decide +kernel
theorem dX10_restore_124 : decode cX10_restore 124 = .ok (.iload 6, 2) := by decide +kernel
theorem dX10_restore_126 : decode cX10_restore 126 = .ok (.aload_n 0, 1) := by decide +kernel
theorem dX10_restore_127 : decode cX10_restore 127 = .ok (.getfield 13, 3) := by decide +kernel
theorem dX10_restore_130 : decode cX10_restore 130 = .ok (.iload_n 3, 1) := by decide +kernel
theorem dX10_restore_131 : decode cX10_restore 131 = .ok (.iaload, 1) := by decide +kernel
theorem dX10_restore_132 : decode cX10_restore 132 = .ok (.if_icmp .ge 29, 3) := by decide +kernel
theorem dX10_restore_135 : decode cX10_restore 135 = .ok (.aload_n 0, 1) := by decide +kernel
theorem dX10_restore_136 : decode cX10_restore 136 = .ok (.getfield 7, 3) := by decide +kernel
theorem dX10_restore_139 : decode cX10_restore 139 = .ok (.bipush 48, 2) := by decide +kernel
theorem dX10_restore_141 : decode cX10_restore 141 = .ok (.iload 4, 2) := by decide +kernel
theorem dX10_restore_143 : decode cX10_restore 143 = .ok (.imul, 1) := by decide +kernel
theorem dX10_restore_144 : decode cX10_restore 144 = .ok (.iload 6, 2) := by decide +kernel
theorem dX10_restore_146 : decode cX10_restore 146 = .ok (.iadd, 1) := by decide +kernel
theorem dX10_restore_147 : decode cX10_restore 147 = .ok (.aload_n 0, 1) := by decide +kernel
theorem dX10_restore_148 : decode cX10_restore 148 = .ok (.iload_n 3, 1) := by decide +kernel
theorem dX10_restore_149 : decode cX10_restore 149 = .ok (.iload 6, 2) := by decide +kernel
theorem dX10_restore_151 : decode cX10_restore 151 = .ok (.invokevirtual 117, 3) := by decide +kernel
theorem dX10_restore_154 : decode cX10_restore 154 = .ok (.iastore, 1) := by decide +kernel
theorem dX10_restore_155 : decode cX10_restore 155 = .ok (.iinc 6 1, 3) := by decide +kernel
theorem dX10_restore_158 : decode cX10_restore 158 = .ok (.goto (-34), 3) := by decide +kernel
theorem dX10_restore_161 : decode cX10_restore 161 = .ok (.aload_n 0, 1) := by decide +kernel
theorem dX10_restore_162 : decode cX10_restore 162 = .ok (.getfield 13, 3) := by decide +kernel
theorem dX10_restore_165 : decode cX10_restore 165 = .ok (.iload 4, 2) := by decide +kernel
theorem dX10_restore_167 : decode cX10_restore 167 = .ok (.aload_n 0, 1) := by decide +kernel
theorem dX10_restore_168 : decode cX10_restore 168 = .ok (.getfield 13, 3) := by decide +kernel
theorem dX10_restore_171 : decode cX10_restore 171 = .ok (.iload_n 3, 1) := by decide +kernel
theorem dX10_restore_172 : decode cX10_restore 172 = .ok (.iaload, 1) := by decide +kernel
theorem dX10_restore_173 : decode cX10_restore 173 = .ok (.iastore, 1) := by decide +kernel
theorem dX10_restore_174 : decode cX10_restore 174 = .ok (.iload 5, 2) := by decide +kernel
theorem dX10_restore_176 : decode cX10_restore 176 = .ok (.ireturn, 1) := by decide +kernel
set_option maxRecDepth 20000 in
theorem ggX10_setSpeed_X10_isIn : GoodIn wsX10_setSpeed wsX10_isIn := goodIn_r _ [6] (by decide +kernel) (by decide +kernel)
set_option maxRecDepth 20000 in
theorem gX10_setSpeed_X10_isIn : GoodIn wsX10_setSpeed (va_wsS RX10 99 yX10_isIn wsX10_isIn) := goodIn_app (goodIn_of _ (by decide +kernel)) ggX10_setSpeed_X10_isIn
set_option maxRecDepth 20000 in
theorem ggX10_setSpeed_X10_isFine : GoodIn wsX10_setSpeed wsX10_isFine := goodIn_r _ [10, 11, 12, 13, 14, 15, 16, 17, 18, 19, 20, 21, 22, 23, 24, 25, 26, 27, 28, 29, 30, 31, 32, 33, 34, 35, 36, 37, 38, 39, 40, 41] (by decide +kernel) (by decide +kernel)
set_option maxRecDepth 20000 in
theorem gX10_setSpeed_X10_isFine : GoodIn wsX10_setSpeed (wsV RX10 114 RX10 yX10_isFine wsX10_isFine) := goodIn_app (goodIn_of _ (by decide +kernel)) ggX10_setSpeed_X10_isFine
theorem dX10_setSpeed_0 : decode cX10_setSpeed 0 = .ok (.aload_n 0, 1) := by decide +kernel
theorem dX10_setSpeed_1 : decode cX10_setSpeed 1 = .ok (.iload_n 1, 1) := by decide +kernel
theorem dX10_setSpeed_2 : decode cX10_setSpeed 2 = .ok (.iconst 0, 1) := by decide +kernel
theorem dX10_setSpeed_3 : decode cX10_setSpeed 3 = .ok (.bipush 30, 2) := by decide +kernel
theorem dX10_setSpeed_5 : decode cX10_setSpeed 5 = .ok (.invokestatic 99, 3) := by decide +kernel
theorem dX10_setSpeed_8 : decode cX10_setSpeed 8 = .ok (.ifCond .eq 17, 3) := by decide +kernel
theorem dX10_setSpeed_11 : decode cX10_setSpeed 11 = .ok (.iload_n 2, 1) := by decide +kernel
theorem dX10_setSpeed_12 : decode cX10_setSpeed 12 = .ok (.iconst 1, 1) := by decide +kernel
theorem dX10_setSpeed_13 : decode cX10_setSpeed 13 = .ok (.bipush 50, 2) := by decide +kernel
theorem dX10_setSpeed_15 : decode cX10_setSpeed 15 = .ok (.invokestatic 99, 3) := by decide +kernel
theorem dX10_setSpeed_18 : decode cX10_setSpeed 18 = .ok (.ifCond .eq 7, 3) := by decide +kernel
theorem dX10_setSpeed_21 : decode cX10_setSpeed 21 = .ok (.iconst 0, 1) := by decide +kernel
theorem dX10_setSpeed_22 : decode cX10_setSpeed 22 = .ok (.goto 4, 3) := by decide +kernel
theorem dX10_setSpeed_25 : decode cX10_setSpeed 25 = .ok (.iconst 1, 1) := by decide +kernel
theorem dX10_setSpeed_26 : decode cX10_setSpeed 26 = .ok (.invokevirtual 114, 3) := by decide +kernel
theorem dX10_setSpeed_29 : decode cX10_setSpeed 29 = .ok (.ifCond .eq 13, 3) := by decide +kernel
theorem dX10_setSpeed_32 : decode cX10_setSpeed 32 = .ok (.aload_n 0, 1) := by decide +kernel
theorem dX10_setSpeed_33 : decode cX10_setSpeed 33 = .ok (.iload_n 1, 1) := by decide +kernel
theorem dX10_setSpeed_34 : decode cX10_setSpeed 34 = .ok (.putfield 48, 3) := by decide +kernel
theorem dX10_setSpeed_37 : decode cX10_setSpeed 37 = .ok (.aload_n 0, 1) := by decide +kernel
theorem dX10_setSpeed_38 : decode cX10_setSpeed 38 = .ok (.iload_n 2, 1) := by decide +kernel
theorem dX10_setSpeed_39 : decode cX10_setSpeed 39 = .ok (.putfield 51, 3) := by decide +kernel
theorem dX10_setSpeed_42 : decode cX10_setSpeed 42 = .ok (.return_, 1) := by decide +kernel
set_option maxRecDepth 20000 in
theorem ggX10_serves_X10_isHeld : GoodIn wsX10_serves wsX10_isHeld := goodIn_r _ [6, 1, 7, 8, 9, 10, 5, 11, 12, 13, 14, 15, 16, 17, 18, 19, 20, 21, 22, 23, 24, 25, 26, 27, 28, 29, 30, 31, 32, 33, 34, 35, 36, 37, 38, 39, 40, 41, 42, 43, 44, 45, 46, 47, 48, 49, 50, 51, 52, 53, 54, 55] (by decide +kernel) (by decide +kernel)
set_option maxRecDepth 20000 in
theorem gX10_serves_X10_isHeld : GoodIn wsX10_serves (wsV RX10 163 RX10 yX10_isHeld wsX10_isHeld) := goodIn_app (goodIn_of _ (by decide +kernel)) ggX10_serves_X10_isHeld
theorem dX10_serves_0 : decode cX10_serves 0 = .ok (.iconst 0, 1) := by decide +kernel
theorem dX10_serves_1 : decode cX10_serves 1 = .ok (.istore_n 3, 1) := by decide +kernel
theorem dX10_serves_2 : decode cX10_serves 2 = .ok (.iconst 0, 1) := by decide +kernel
theorem dX10_serves_3 : decode cX10_serves 3 = .ok (.istore 4, 2) := by decide +kernel
theorem dX10_serves_5 : decode cX10_serves 5 = .ok (.iload 4, 2) := by decide +kernel
theorem dX10_serves_7 : decode cX10_serves 7 = .ok (.aload_n 0, 1) := by decide +kernel
theorem dX10_serves_8 : decode cX10_serves 8 = .ok (.getfield 19, 3) := by decide +kernel
theorem dX10_serves_11 : decode cX10_serves 11 = .ok (.iload_n 2, 1) := by decide +kernel
theorem dX10_serves_12 : decode cX10_serves 12 = .ok (.iaload, 1) := by decide +kernel
theorem dX10_serves_13 : decode cX10_serves 13 = .ok (.if_icmp .ge 22, 3) := by decide +kernel
theorem dX10_serves_16 : decode cX10_serves 16 = .ok (.iload_n 3, 1) := by decide +kernel
theorem dX10_serves_17 : decode cX10_serves 17 = .ok (.ifCond .ne 18, 3) := by decide +kernel
theorem dX10_serves_20 : decode cX10_serves 20 = .ok (.aload_n 0, 1) := by decide +kernel
theorem dX10_serves_21 : decode cX10_serves 21 = .ok (.iload_n 1, 1) := by decide +kernel
theorem dX10_serves_22 : decode cX10_serves 22 = .ok (.iload_n 2, 1) := by decide +kernel
theorem dX10_serves_23 : decode cX10_serves 23 = .ok (.iload 4, 2) := by decide +kernel
theorem dX10_serves_25 : decode cX10_serves 25 = .ok (.invokevirtual 163, 3) := by decide +kernel
theorem dX10_serves_28 : decode cX10_serves 28 = .ok (.istore_n 3, 1) := by decide +kernel
theorem dX10_serves_29 : decode cX10_serves 29 = .ok (.iinc 4 1, 3) := by decide +kernel
theorem dX10_serves_32 : decode cX10_serves 32 = .ok (.goto (-27), 3) := by decide +kernel
theorem dX10_serves_35 : decode cX10_serves 35 = .ok (.iload_n 3, 1) := by decide +kernel
theorem dX10_serves_36 : decode cX10_serves 36 = .ok (.ireturn, 1) := by decide +kernel
set_option maxRecDepth 20000 in
theorem ggX10_mounts0_X10_serves : GoodIn wsX10_mounts0 wsX10_serves := goodIn_r _ [8, 9, 10, 11, 12, 7, 13, 14, 15, 16, 17, 18, 19, 20, 21, 22, 23, 24, 25, 26, 27, 28, 29, 30, 31, 32, 33, 34, 35, 36, 37, 38, 39, 40, 41, 42, 43, 44, 45, 46, 47, 48, 49, 50, 51, 52, 53, 54, 55, 56, 57, 58, 59, 60, 61, 62] (by decide +kernel) (by decide +kernel)
set_option maxRecDepth 20000 in
theorem gX10_mounts0_X10_serves : GoodIn wsX10_mounts0 (wsV RX10 209 RX10 yX10_serves wsX10_serves) := goodIn_app (goodIn_of _ (by decide +kernel)) ggX10_mounts0_X10_serves
theorem dX10_mounts0_0 : decode cX10_mounts0 0 = .ok (.bipush 60, 2) := by decide +kernel
theorem dX10_mounts0_2 : decode cX10_mounts0 2 = .ok (.iload_n 1, 1) := by decide +kernel
theorem dX10_mounts0_3 : decode cX10_mounts0 3 = .ok (.imul, 1) := by decide +kernel
theorem dX10_mounts0_4 : decode cX10_mounts0 4 = .ok (.iload_n 2, 1) := by decide +kernel
theorem dX10_mounts0_5 : decode cX10_mounts0 5 = .ok (.iadd, 1) := by decide +kernel
theorem dX10_mounts0_6 : decode cX10_mounts0 6 = .ok (.istore_n 3, 1) := by decide +kernel
theorem dX10_mounts0_7 : decode cX10_mounts0 7 = .ok (.iconst 0, 1) := by decide +kernel
theorem dX10_mounts0_8 : decode cX10_mounts0 8 = .ok (.istore 4, 2) := by decide +kernel
theorem dX10_mounts0_10 : decode cX10_mounts0 10 = .ok (.iconst 0, 1) := by decide +kernel
theorem dX10_mounts0_11 : decode cX10_mounts0 11 = .ok (.istore 5, 2) := by decide +kernel
theorem dX10_mounts0_13 : decode cX10_mounts0 13 = .ok (.iload 5, 2) := by decide +kernel
theorem dX10_mounts0_15 : decode cX10_mounts0 15 = .ok (.aload_n 0, 1) := by decide +kernel
theorem dX10_mounts0_16 : decode cX10_mounts0 16 = .ok (.getfield 151, 3) := by decide +kernel
theorem dX10_mounts0_19 : decode cX10_mounts0 19 = .ok (.if_icmp .ge 82, 3) := by decide +kernel
theorem dX10_mounts0_22 : decode cX10_mounts0 22 = .ok (.bipush 60, 2) := by decide +kernel
theorem dX10_mounts0_24 : decode cX10_mounts0 24 = .ok (.iload_n 1, 1) := by decide +kernel
theorem dX10_mounts0_25 : decode cX10_mounts0 25 = .ok (.imul, 1) := by decide +kernel
theorem dX10_mounts0_26 : decode cX10_mounts0 26 = .ok (.iload 5, 2) := by decide +kernel
theorem dX10_mounts0_28 : decode cX10_mounts0 28 = .ok (.iadd, 1) := by decide +kernel
theorem dX10_mounts0_29 : decode cX10_mounts0 29 = .ok (.istore 6, 2) := by decide +kernel
theorem dX10_mounts0_31 : decode cX10_mounts0 31 = .ok (.aload_n 0, 1) := by decide +kernel
theorem dX10_mounts0_32 : decode cX10_mounts0 32 = .ok (.getfield 22, 3) := by decide +kernel
theorem dX10_mounts0_35 : decode cX10_mounts0 35 = .ok (.iload 6, 2) := by decide +kernel
theorem dX10_mounts0_37 : decode cX10_mounts0 37 = .ok (.iaload, 1) := by decide +kernel
theorem dX10_mounts0_38 : decode cX10_mounts0 38 = .ok (.ifCond .le 23, 3) := by decide +kernel
theorem dX10_mounts0_41 : decode cX10_mounts0 41 = .ok (.aload_n 0, 1) := by decide +kernel
theorem dX10_mounts0_42 : decode cX10_mounts0 42 = .ok (.getfield 25, 3) := by decide +kernel
theorem dX10_mounts0_45 : decode cX10_mounts0 45 = .ok (.iload 6, 2) := by decide +kernel
theorem dX10_mounts0_47 : decode cX10_mounts0 47 = .ok (.iaload, 1) := by decide +kernel
theorem dX10_mounts0_48 : decode cX10_mounts0 48 = .ok (.aload_n 0, 1) := by decide +kernel
theorem dX10_mounts0_49 : decode cX10_mounts0 49 = .ok (.getfield 25, 3) := by decide +kernel
theorem dX10_mounts0_52 : decode cX10_mounts0 52 = .ok (.iload_n 3, 1) := by decide +kernel
theorem dX10_mounts0_53 : decode cX10_mounts0 53 = .ok (.iaload, 1) := by decide +kernel
theorem dX10_mounts0_54 : decode cX10_mounts0 54 = .ok (.if_icmp .ne 7, 3) := by decide +kernel
theorem dX10_mounts0_57 : decode cX10_mounts0 57 = .ok (.iconst 1, 1) := by decide +kernel
theorem dX10_mounts0_58 : decode cX10_mounts0 58 = .ok (.goto 4, 3) := by decide +kernel
theorem dX10_mounts0_61 : decode cX10_mounts0 61 = .ok (.iconst 0, 1) := by decide +kernel
theorem dX10_mounts0_62 : decode cX10_mounts0 62 = .ok (.istore 7, 2) := by decide +kernel
theorem dX10_mounts0_64 : decode cX10_mounts0 64 = .ok (.iload 4, 2) := by decide +kernel
theorem dX10_mounts0_66 : decode cX10_mounts0 66 = .ok (.iload 5, 2) := by decide +kernel
theorem dX10_mounts0_68 : decode cX10_mounts0 68 = .ok (.iload_n 2, 1) := by decide +kernel
theorem dX10_mounts0_69 : decode cX10_mounts0 69 = .ok (.if_icmp .eq 18, 3) := by decide +kernel
theorem dX10_mounts0_72 : decode cX10_mounts0 72 = .ok (.iload 7, 2) := by decide +kernel
theorem dX10_mounts0_74 : decode cX10_mounts0 74 = .ok (.ifCond .eq 17, 3) := by decide +kernel
theorem dX10_mounts0_77 : decode cX10_mounts0 77 = .ok (.aload_n 0, 1) := by decide +kernel
theorem dX10_mounts0_78 : decode cX10_mounts0 78 = .ok (.iload 6, 2) := by decide +kernel
theorem dX10_mounts0_80 : decode cX10_mounts0 80 = .ok (.iload_n 3, 1) := by decide +kernel
theorem dX10_mounts0_81 : decode cX10_mounts0 81 = .ok (.invokevirtual 209, 3) := by decide +kernel
theorem dX10_mounts0_84 : decode cX10_mounts0 84 = .ok (.ifCond .eq 7, 3) := by decide +kernel
theorem dX10_mounts0_87 : decode cX10_mounts0 87 = .ok (.iconst 1, 1) := by decide +kernel
theorem dX10_mounts0_88 : decode cX10_mounts0 88 = .ok (.goto 4, 3) := by decide +kernel
theorem dX10_mounts0_91 : decode cX10_mounts0 91 = .ok (.iconst 0, 1) := by decide +kernel
theorem dX10_mounts0_92 : decode cX10_mounts0 92 = .ok (.iadd, 1) := by decide +kernel
theorem dX10_mounts0_93 : decode cX10_mounts0 93 = .ok (.istore 4, 2) := by decide +kernel
theorem dX10_mounts0_95 : decode cX10_mounts0 95 = .ok (.iinc 5 1, 3) := by decide +kernel
theorem dX10_mounts0_98 : decode cX10_mounts0 98 = .ok (.goto (-85), 3) := by decide +kernel
theorem dX10_mounts0_101 : decode cX10_mounts0 101 = .ok (.iload 4, 2) := by decide +kernel
theorem dX10_mounts0_103 : decode cX10_mounts0 103 = .ok (.ireturn, 1) := by decide +kernel
set_option maxRecDepth 20000 in
theorem ggX10_minutes0_X10_isFirst : GoodIn wsX10_minutes0 wsX10_isFirst := goodIn_r _ [8, 9, 10, 11, 7, 12, 13, 14, 15, 16, 17, 18, 19, 20, 21, 22, 23, 24, 25, 26, 43, 44, 45, 46, 47, 48, 49, 50, 51, 52, 53, 54, 55, 56, 57, 58, 59, 60, 61, 62, 63, 64, 65, 66, 67, 68, 69, 70, 71, 72] (by decide +kernel) (by decide +kernel)
set_option maxRecDepth 20000 in
theorem gX10_minutes0_X10_isFirst : GoodIn wsX10_minutes0 (wsV RX10 166 RX10 yX10_isFirst wsX10_isFirst) := goodIn_app (goodIn_of _ (by decide +kernel)) ggX10_minutes0_X10_isFirst
set_option maxRecDepth 20000 in
theorem ggX10_minutes0_X10_bytesOf : GoodIn wsX10_minutes0 wsX10_bytesOf := goodIn_r _ [16, 17, 18, 19, 20, 7, 21, 43, 44, 45, 46, 47, 48, 49, 50, 51, 52, 53, 54, 55, 56, 57, 58, 59, 60, 61, 62, 63, 64, 65, 66, 67, 68, 69, 70, 71, 72] (by decide +kernel) (by decide +kernel)
set_option maxRecDepth 20000 in
theorem gX10_minutes0_X10_bytesOf : GoodIn wsX10_minutes0 (wsV RX10 144 RX10 yX10_bytesOf wsX10_bytesOf) := goodIn_app (goodIn_of _ (by decide +kernel)) ggX10_minutes0_X10_bytesOf
set_option maxRecDepth 20000 in
theorem ggX10_minutes0_X10_mounts0 : GoodIn wsX10_minutes0 wsX10_mounts0 := goodIn_r _ [30, 31, 32, 33, 34, 35, 36, 7, 37, 1, 38, 39, 40, 41, 42, 9, 10, 11, 12, 13, 14, 15, 16, 17, 18, 19, 20, 21, 22, 23, 24, 25, 26, 43, 44, 45, 46, 47, 48, 49, 50, 51, 52, 53, 54, 55, 56, 57, 58, 59, 60, 61, 62, 63, 64, 65, 66, 67, 68, 69, 70, 71, 72] (by decide +kernel) (by decide +kernel)
set_option maxRecDepth 20000 in
theorem gX10_minutes0_X10_mounts0 : GoodIn wsX10_minutes0 (wsV RX10 212 RX10 yX10_mounts0 wsX10_mounts0) := goodIn_app (goodIn_of _ (by decide +kernel)) ggX10_minutes0_X10_mounts0
theorem dX10_minutes0_0 : decode cX10_minutes0 0 = .ok (.bipush 60, 2) := by decide +kernel
theorem dX10_minutes0_2 : decode cX10_minutes0 2 = .ok (.iload_n 1, 1) := by decide +kernel
theorem dX10_minutes0_3 : decode cX10_minutes0 3 = .ok (.imul, 1) := by decide +kernel
theorem dX10_minutes0_4 : decode cX10_minutes0 4 = .ok (.iload_n 2, 1) := by decide +kernel
theorem dX10_minutes0_5 : decode cX10_minutes0 5 = .ok (.iadd, 1) := by decide +kernel
theorem dX10_minutes0_6 : decode cX10_minutes0 6 = .ok (.istore_n 3, 1) := by decide +kernel
theorem dX10_minutes0_7 : decode cX10_minutes0 7 = .ok (.aload_n 0, 1) := by decide +kernel
theorem dX10_minutes0_8 : decode cX10_minutes0 8 = .ok (.getfield 19, 3) := by decide +kernel
theorem dX10_minutes0_11 : decode cX10_minutes0 11 = .ok (.iload_n 3, 1) := by decide +kernel
theorem dX10_minutes0_12 : decode cX10_minutes0 12 = .ok (.iaload, 1) := by decide +kernel
theorem dX10_minutes0_13 : decode cX10_minutes0 13 = .ok (.istore 4, 2) := by decide +kernel
theorem dX10_minutes0_15 : decode cX10_minutes0 15 = .ok (.iconst 0, 1) := by decide +kernel
theorem dX10_minutes0_16 : decode cX10_minutes0 16 = .ok (.istore 5, 2) := by decide +kernel
theorem dX10_minutes0_18 : decode cX10_minutes0 18 = .ok (.iload 5, 2) := by decide +kernel
theorem dX10_minutes0_20 : decode cX10_minutes0 20 = .ok (.aload_n 0, 1) := by decide +kernel
theorem dX10_minutes0_21 : decode cX10_minutes0 21 = .ok (.getfield 19, 3) := by decide +kernel
theorem dX10_minutes0_24 : decode cX10_minutes0 24 = .ok (.iload_n 3, 1) := by decide +kernel
theorem dX10_minutes0_25 : decode cX10_minutes0 25 = .ok (.iaload, 1) := by decide +kernel
theorem dX10_minutes0_26 : decode cX10_minutes0 26 = .ok (.if_icmp .ge 35, 3) := by decide +kernel
theorem dX10_minutes0_29 : decode cX10_minutes0 29 = .ok (.iload 4, 2) := by decide +kernel
theorem dX10_minutes0_31 : decode cX10_minutes0 31 = .ok (.aload_n 0, 1) := by decide +kernel
theorem dX10_minutes0_32 : decode cX10_minutes0 32 = .ok (.iload_n 3, 1) := by decide +kernel
theorem dX10_minutes0_33 : decode cX10_minutes0 33 = .ok (.iload 5, 2) := by decide +kernel
theorem dX10_minutes0_35 : decode cX10_minutes0 35 = .ok (.invokevirtual 166, 3) := by decide +kernel
theorem dX10_minutes0_38 : decode cX10_minutes0 38 = .ok (.ifCond .eq 13, 3) := by decide +kernel
theorem dX10_minutes0_41 : decode cX10_minutes0 41 = .ok (.aload_n 0, 1) := by decide +kernel
theorem dX10_minutes0_42 : decode cX10_minutes0 42 = .ok (.iload_n 3, 1) := by decide +kernel
theorem dX10_minutes0_43 : decode cX10_minutes0 43 = .ok (.iload 5, 2) := by decide +kernel
theorem dX10_minutes0_45 : decode cX10_minutes0 45 = .ok (.invokevirtual 144, 3) := by decide +kernel
theorem dX10_minutes0_48 : decode cX10_minutes0 48 = .ok (.goto 4, 3) := by decide +kernel
theorem dX10_minutes0_51 : decode cX10_minutes0 51 = .ok (.iconst 0, 1) := by decide +kernel
theorem dX10_minutes0_52 : decode cX10_minutes0 52 = .ok (.iadd, 1) := by decide +kernel
theorem dX10_minutes0_53 : decode cX10_minutes0 53 = .ok (.istore 4, 2) := by decide +kernel
theorem dX10_minutes0_55 : decode cX10_minutes0 55 = .ok (.iinc 5 1, 3) := by decide +kernel
theorem dX10_minutes0_58 : decode cX10_minutes0 58 = .ok (.goto (-40), 3) := by decide +kernel
theorem dX10_minutes0_61 : decode cX10_minutes0 61 = .ok (.aload_n 0, 1) := by decide +kernel
theorem dX10_minutes0_62 : decode cX10_minutes0 62 = .ok (.getfield 48, 3) := by decide +kernel
theorem dX10_minutes0_65 : decode cX10_minutes0 65 = .ok (.aload_n 0, 1) := by decide +kernel
theorem dX10_minutes0_66 : decode cX10_minutes0 66 = .ok (.iload_n 1, 1) := by decide +kernel
theorem dX10_minutes0_67 : decode cX10_minutes0 67 = .ok (.iload_n 2, 1) := by decide +kernel
theorem dX10_minutes0_68 : decode cX10_minutes0 68 = .ok (.invokevirtual 212, 3) := by decide +kernel
theorem dX10_minutes0_71 : decode cX10_minutes0 71 = .ok (.imul, 1) := by decide +kernel
theorem dX10_minutes0_72 : decode cX10_minutes0 72 = .ok (.i2f, 1) := by decide +kernel
theorem dX10_minutes0_73 : decode cX10_minutes0 73 = .ok (.iload 4, 2) := by decide +kernel
theorem dX10_minutes0_75 : decode cX10_minutes0 75 = .ok (.i2f, 1) := by decide +kernel
theorem dX10_minutes0_76 : decode cX10_minutes0 76 = .ok (.aload_n 0, 1) := by decide +kernel
theorem dX10_minutes0_77 : decode cX10_minutes0 77 = .ok (.getfield 51, 3) := by decide +kernel
theorem dX10_minutes0_80 : decode cX10_minutes0 80 = .ok (.i2f, 1) := by decide +kernel
theorem dX10_minutes0_81 : decode cX10_minutes0 81 = .ok (.fdiv, 1) := by decide +kernel
theorem dX10_minutes0_82 : decode cX10_minutes0 82 = .ok (.fadd, 1) := by decide +kernel
theorem dX10_minutes0_83 : decode cX10_minutes0 83 = .ok (.freturn, 1) := by decide +kernel
set_option maxRecDepth 20000 in
theorem ggX10_mounts_X10_asks : GoodIn wsX10_mounts wsX10_asks := goodIn_r _ [5, 6, 7, 8, 4, 9, 10, 11, 12, 13, 14, 15, 16, 17, 18, 19, 20, 21, 22, 56, 57, 58, 59, 60, 61, 62, 63, 64, 65, 66, 67, 68, 69, 70, 71, 72, 73, 74, 75, 76, 77, 78, 79, 80, 81, 82, 83, 84, 85] (by decide +kernel) (by decide +kernel)
set_option maxRecDepth 20000 in
theorem gX10_mounts_X10_asks : GoodIn wsX10_mounts (wsV RX10 203 RX10 yX10_asks wsX10_asks) := goodIn_app (goodIn_of _ (by decide +kernel)) ggX10_mounts_X10_asks
set_option maxRecDepth 20000 in
theorem ggX10_mounts_X10_mounts0 : GoodIn wsX10_mounts wsX10_mounts0 := goodIn_r _ [26, 17, 6, 27, 28, 29, 30, 4, 31, 32, 33, 34, 35, 36, 37, 38, 39, 40, 41, 42, 43, 44, 45, 46, 47, 48, 49, 50, 51, 52, 53, 54, 55, 56, 57, 58, 59, 60, 61, 62, 63, 64, 65, 66, 67, 68, 69, 70, 71, 72, 73, 74, 75, 76, 77, 78, 79, 80, 81, 82, 83, 84, 85] (by decide +kernel) (by decide +kernel)
set_option maxRecDepth 20000 in
theorem gX10_mounts_X10_mounts0 : GoodIn wsX10_mounts (wsV RX10 212 RX10 yX10_mounts0 wsX10_mounts0) := goodIn_app (goodIn_of _ (by decide +kernel)) ggX10_mounts_X10_mounts0
theorem dX10_mounts_0 : decode cX10_mounts 0 = .ok (.aload_n 0, 1) := by decide +kernel
theorem dX10_mounts_1 : decode cX10_mounts 1 = .ok (.iload_n 1, 1) := by decide +kernel
theorem dX10_mounts_2 : decode cX10_mounts 2 = .ok (.iload_n 2, 1) := by decide +kernel
theorem dX10_mounts_3 : decode cX10_mounts 3 = .ok (.invokevirtual 203, 3) := by decide +kernel
theorem dX10_mounts_6 : decode cX10_mounts 6 = .ok (.ifCond .eq 12, 3) := by decide +kernel
theorem dX10_mounts_9 : decode cX10_mounts 9 = .ok (.aload_n 0, 1) := by decide +kernel
theorem dX10_mounts_10 : decode cX10_mounts 10 = .ok (.iload_n 1, 1) := by decide +kernel
theorem dX10_mounts_11 : decode cX10_mounts 11 = .ok (.iload_n 2, 1) := by decide +kernel
theorem dX10_mounts_12 : decode cX10_mounts 12 = .ok (.invokevirtual 212, 3) := by decide +kernel
theorem dX10_mounts_15 : decode cX10_mounts 15 = .ok (.goto 4, 3) := by decide +kernel
theorem dX10_mounts_18 : decode cX10_mounts 18 = .ok (.iconst 0, 1) := by decide +kernel
theorem dX10_mounts_19 : decode cX10_mounts 19 = .ok (.ireturn, 1) := by decide +kernel
set_option maxRecDepth 20000 in
theorem ggX10_minutes_X10_asks : GoodIn wsX10_minutes wsX10_asks := goodIn_r _ [5, 6, 7, 8, 4, 9, 10, 11, 12, 13, 14, 15, 16, 17, 18, 19, 20, 21, 22, 66, 67, 68, 69, 70, 71, 72, 73, 74, 75, 76, 77, 78, 79, 80, 81, 82, 83, 84, 85, 86, 87, 88, 89, 90, 91, 92, 93, 94, 95] (by decide +kernel) (by decide +kernel)
set_option maxRecDepth 20000 in
theorem gX10_minutes_X10_asks : GoodIn wsX10_minutes (wsV RX10 203 RX10 yX10_asks wsX10_asks) := goodIn_app (goodIn_of _ (by decide +kernel)) ggX10_minutes_X10_asks
set_option maxRecDepth 20000 in
theorem ggX10_minutes_X10_minutes0 : GoodIn wsX10_minutes wsX10_minutes0 := goodIn_r _ [26, 27, 28, 29, 30, 31, 32, 4, 33, 34, 35, 36, 37, 38, 39, 40, 41, 42, 43, 44, 45, 46, 47, 48, 49, 50, 51, 52, 53, 54, 55, 17, 6, 56, 57, 58, 59, 60, 61, 62, 63, 64, 65, 66, 67, 68, 69, 70, 71, 72, 73, 74, 75, 76, 77, 78, 79, 80, 81, 82, 83, 84, 85, 86, 87, 88, 89, 90, 91, 92, 93, 94, 95] (by decide +kernel) (by decide +kernel)
set_option maxRecDepth 20000 in
theorem gX10_minutes_X10_minutes0 : GoodIn wsX10_minutes (wsV RX10 215 RX10 yX10_minutes0 wsX10_minutes0) := goodIn_app (goodIn_of _ (by decide +kernel)) ggX10_minutes_X10_minutes0
theorem dX10_minutes_0 : decode cX10_minutes 0 = .ok (.aload_n 0, 1) := by decide +kernel
theorem dX10_minutes_1 : decode cX10_minutes 1 = .ok (.iload_n 1, 1) := by decide +kernel
theorem dX10_minutes_2 : decode cX10_minutes 2 = .ok (.iload_n 2, 1) := by decide +kernel
theorem dX10_minutes_3 : decode cX10_minutes 3 = .ok (.invokevirtual 203, 3) := by decide +kernel
theorem dX10_minutes_6 : decode cX10_minutes 6 = .ok (.ifCond .eq 12, 3) := by decide +kernel
theorem dX10_minutes_9 : decode cX10_minutes 9 = .ok (.aload_n 0, 1) := by decide +kernel
theorem dX10_minutes_10 : decode cX10_minutes 10 = .ok (.iload_n 1, 1) := by decide +kernel
theorem dX10_minutes_11 : decode cX10_minutes 11 = .ok (.iload_n 2, 1) := by decide +kernel
theorem dX10_minutes_12 : decode cX10_minutes 12 = .ok (.invokevirtual 215, 3) := by decide +kernel
theorem dX10_minutes_15 : decode cX10_minutes 15 = .ok (.goto 4, 3) := by decide +kernel
theorem dX10_minutes_18 : decode cX10_minutes 18 = .ok (.fconst 0, 1) := by decide +kernel
theorem dX10_minutes_19 : decode cX10_minutes 19 = .ok (.freturn, 1) := by decide +kernel
set_option maxRecDepth 20000 in
theorem ggX10_hourBits_X10_asks : GoodIn wsX10_hourBits wsX10_asks := goodIn_r _ [6, 7, 8, 9, 5, 10, 11, 12, 13, 14, 15, 16, 17, 18, 19, 20, 21, 22, 23, 79, 80, 81, 82, 83, 84, 85, 86, 87, 88, 89, 90, 91, 92, 93, 94, 95, 96, 97, 98, 99, 100, 101, 102, 103, 104, 105, 106, 107, 108] (by decide +kernel) (by decide +kernel)
set_option maxRecDepth 20000 in
theorem gX10_hourBits_X10_asks : GoodIn wsX10_hourBits (wsV RX10 203 RX10 yX10_asks wsX10_asks) := goodIn_app (goodIn_of _ (by decide +kernel)) ggX10_hourBits_X10_asks
set_option maxRecDepth 20000 in
theorem ggX10_hourBits_X10_minutes0 : GoodIn wsX10_hourBits wsX10_minutes0 := goodIn_r _ [27, 28, 29, 30, 31, 32, 33, 5, 34, 35, 36, 37, 38, 39, 40, 41, 42, 43, 44, 45, 46, 47, 48, 49, 50, 51, 52, 53, 54, 55, 56, 18, 7, 57, 58, 59, 60, 61, 62, 63, 64, 65, 66, 79, 80, 81, 82, 83, 84, 85, 86, 87, 88, 89, 90, 91, 92, 93, 94, 95, 96, 97, 98, 99, 100, 101, 102, 103, 104, 105, 106, 107, 108] (by decide +kernel) (by decide +kernel)
set_option maxRecDepth 20000 in
theorem gX10_hourBits_X10_minutes0 : GoodIn wsX10_hourBits (wsV RX10 215 RX10 yX10_minutes0 wsX10_minutes0) := goodIn_app (goodIn_of _ (by decide +kernel)) ggX10_hourBits_X10_minutes0
set_option maxRecDepth 20000 in
theorem ggX10_hourBits_Jxf58ca_floatToIntBits_5c35a : GoodIn wsX10_hourBits wsJxf58ca_floatToIntBits_5c35a := goodIn_r _ [70, 71, 72, 73, 74, 75, 76, 77, 69, 78] (by decide +kernel) (by decide +kernel)
set_option maxRecDepth 20000 in
theorem gX10_hourBits_Jxf58ca_floatToIntBits_5c35a : GoodIn wsX10_hourBits (va_wsS RX10 220 yJxf58ca_floatToIntBits_5c35a wsJxf58ca_floatToIntBits_5c35a) := goodIn_app (goodIn_of _ (by decide +kernel)) ggX10_hourBits_Jxf58ca_floatToIntBits_5c35a
theorem dX10_hourBits_0 : decode cX10_hourBits 0 = .ok (.aload_n 0, 1) := by decide +kernel
theorem dX10_hourBits_1 : decode cX10_hourBits 1 = .ok (.iload_n 1, 1) := by decide +kernel
theorem dX10_hourBits_2 : decode cX10_hourBits 2 = .ok (.iload_n 2, 1) := by decide +kernel
theorem dX10_hourBits_3 : decode cX10_hourBits 3 = .ok (.invokevirtual 203, 3) := by decide +kernel
theorem dX10_hourBits_6 : decode cX10_hourBits 6 = .ok (.ifCond .eq 18, 3) := by decide +kernel
theorem dX10_hourBits_9 : decode cX10_hourBits 9 = .ok (.aload_n 0, 1) := by decide +kernel
theorem dX10_hourBits_10 : decode cX10_hourBits 10 = .ok (.iload_n 1, 1) := by decide +kernel
theorem dX10_hourBits_11 : decode cX10_hourBits 11 = .ok (.iload_n 2, 1) := by decide +kernel
theorem dX10_hourBits_12 : decode cX10_hourBits 12 = .ok (.invokevirtual 215, 3) := by decide +kernel
theorem dX10_hourBits_15 : decode cX10_hourBits 15 = .ok (.ldc 219, 2) := by decide +kernel
theorem dX10_hourBits_17 : decode cX10_hourBits 17 = .ok (.fdiv, 1) := by decide +kernel
theorem dX10_hourBits_18 : decode cX10_hourBits 18 = .ok (.invokestatic 220, 3) := by decide +kernel
theorem dX10_hourBits_21 : decode cX10_hourBits 21 = .ok (.goto 4, 3) := by decide +kernel
theorem dX10_hourBits_24 : decode cX10_hourBits 24 = .ok (.iconst 0, 1) := by decide +kernel
theorem dX10_hourBits_25 : decode cX10_hourBits 25 = .ok (.ireturn, 1) := by decide +kernel
set_option maxRecDepth 20000 in
theorem ggX10_promise_X10_isClient : GoodIn wsX10_promise wsX10_isClient := goodIn_r _ [6, 7, 8, 5, 9] (by decide +kernel) (by decide +kernel)
set_option maxRecDepth 20000 in
theorem gX10_promise_X10_isClient : GoodIn wsX10_promise (va_wsS RX10 103 yX10_isClient wsX10_isClient) := goodIn_app (goodIn_of _ (by decide +kernel)) ggX10_promise_X10_isClient
set_option maxRecDepth 20000 in
theorem ggX10_promise_X10_isIn : GoodIn wsX10_promise wsX10_isIn := goodIn_r _ [9] (by decide +kernel) (by decide +kernel)
set_option maxRecDepth 20000 in
theorem gX10_promise_X10_isIn : GoodIn wsX10_promise (va_wsS RX10 99 yX10_isIn wsX10_isIn) := goodIn_app (goodIn_of _ (by decide +kernel)) ggX10_promise_X10_isIn
set_option maxRecDepth 20000 in
theorem ggX10_promise_X10_isFine : GoodIn wsX10_promise wsX10_isFine := goodIn_r _ [13, 14, 15, 16, 17, 18, 19, 20, 21, 22, 23, 24, 25, 26, 27, 28, 29, 30, 31, 32, 33, 34, 35, 36, 37, 38, 39, 40, 41, 42, 43, 44] (by decide +kernel) (by decide +kernel)
set_option maxRecDepth 20000 in
theorem gX10_promise_X10_isFine : GoodIn wsX10_promise (wsV RX10 114 RX10 yX10_isFine wsX10_isFine) := goodIn_app (goodIn_of _ (by decide +kernel)) ggX10_promise_X10_isFine
theorem dX10_promise_0 : decode cX10_promise 0 = .ok (.aload_n 0, 1) := by decide +kernel
theorem dX10_promise_1 : decode cX10_promise 1 = .ok (.iload_n 1, 1) := by decide +kernel
theorem dX10_promise_2 : decode cX10_promise 2 = .ok (.invokestatic 103, 3) := by decide +kernel
theorem dX10_promise_5 : decode cX10_promise 5 = .ok (.ifCond .eq 28, 3) := by decide +kernel
theorem dX10_promise_8 : decode cX10_promise 8 = .ok (.iload_n 2, 1) := by decide +kernel
theorem dX10_promise_9 : decode cX10_promise 9 = .ok (.iconst 0, 1) := by decide +kernel
theorem dX10_promise_10 : decode cX10_promise 10 = .ok (.sipush 600, 3) := by decide +kernel
theorem dX10_promise_13 : decode cX10_promise 13 = .ok (.invokestatic 99, 3) := by decide +kernel
theorem dX10_promise_16 : decode cX10_promise 16 = .ok (.ifCond .eq 17, 3) := by decide +kernel
theorem dX10_promise_19 : decode cX10_promise 19 = .ok (.iload_n 3, 1) := by decide +kernel
theorem dX10_promise_20 : decode cX10_promise 20 = .ok (.iconst 0, 1) := by decide +kernel
theorem dX10_promise_21 : decode cX10_promise 21 = .ok (.bipush 100, 2) := by decide +kernel
theorem dX10_promise_23 : decode cX10_promise 23 = .ok (.invokestatic 99, 3) := by decide +kernel
theorem dX10_promise_26 : decode cX10_promise 26 = .ok (.ifCond .eq 7, 3) := by decide +kernel
theorem dX10_promise_29 : decode cX10_promise 29 = .ok (.iconst 0, 1) := by decide +kernel
theorem dX10_promise_30 : decode cX10_promise 30 = .ok (.goto 4, 3) := by decide +kernel
theorem dX10_promise_33 : decode cX10_promise 33 = .ok (.iconst 1, 1) := by decide +kernel
theorem dX10_promise_34 : decode cX10_promise 34 = .ok (.invokevirtual 114, 3) := by decide +kernel
theorem dX10_promise_37 : decode cX10_promise 37 = .ok (.ifCond .eq 17, 3) := by decide +kernel
theorem dX10_promise_40 : decode cX10_promise 40 = .ok (.aload_n 0, 1) := by decide +kernel
theorem dX10_promise_41 : decode cX10_promise 41 = .ok (.getfield 63, 3) := by decide +kernel
theorem dX10_promise_44 : decode cX10_promise 44 = .ok (.iload_n 1, 1) := by decide +kernel
theorem dX10_promise_45 : decode cX10_promise 45 = .ok (.iload_n 2, 1) := by decide +kernel
theorem dX10_promise_46 : decode cX10_promise 46 = .ok (.iastore, 1) := by decide +kernel
theorem dX10_promise_47 : decode cX10_promise 47 = .ok (.aload_n 0, 1) := by decide +kernel
theorem dX10_promise_48 : decode cX10_promise 48 = .ok (.getfield 66, 3) := by decide +kernel
theorem dX10_promise_51 : decode cX10_promise 51 = .ok (.iload_n 1, 1) := by decide +kernel
theorem dX10_promise_52 : decode cX10_promise 52 = .ok (.iload_n 3, 1) := by decide +kernel
theorem dX10_promise_53 : decode cX10_promise 53 = .ok (.iastore, 1) := by decide +kernel
theorem dX10_promise_54 : decode cX10_promise 54 = .ok (.return_, 1) := by decide +kernel
set_option maxRecDepth 20000 in
theorem ggX10_drill_X10_isClient : GoodIn wsX10_drill wsX10_isClient := goodIn_r _ [7, 8, 9, 6, 10] (by decide +kernel) (by decide +kernel)
set_option maxRecDepth 20000 in
theorem gX10_drill_X10_isClient : GoodIn wsX10_drill (va_wsS RX10 103 yX10_isClient wsX10_isClient) := goodIn_app (goodIn_of _ (by decide +kernel)) ggX10_drill_X10_isClient
set_option maxRecDepth 20000 in
theorem ggX10_drill_X10_latestNow : GoodIn wsX10_drill wsX10_latestNow := goodIn_r _ [14, 15, 16, 17, 18, 6, 19, 20, 69, 70, 71, 72, 73, 74, 75, 76, 77, 78, 79, 80, 81, 82, 83, 84, 85, 86, 87, 88, 89, 90, 91, 92, 93, 94, 95, 96, 97, 98] (by decide +kernel) (by decide +kernel)
set_option maxRecDepth 20000 in
theorem gX10_drill_X10_latestNow : GoodIn wsX10_drill (wsV RX10 157 RX10 yX10_latestNow wsX10_latestNow) := goodIn_app (goodIn_of _ (by decide +kernel)) ggX10_drill_X10_latestNow
set_option maxRecDepth 20000 in
theorem ggX10_drill_X10_isFine : GoodIn wsX10_drill wsX10_isFine := goodIn_r _ [24, 25, 69, 70, 71, 72, 73, 74, 75, 76, 77, 78, 79, 80, 81, 82, 83, 84, 85, 86, 87, 88, 89, 90, 91, 92, 93, 94, 95, 96, 97, 98] (by decide +kernel) (by decide +kernel)
set_option maxRecDepth 20000 in
theorem gX10_drill_X10_isFine : GoodIn wsX10_drill (wsV RX10 114 RX10 yX10_isFine wsX10_isFine) := goodIn_app (goodIn_of _ (by decide +kernel)) ggX10_drill_X10_isFine
set_option maxRecDepth 20000 in
theorem ggX10_drill_X10_minutes0 : GoodIn wsX10_drill wsX10_minutes0 := goodIn_r _ [29, 30, 31, 32, 33, 34, 35, 6, 36, 37, 38, 39, 40, 41, 42, 43, 44, 45, 46, 47, 48, 49, 50, 51, 52, 53, 54, 55, 56, 57, 58, 15, 20, 59, 60, 61, 62, 63, 64, 65, 66, 67, 68, 69, 70, 71, 72, 73, 74, 75, 76, 77, 78, 79, 80, 81, 82, 83, 84, 85, 86, 87, 88, 89, 90, 91, 92, 93, 94, 95, 96, 97, 98] (by decide +kernel) (by decide +kernel)
set_option maxRecDepth 20000 in
theorem gX10_drill_X10_minutes0 : GoodIn wsX10_drill (wsV RX10 215 RX10 yX10_minutes0 wsX10_minutes0) := goodIn_app (goodIn_of _ (by decide +kernel)) ggX10_drill_X10_minutes0
theorem dX10_drill_0 : decode cX10_drill 0 = .ok (.iload_n 1, 1) := by decide +kernel
theorem dX10_drill_1 : decode cX10_drill 1 = .ok (.invokestatic 103, 3) := by decide +kernel
theorem dX10_drill_4 : decode cX10_drill 4 = .ok (.istore_n 2, 1) := by decide +kernel
theorem dX10_drill_5 : decode cX10_drill 5 = .ok (.iload_n 2, 1) := by decide +kernel
theorem dX10_drill_6 : decode cX10_drill 6 = .ok (.ifCond .eq 11, 3) := by decide +kernel
theorem dX10_drill_9 : decode cX10_drill 9 = .ok (.aload_n 0, 1) := by decide +kernel
theorem dX10_drill_10 : decode cX10_drill 10 = .ok (.iload_n 1, 1) := by decide +kernel
theorem dX10_drill_11 : decode cX10_drill 11 = .ok (.invokevirtual 157, 3) := by decide +kernel
theorem dX10_drill_14 : decode cX10_drill 14 = .ok (.goto 4, 3) := by decide +kernel
theorem dX10_drill_17 : decode cX10_drill 17 = .ok (.iconst (-1), 1) := by decide +kernel
theorem dX10_drill_18 : decode cX10_drill 18 = .ok (.istore_n 3, 1) := by decide +kernel
theorem dX10_drill_19 : decode cX10_drill 19 = .ok (.aload_n 0, 1) := by decide +kernel
theorem dX10_drill_20 : decode cX10_drill 20 = .ok (.iload_n 2, 1) := by decide +kernel
theorem dX10_drill_21 : decode cX10_drill 21 = .ok (.ifCond .ne 7, 3) := by decide +kernel
theorem dX10_drill_24 : decode cX10_drill 24 = .ok (.iconst 1, 1) := by decide +kernel
theorem dX10_drill_25 : decode cX10_drill 25 = .ok (.goto 13, 3) := by decide +kernel
theorem dX10_drill_28 : decode cX10_drill 28 = .ok (.iload_n 3, 1) := by decide +kernel
theorem dX10_drill_29 : decode cX10_drill 29 = .ok (.iconst (-1), 1) := by decide +kernel
theorem dX10_drill_30 : decode cX10_drill 30 = .ok (.if_icmp .ne 7, 3) := by decide +kernel
theorem dX10_drill_33 : decode cX10_drill 33 = .ok (.iconst 2, 1) := by decide +kernel
theorem dX10_drill_34 : decode cX10_drill 34 = .ok (.goto 4, 3) := by decide +kernel
theorem dX10_drill_37 : decode cX10_drill 37 = .ok (.iconst 0, 1) := by decide +kernel
theorem dX10_drill_38 : decode cX10_drill 38 = .ok (.invokevirtual 114, 3) := by decide +kernel
theorem dX10_drill_41 : decode cX10_drill 41 = .ok (.ifCond .ne 5, 3) := by decide +kernel
theorem dX10_drill_44 : decode cX10_drill 44 = .ok (.iconst 0, 1) := by decide +kernel
theorem dX10_drill_45 : decode cX10_drill 45 = .ok (.ireturn, 1) := by decide +kernel
theorem dX10_drill_46 : decode cX10_drill 46 = .ok (.aload_n 0, 1) := by decide +kernel
theorem dX10_drill_47 : decode cX10_drill 47 = .ok (.iload_n 1, 1) := by decide +kernel
theorem dX10_drill_48 : decode cX10_drill 48 = .ok (.iload_n 3, 1) := by decide +kernel
theorem dX10_drill_49 : decode cX10_drill 49 = .ok (.bipush 60, 2) := by decide +kernel
theorem dX10_drill_51 : decode cX10_drill 51 = .ok (.iload_n 1, 1) := by decide +kernel
theorem dX10_drill_52 : decode cX10_drill 52 = .ok (.imul, 1) := by decide +kernel
theorem dX10_drill_53 : decode cX10_drill 53 = .ok (.isub, 1) := by decide +kernel
theorem dX10_drill_54 : decode cX10_drill 54 = .ok (.invokevirtual 215, 3) := by decide +kernel
theorem dX10_drill_57 : decode cX10_drill 57 = .ok (.aload_n 0, 1) := by decide +kernel
theorem dX10_drill_58 : decode cX10_drill 58 = .ok (.getfield 63, 3) := by decide +kernel
theorem dX10_drill_61 : decode cX10_drill 61 = .ok (.iload_n 1, 1) := by decide +kernel
theorem dX10_drill_62 : decode cX10_drill 62 = .ok (.iaload, 1) := by decide +kernel
theorem dX10_drill_63 : decode cX10_drill 63 = .ok (.i2f, 1) := by decide +kernel
theorem dX10_drill_64 : decode cX10_drill 64 = .ok (.fsub, 1) := by decide +kernel
theorem dX10_drill_65 : decode cX10_drill 65 = .ok (.fstore 4, 2) := by decide +kernel
theorem dX10_drill_67 : decode cX10_drill 67 = .ok (.fload 4, 2) := by decide +kernel
theorem dX10_drill_69 : decode cX10_drill 69 = .ok (.f2i, 1) := by decide +kernel
theorem dX10_drill_70 : decode cX10_drill 70 = .ok (.istore 5, 2) := by decide +kernel
theorem dX10_drill_72 : decode cX10_drill 72 = .ok (.fload 4, 2) := by decide +kernel
theorem dX10_drill_74 : decode cX10_drill 74 = .ok (.iload 5, 2) := by decide +kernel
theorem dX10_drill_76 : decode cX10_drill 76 = .ok (.i2f, 1) := by decide +kernel
theorem dX10_drill_77 : decode cX10_drill 77 = .ok (.fcmp .l, 1) := by decide +kernel
theorem dX10_drill_78 : decode cX10_drill 78 = .ok (.ifCond .le 10, 3) := by decide +kernel
theorem dX10_drill_81 : decode cX10_drill 81 = .ok (.iload 5, 2) := by decide +kernel
theorem dX10_drill_83 : decode cX10_drill 83 = .ok (.iconst 1, 1) := by decide +kernel
theorem dX10_drill_84 : decode cX10_drill 84 = .ok (.iadd, 1) := by decide +kernel
theorem dX10_drill_85 : decode cX10_drill 85 = .ok (.goto 5, 3) := by decide +kernel
theorem dX10_drill_88 : decode cX10_drill 88 = .ok (.iload 5, 2) := by decide +kernel
theorem dX10_drill_90 : decode cX10_drill 90 = .ok (.istore 6, 2) := by decide +kernel
theorem dX10_drill_92 : decode cX10_drill 92 = .ok (.iload 6, 2) := by decide +kernel
theorem dX10_drill_94 : decode cX10_drill 94 = .ok (.ifCond .le 15, 3) := by decide +kernel
theorem dX10_drill_97 : decode cX10_drill 97 = .ok (.iload 6, 2) := by decide +kernel
theorem dX10_drill_99 : decode cX10_drill 99 = .ok (.aload_n 0, 1) := by decide +kernel
theorem dX10_drill_100 : decode cX10_drill 100 = .ok (.getfield 66, 3) := by decide +kernel
theorem dX10_drill_103 : decode cX10_drill 103 = .ok (.iload_n 1, 1) := by decide +kernel
theorem dX10_drill_104 : decode cX10_drill 104 = .ok (.iaload, 1) := by decide +kernel
theorem dX10_drill_105 : decode cX10_drill 105 = .ok (.imul, 1) := by decide +kernel
theorem dX10_drill_106 : decode cX10_drill 106 = .ok (.goto 4, 3) := by decide +kernel
theorem dX10_drill_109 : decode cX10_drill 109 = .ok (.iconst 0, 1) := by decide +kernel
theorem dX10_drill_110 : decode cX10_drill 110 = .ok (.istore 7, 2) := by decide +kernel
theorem dX10_drill_112 : decode cX10_drill 112 = .ok (.aload_n 0, 1) := by decide +kernel
theorem dX10_drill_113 : decode cX10_drill 113 = .ok (.getfield 72, 3) := by decide +kernel
theorem dX10_drill_116 : decode cX10_drill 116 = .ok (.iload_n 1, 1) := by decide +kernel
