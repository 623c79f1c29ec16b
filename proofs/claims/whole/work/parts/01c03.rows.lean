theorem dX10_init_222 : decode cX10_init 222 = .ok (.getfield 63, 3) := by decide +kernel
theorem dX10_init_225 : decode cX10_init 225 = .ok (.iload_n 1, 1) := by decide +kernel
theorem dX10_init_226 : decode cX10_init 226 = .ok (.bipush 60, 2) := by decide +kernel
theorem dX10_init_228 : decode cX10_init 228 = .ok (.iastore, 1) := by decide +kernel
theorem dX10_init_229 : decode cX10_init 229 = .ok (.iinc 1 1, 3) := by decide +kernel
theorem dX10_init_232 : decode cX10_init 232 = .ok (.goto (-23), 3) := by decide +kernel
theorem dX10_init_235 : decode cX10_init 235 = .ok (.return_, 1) := by decide +kernel
theorem dX10_thrown_0 : decode cX10_thrown 0 = .ok (.aload_n 0, 1) := by decide +kernel
theorem dX10_thrown_1 : decode cX10_thrown 1 = .ok (.getfield 96, 3) := by decide +kernel
theorem dX10_thrown_4 : decode cX10_thrown 4 = .ok (.ireturn, 1) := by decide +kernel
theorem dX10_isFine_0 : decode cX10_isFine 0 = .ok (.aload_n 0, 1) := by decide +kernel
theorem dX10_isFine_1 : decode cX10_isFine 1 = .ok (.iload_n 1, 1) := by decide +kernel
theorem dX10_isFine_2 : decode cX10_isFine 2 = .ok (.putfield 96, 3) := by decide +kernel
theorem dX10_isFine_5 : decode cX10_isFine 5 = .ok (.iload_n 1, 1) := by decide +kernel
theorem dX10_isFine_6 : decode cX10_isFine 6 = .ok (.ifCond .ne 7, 3) := by decide +kernel
theorem dX10_isFine_9 : decode cX10_isFine 9 = .ok (.iconst 1, 1) := by decide +kernel
theorem dX10_isFine_10 : decode cX10_isFine 10 = .ok (.goto 4, 3) := by decide +kernel
theorem dX10_isFine_13 : decode cX10_isFine 13 = .ok (.iconst 0, 1) := by decide +kernel
theorem dX10_isFine_14 : decode cX10_isFine 14 = .ok (.ireturn, 1) := by decide +kernel
theorem dX10_isIn_0 : decode cX10_isIn 0 = .ok (.iload_n 0, 1) := by decide +kernel
theorem dX10_isIn_1 : decode cX10_isIn 1 = .ok (.iload_n 1, 1) := by decide +kernel
theorem dX10_isIn_2 : decode cX10_isIn 2 = .ok (.if_icmp .lt 12, 3) := by decide +kernel
theorem dX10_isIn_5 : decode cX10_isIn 5 = .ok (.iload_n 0, 1) := by decide +kernel
theorem dX10_isIn_6 : decode cX10_isIn 6 = .ok (.iload_n 2, 1) := by decide +kernel
theorem dX10_isIn_7 : decode cX10_isIn 7 = .ok (.if_icmp .gt 7, 3) := by decide +kernel
theorem dX10_isIn_10 : decode cX10_isIn 10 = .ok (.iconst 1, 1) := by decide +kernel
theorem dX10_isIn_11 : decode cX10_isIn 11 = .ok (.goto 4, 3) := by decide +kernel
theorem dX10_isIn_14 : decode cX10_isIn 14 = .ok (.iconst 0, 1) := by decide +kernel
theorem dX10_isIn_15 : decode cX10_isIn 15 = .ok (.ireturn, 1) := by decide +kernel
set_option maxRecDepth 20000 in
theorem ggX10_isClient_X10_isIn : GoodIn wsX10_isClient wsX10_isIn := goodIn_r _ [4] (by decide +kernel) (by decide +kernel)
set_option maxRecDepth 20000 in
theorem gX10_isClient_X10_isIn : GoodIn wsX10_isClient (va_wsS RX10 99 yX10_isIn wsX10_isIn) := goodIn_app (goodIn_of _ (by decide +kernel)) ggX10_isClient_X10_isIn
theorem dX10_isClient_0 : decode cX10_isClient 0 = .ok (.iload_n 0, 1) := by decide +kernel
theorem dX10_isClient_1 : decode cX10_isClient 1 = .ok (.iconst 0, 1) := by decide +kernel
theorem dX10_isClient_2 : decode cX10_isClient 2 = .ok (.iconst 3, 1) := by decide +kernel
theorem dX10_isClient_3 : decode cX10_isClient 3 = .ok (.invokestatic 99, 3) := by decide +kernel
theorem dX10_isClient_6 : decode cX10_isClient 6 = .ok (.ireturn, 1) := by decide +kernel
set_option maxRecDepth 20000 in
theorem ggX10_isByte_X10_isIn : GoodIn wsX10_isByte wsX10_isIn := goodIn_r _ [4] (by decide +kernel) (by decide +kernel)
set_option maxRecDepth 20000 in
theorem gX10_isByte_X10_isIn : GoodIn wsX10_isByte (va_wsS RX10 99 yX10_isIn wsX10_isIn) := goodIn_app (goodIn_of _ (by decide +kernel)) ggX10_isByte_X10_isIn
theorem dX10_isByte_0 : decode cX10_isByte 0 = .ok (.iload_n 0, 1) := by decide +kernel
theorem dX10_isByte_1 : decode cX10_isByte 1 = .ok (.iconst 0, 1) := by decide +kernel
theorem dX10_isByte_2 : decode cX10_isByte 2 = .ok (.sipush 255, 3) := by decide +kernel
theorem dX10_isByte_5 : decode cX10_isByte 5 = .ok (.invokestatic 99, 3) := by decide +kernel
theorem dX10_isByte_8 : decode cX10_isByte 8 = .ok (.ireturn, 1) := by decide +kernel
theorem dX10_length0_0 : decode cX10_length0 0 = .ok (.aload_n 0, 1) := by decide +kernel
theorem dX10_length0_1 : decode cX10_length0 1 = .ok (.getfield 13, 3) := by decide +kernel
theorem dX10_length0_4 : decode cX10_length0 4 = .ok (.sipush 240, 3) := by decide +kernel
theorem dX10_length0_7 : decode cX10_length0 7 = .ok (.iload_n 1, 1) := by decide +kernel
theorem dX10_length0_8 : decode cX10_length0 8 = .ok (.iadd, 1) := by decide +kernel
theorem dX10_length0_9 : decode cX10_length0 9 = .ok (.iaload, 1) := by decide +kernel
theorem dX10_length0_10 : decode cX10_length0 10 = .ok (.ireturn, 1) := by decide +kernel
theorem dX10_at0_0 : decode cX10_at0 0 = .ok (.aload_n 0, 1) := by decide +kernel
theorem dX10_at0_1 : decode cX10_at0 1 = .ok (.getfield 7, 3) := by decide +kernel
theorem dX10_at0_4 : decode cX10_at0 4 = .ok (.bipush 48, 2) := by decide +kernel
theorem dX10_at0_6 : decode cX10_at0 6 = .ok (.iload_n 1, 1) := by decide +kernel
theorem dX10_at0_7 : decode cX10_at0 7 = .ok (.imul, 1) := by decide +kernel
theorem dX10_at0_8 : decode cX10_at0 8 = .ok (.iload_n 2, 1) := by decide +kernel
theorem dX10_at0_9 : decode cX10_at0 9 = .ok (.iadd, 1) := by decide +kernel
theorem dX10_at0_10 : decode cX10_at0 10 = .ok (.iaload, 1) := by decide +kernel
theorem dX10_at0_11 : decode cX10_at0 11 = .ok (.ireturn, 1) := by decide +kernel
set_option maxRecDepth 20000 in
theorem ggX10_put_X10_isClient : GoodIn wsX10_put wsX10_isClient := goodIn_r _ [6, 7, 8, 5, 9] (by decide +kernel) (by decide +kernel)
set_option maxRecDepth 20000 in
theorem gX10_put_X10_isClient : GoodIn wsX10_put (va_wsS RX10 103 yX10_isClient wsX10_isClient) := goodIn_app (goodIn_of _ (by decide +kernel)) ggX10_put_X10_isClient
set_option maxRecDepth 20000 in
theorem ggX10_put_X10_isByte : GoodIn wsX10_put wsX10_isByte := goodIn_r _ [12, 7, 8, 5, 9] (by decide +kernel) (by decide +kernel)
set_option maxRecDepth 20000 in
theorem gX10_put_X10_isByte : GoodIn wsX10_put (va_wsS RX10 107 yX10_isByte wsX10_isByte) := goodIn_app (goodIn_of _ (by decide +kernel)) ggX10_put_X10_isByte
set_option maxRecDepth 20000 in
theorem ggX10_put_X10_length0 : GoodIn wsX10_put wsX10_length0 := goodIn_r _ [16, 1, 22, 23, 24, 25, 26, 27, 28, 29, 30, 31, 32, 33, 34, 35, 36, 37, 38, 39, 40, 41, 42, 43, 44, 45, 46, 47, 48, 49, 50, 51] (by decide +kernel) (by decide +kernel)
set_option maxRecDepth 20000 in
theorem gX10_put_X10_length0 : GoodIn wsX10_put (wsV RX10 110 RX10 yX10_length0 wsX10_length0) := goodIn_app (goodIn_of _ (by decide +kernel)) ggX10_put_X10_length0
set_option maxRecDepth 20000 in
theorem ggX10_put_X10_isIn : GoodIn wsX10_put wsX10_isIn := goodIn_r _ [9] (by decide +kernel) (by decide +kernel)
set_option maxRecDepth 20000 in
theorem gX10_put_X10_isIn : GoodIn wsX10_put (va_wsS RX10 99 yX10_isIn wsX10_isIn) := goodIn_app (goodIn_of _ (by decide +kernel)) ggX10_put_X10_isIn
set_option maxRecDepth 20000 in
theorem ggX10_put_X10_isFine : GoodIn wsX10_put wsX10_isFine := goodIn_r _ [20, 21, 22, 23, 24, 25, 26, 27, 28, 29, 30, 31, 32, 33, 34, 35, 36, 37, 38, 39, 40, 41, 42, 43, 44, 45, 46, 47, 48, 49, 50, 51] (by decide +kernel) (by decide +kernel)
set_option maxRecDepth 20000 in
theorem gX10_put_X10_isFine : GoodIn wsX10_put (wsV RX10 114 RX10 yX10_isFine wsX10_isFine) := goodIn_app (goodIn_of _ (by decide +kernel)) ggX10_put_X10_isFine
theorem dX10_put_0 : decode cX10_put 0 = .ok (.iload_n 1, 1) := by decide +kernel
theorem dX10_put_1 : decode cX10_put 1 = .ok (.invokestatic 103, 3) := by decide +kernel
theorem dX10_put_4 : decode cX10_put 4 = .ok (.istore 4, 2) := by decide +kernel
theorem dX10_put_6 : decode cX10_put 6 = .ok (.aload_n 0, 1) := by decide +kernel
theorem dX10_put_7 : decode cX10_put 7 = .ok (.iload 4, 2) := by decide +kernel
theorem dX10_put_9 : decode cX10_put 9 = .ok (.ifCond .eq 10, 3) := by decide +kernel
theorem dX10_put_12 : decode cX10_put 12 = .ok (.iload_n 3, 1) := by decide +kernel
theorem dX10_put_13 : decode cX10_put 13 = .ok (.invokestatic 107, 3) := by decide +kernel
theorem dX10_put_16 : decode cX10_put 16 = .ok (.ifCond .ne 7, 3) := by decide +kernel
theorem dX10_put_19 : decode cX10_put 19 = .ok (.iconst 1, 1) := by decide +kernel
theorem dX10_put_20 : decode cX10_put 20 = .ok (.goto 35, 3) := by decide +kernel
theorem dX10_put_23 : decode cX10_put 23 = .ok (.iload_n 2, 1) := by decide +kernel
theorem dX10_put_24 : decode cX10_put 24 = .ok (.iconst 0, 1) := by decide +kernel
theorem dX10_put_25 : decode cX10_put 25 = .ok (.aload_n 0, 1) := by decide +kernel
theorem dX10_put_26 : decode cX10_put 26 = .ok (.iload_n 1, 1) := by decide +kernel
theorem dX10_put_27 : decode cX10_put 27 = .ok (.invokevirtual 110, 3) := by decide +kernel
theorem dX10_put_30 : decode cX10_put 30 = .ok (.invokestatic 99, 3) := by decide +kernel
theorem dX10_put_33 : decode cX10_put 33 = .ok (.ifCond .ne 7, 3) := by decide +kernel
theorem dX10_put_36 : decode cX10_put 36 = .ok (.iconst 2, 1) := by decide +kernel
theorem dX10_put_37 : decode cX10_put 37 = .ok (.goto 18, 3) := by decide +kernel
theorem dX10_put_40 : decode cX10_put 40 = .ok (.aload_n 0, 1) := by decide +kernel
theorem dX10_put_41 : decode cX10_put 41 = .ok (.iload_n 1, 1) := by decide +kernel
theorem dX10_put_42 : decode cX10_put 42 = .ok (.invokevirtual 110, 3) := by decide +kernel
theorem dX10_put_45 : decode cX10_put 45 = .ok (.bipush 48, 2) := by decide +kernel
theorem dX10_put_47 : decode cX10_put 47 = .ok (.if_icmp .ne 7, 3) := by decide +kernel
theorem dX10_put_50 : decode cX10_put 50 = .ok (.iconst 3, 1) := by decide +kernel
theorem dX10_put_51 : decode cX10_put 51 = .ok (.goto 4, 3) := by decide +kernel
theorem dX10_put_54 : decode cX10_put 54 = .ok (.iconst 0, 1) := by decide +kernel
theorem dX10_put_55 : decode cX10_put 55 = .ok (.invokevirtual 114, 3) := by decide +kernel
theorem dX10_put_58 : decode cX10_put 58 = .ok (.ifCond .ne 5, 3) := by decide +kernel
theorem dX10_put_61 : decode cX10_put 61 = .ok (.iconst 0, 1) := by decide +kernel
theorem dX10_put_62 : decode cX10_put 62 = .ok (.ireturn, 1) := by decide +kernel
theorem dX10_put_63 : decode cX10_put 63 = .ok (.sipush 240, 3) := by decide +kernel
theorem dX10_put_66 : decode cX10_put 66 = .ok (.iload_n 1, 1) := by decide +kernel
theorem dX10_put_67 : decode cX10_put 67 = .ok (.iadd, 1) := by decide +kernel
theorem dX10_put_68 : decode cX10_put 68 = .ok (.istore 5, 2) := by decide +kernel
theorem dX10_put_70 : decode cX10_put 70 = .ok (.aload_n 0, 1) := by decide +kernel
theorem dX10_put_71 : decode cX10_put 71 = .ok (.getfield 13, 3) := by decide +kernel
theorem dX10_put_74 : decode cX10_put 74 = .ok (.iload 5, 2) := by decide +kernel
theorem dX10_put_76 : decode cX10_put 76 = .ok (.iaload, 1) := by decide +kernel
theorem dX10_put_77 : decode cX10_put 77 = .ok (.istore 6, 2) := by decide +kernel
theorem dX10_put_79 : decode cX10_put 79 = .ok (.iload 6, 2) := by decide +kernel
theorem dX10_put_81 : decode cX10_put 81 = .ok (.iload_n 2, 1) := by decide +kernel
theorem dX10_put_82 : decode cX10_put 82 = .ok (.if_icmp .le 37, 3) := by decide +kernel
theorem dX10_put_85 : decode cX10_put 85 = .ok (.aload_n 0, 1) := by decide +kernel
theorem dX10_put_86 : decode cX10_put 86 = .ok (.getfield 7, 3) := by decide +kernel
theorem dX10_put_89 : decode cX10_put 89 = .ok (.bipush 48, 2) := by decide +kernel
theorem dX10_put_91 : decode cX10_put 91 = .ok (.iload 5, 2) := by decide +kernel
theorem dX10_put_93 : decode cX10_put 93 = .ok (.imul, 1) := by decide +kernel
theorem dX10_put_94 : decode cX10_put 94 = .ok (.iload 6, 2) := by decide +kernel
theorem dX10_put_96 : decode cX10_put 96 = .ok (.iadd, 1) := by decide +kernel
theorem dX10_put_97 : decode cX10_put 97 = .ok (.aload_n 0, 1) := by decide +kernel
theorem dX10_put_98 : decode cX10_put 98 = .ok (.getfield 7, 3) := by decide +kernel
theorem dX10_put_101 : decode cX10_put 101 = .ok (.bipush 48, 2) := by decide +kernel
theorem dX10_put_103 : decode cX10_put 103 = .ok (.iload 5, 2) := by decide +kernel
theorem dX10_put_105 : decode cX10_put 105 = .ok (.imul, 1) := by decide +kernel
theorem dX10_put_106 : decode cX10_put 106 = .ok (.iload 6, 2) := by decide +kernel
theorem dX10_put_108 : decode cX10_put 108 = .ok (.iadd, 1) := by decide +kernel
theorem dX10_put_109 : decode cX10_put 109 = .ok (.iconst 1, 1) := by decide +kernel
theorem dX10_put_110 : decode cX10_put 110 = .ok (.isub, 1) := by decide +kernel
theorem dX10_put_111 : decode cX10_put 111 = .ok (.iaload, 1) := by decide +kernel
theorem dX10_put_112 : decode cX10_put 112 = .ok (.iastore, 1) := by decide +kernel
theorem dX10_put_113 : decode cX10_put 113 = .ok (.iinc 6 (-1), 3) := by decide +kernel
theorem dX10_put_116 : decode cX10_put 116 = .ok (.goto (-37), 3) := by decide +kernel
theorem dX10_put_119 : decode cX10_put 119 = .ok (.aload_n 0, 1) := by decide +kernel
theorem dX10_put_120 : decode cX10_put 120 = .ok (.getfield 7, 3) := by decide +kernel
theorem dX10_put_123 : decode cX10_put 123 = .ok (.bipush 48, 2) := by decide +kernel
theorem dX10_put_125 : decode cX10_put 125 = .ok (.iload 5, 2) := by decide +kernel
theorem dX10_put_127 : decode cX10_put 127 = .ok (.imul, 1) := by decide +kernel
theorem dX10_put_128 : decode cX10_put 128 = .ok (.iload_n 2, 1) := by decide +kernel
theorem dX10_put_129 : decode cX10_put 129 = .ok (.iadd, 1) := by decide +kernel
theorem dX10_put_130 : decode cX10_put 130 = .ok (.iload_n 3, 1) := by decide +kernel
theorem dX10_put_131 : decode cX10_put 131 = .ok (.iastore, 1) := by decide +kernel
theorem dX10_put_132 : decode cX10_put 132 = .ok (.aload_n 0, 1) := by decide +kernel
theorem dX10_put_133 : decode cX10_put 133 = .ok (.getfield 13, 3) := by decide +kernel
theorem dX10_put_136 : decode cX10_put 136 = .ok (.iload 5, 2) := by decide +kernel
theorem dX10_put_138 : decode cX10_put 138 = .ok (.dup2, 1) := by decide +kernel
theorem dX10_put_139 : decode cX10_put 139 = .ok (.iaload, 1) := by decide +kernel
theorem dX10_put_140 : decode cX10_put 140 = .ok (.iconst 1, 1) := by decide +kernel
theorem dX10_put_141 : decode cX10_put 141 = .ok (.iadd, 1) := by decide +kernel
theorem dX10_put_142 : decode cX10_put 142 = .ok (.iastore, 1) := by decide +kernel
theorem dX10_put_143 : decode cX10_put 143 = .ok (.aload_n 0, 1) := by decide +kernel
theorem dX10_put_144 : decode cX10_put 144 = .ok (.getfield 13, 3) := by decide +kernel
theorem dX10_put_147 : decode cX10_put 147 = .ok (.iload 5, 2) := by decide +kernel
theorem dX10_put_149 : decode cX10_put 149 = .ok (.iaload, 1) := by decide +kernel
theorem dX10_put_150 : decode cX10_put 150 = .ok (.ireturn, 1) := by decide +kernel
set_option maxRecDepth 20000 in
theorem ggX10_set_X10_isClient : GoodIn wsX10_set wsX10_isClient := goodIn_r _ [5, 6, 7, 4, 8] (by decide +kernel) (by decide +kernel)
set_option maxRecDepth 20000 in
theorem gX10_set_X10_isClient : GoodIn wsX10_set (va_wsS RX10 103 yX10_isClient wsX10_isClient) := goodIn_app (goodIn_of _ (by decide +kernel)) ggX10_set_X10_isClient
set_option maxRecDepth 20000 in
theorem ggX10_set_X10_isByte : GoodIn wsX10_set wsX10_isByte := goodIn_r _ [11, 6, 7, 4, 8] (by decide +kernel) (by decide +kernel)
set_option maxRecDepth 20000 in
theorem gX10_set_X10_isByte : GoodIn wsX10_set (va_wsS RX10 107 yX10_isByte wsX10_isByte) := goodIn_app (goodIn_of _ (by decide +kernel)) ggX10_set_X10_isByte
set_option maxRecDepth 20000 in
theorem ggX10_set_X10_length0 : GoodIn wsX10_set wsX10_length0 := goodIn_r _ [15, 16, 26, 27, 28, 29, 30, 31, 32, 33, 34, 35, 36, 37, 38, 39, 40, 41, 42, 43, 44, 45, 46, 47, 48, 49, 50, 51, 52, 53, 54, 55] (by decide +kernel) (by decide +kernel)
set_option maxRecDepth 20000 in
theorem gX10_set_X10_length0 : GoodIn wsX10_set (wsV RX10 110 RX10 yX10_length0 wsX10_length0) := goodIn_app (goodIn_of _ (by decide +kernel)) ggX10_set_X10_length0
set_option maxRecDepth 20000 in
theorem ggX10_set_X10_isIn : GoodIn wsX10_set wsX10_isIn := goodIn_r _ [8] (by decide +kernel) (by decide +kernel)
set_option maxRecDepth 20000 in
theorem gX10_set_X10_isIn : GoodIn wsX10_set (va_wsS RX10 99 yX10_isIn wsX10_isIn) := goodIn_app (goodIn_of _ (by decide +kernel)) ggX10_set_X10_isIn
set_option maxRecDepth 20000 in
theorem ggX10_set_X10_isFine : GoodIn wsX10_set wsX10_isFine := goodIn_r _ [20, 21, 26, 27, 28, 29, 30, 31, 32, 33, 34, 35, 36, 37, 38, 39, 40, 41, 42, 43, 44, 45, 46, 47, 48, 49, 50, 51, 52, 53, 54, 55] (by decide +kernel) (by decide +kernel)
set_option maxRecDepth 20000 in
theorem gX10_set_X10_isFine : GoodIn wsX10_set (wsV RX10 114 RX10 yX10_isFine wsX10_isFine) := goodIn_app (goodIn_of _ (by decide +kernel)) ggX10_set_X10_isFine
set_option maxRecDepth 20000 in
theorem ggX10_set_X10_at0 : GoodIn wsX10_set wsX10_at0 := goodIn_r _ [25, 1, 26, 27, 28, 29, 30, 31, 32, 33, 34, 35, 36, 37, 38, 39, 40, 41, 42, 43, 44, 45, 46, 47, 48, 49, 50, 51, 52, 53, 54, 55] (by decide +kernel) (by decide +kernel)
set_option maxRecDepth 20000 in
theorem gX10_set_X10_at0 : GoodIn wsX10_set (wsV RX10 117 RX10 yX10_at0 wsX10_at0) := goodIn_app (goodIn_of _ (by decide +kernel)) ggX10_set_X10_at0
theorem dX10_set_0 : decode cX10_set 0 = .ok (.iload_n 1, 1) := by decide +kernel
theorem dX10_set_1 : decode cX10_set 1 = .ok (.invokestatic 103, 3) := by decide +kernel
theorem dX10_set_4 : decode cX10_set 4 = .ok (.istore 4, 2) := by decide +kernel
theorem dX10_set_6 : decode cX10_set 6 = .ok (.aload_n 0, 1) := by decide +kernel
theorem dX10_set_7 : decode cX10_set 7 = .ok (.iload 4, 2) := by decide +kernel
theorem dX10_set_9 : decode cX10_set 9 = .ok (.ifCond .eq 10, 3) := by decide +kernel
theorem dX10_set_12 : decode cX10_set 12 = .ok (.iload_n 3, 1) := by decide +kernel
theorem dX10_set_13 : decode cX10_set 13 = .ok (.invokestatic 107, 3) := by decide +kernel
theorem dX10_set_16 : decode cX10_set 16 = .ok (.ifCond .ne 7, 3) := by decide +kernel
theorem dX10_set_19 : decode cX10_set 19 = .ok (.iconst 1, 1) := by decide +kernel
theorem dX10_set_20 : decode cX10_set 20 = .ok (.goto 23, 3) := by decide +kernel
theorem dX10_set_23 : decode cX10_set 23 = .ok (.iload_n 2, 1) := by decide +kernel
theorem dX10_set_24 : decode cX10_set 24 = .ok (.iconst 0, 1) := by decide +kernel
theorem dX10_set_25 : decode cX10_set 25 = .ok (.aload_n 0, 1) := by decide +kernel
theorem dX10_set_26 : decode cX10_set 26 = .ok (.iload_n 1, 1) := by decide +kernel
theorem dX10_set_27 : decode cX10_set 27 = .ok (.invokevirtual 110, 3) := by decide +kernel
theorem dX10_set_30 : decode cX10_set 30 = .ok (.iconst 1, 1) := by decide +kernel
theorem dX10_set_31 : decode cX10_set 31 = .ok (.isub, 1) := by decide +kernel
theorem dX10_set_32 : decode cX10_set 32 = .ok (.invokestatic 99, 3) := by decide +kernel
theorem dX10_set_35 : decode cX10_set 35 = .ok (.ifCond .ne 7, 3) := by decide +kernel
theorem dX10_set_38 : decode cX10_set 38 = .ok (.iconst 2, 1) := by decide +kernel
theorem dX10_set_39 : decode cX10_set 39 = .ok (.goto 4, 3) := by decide +kernel
theorem dX10_set_42 : decode cX10_set 42 = .ok (.iconst 0, 1) := by decide +kernel
theorem dX10_set_43 : decode cX10_set 43 = .ok (.invokevirtual 114, 3) := by decide +kernel
theorem dX10_set_46 : decode cX10_set 46 = .ok (.ifCond .ne 5, 3) := by decide +kernel
theorem dX10_set_49 : decode cX10_set 49 = .ok (.iconst 0, 1) := by decide +kernel
theorem dX10_set_50 : decode cX10_set 50 = .ok (.ireturn, 1) := by decide +kernel
theorem dX10_set_51 : decode cX10_set 51 = .ok (.aload_n 0, 1) := by decide +kernel
theorem dX10_set_52 : decode cX10_set 52 = .ok (.sipush 240, 3) := by decide +kernel
theorem dX10_set_55 : decode cX10_set 55 = .ok (.iload_n 1, 1) := by decide +kernel
theorem dX10_set_56 : decode cX10_set 56 = .ok (.iadd, 1) := by decide +kernel
theorem dX10_set_57 : decode cX10_set 57 = .ok (.iload_n 2, 1) := by decide +kernel
theorem dX10_set_58 : decode cX10_set 58 = .ok (.invokevirtual 117, 3) := by decide +kernel
theorem dX10_set_61 : decode cX10_set 61 = .ok (.istore 5, 2) := by decide +kernel
theorem dX10_set_63 : decode cX10_set 63 = .ok (.aload_n 0, 1) := by decide +kernel
theorem dX10_set_64 : decode cX10_set 64 = .ok (.getfield 7, 3) := by decide +kernel
theorem dX10_set_67 : decode cX10_set 67 = .ok (.bipush 48, 2) := by decide +kernel
theorem dX10_set_69 : decode cX10_set 69 = .ok (.sipush 240, 3) := by decide +kernel
theorem dX10_set_72 : decode cX10_set 72 = .ok (.iload_n 1, 1) := by decide +kernel
theorem dX10_set_73 : decode cX10_set 73 = .ok (.iadd, 1) := by decide +kernel
theorem dX10_set_74 : decode cX10_set 74 = .ok (.imul, 1) := by decide +kernel
theorem dX10_set_75 : decode cX10_set 75 = .ok (.iload_n 2, 1) := by decide +kernel
theorem dX10_set_76 : decode cX10_set 76 = .ok (.iadd, 1) := by decide +kernel
theorem dX10_set_77 : decode cX10_set 77 = .ok (.iload_n 3, 1) := by decide +kernel
theorem dX10_set_78 : decode cX10_set 78 = .ok (.iastore, 1) := by decide +kernel
theorem dX10_set_79 : decode cX10_set 79 = .ok (.iload 5, 2) := by decide +kernel
theorem dX10_set_81 : decode cX10_set 81 = .ok (.ireturn, 1) := by decide +kernel
set_option maxRecDepth 20000 in
theorem ggX10_has_X10_length0 : GoodIn wsX10_has wsX10_length0 := goodIn_r _ [5, 6, 7, 8, 9, 10, 11, 12, 13, 14, 15, 16, 17, 18, 19, 20, 21, 22, 23, 24, 25, 26, 27, 28, 29, 30, 31, 32, 33, 34, 35, 36] (by decide +kernel) (by decide +kernel)
set_option maxRecDepth 20000 in
theorem gX10_has_X10_length0 : GoodIn wsX10_has (wsV RX10 110 RX10 yX10_length0 wsX10_length0) := goodIn_app (goodIn_of _ (by decide +kernel)) ggX10_has_X10_length0
theorem dX10_has_0 : decode cX10_has 0 = .ok (.iload_n 2, 1) := by decide +kernel
theorem dX10_has_1 : decode cX10_has 1 = .ok (.ifCond .lt 31, 3) := by decide +kernel
theorem dX10_has_4 : decode cX10_has 4 = .ok (.iload_n 3, 1) := by decide +kernel
theorem dX10_has_5 : decode cX10_has 5 = .ok (.ifCond .lt 27, 3) := by decide +kernel
theorem dX10_has_8 : decode cX10_has 8 = .ok (.iload_n 2, 1) := by decide +kernel
theorem dX10_has_9 : decode cX10_has 9 = .ok (.aload_n 0, 1) := by decide +kernel
theorem dX10_has_10 : decode cX10_has 10 = .ok (.iload_n 1, 1) := by decide +kernel
theorem dX10_has_11 : decode cX10_has 11 = .ok (.invokevirtual 110, 3) := by decide +kernel
theorem dX10_has_14 : decode cX10_has 14 = .ok (.if_icmp .gt 18, 3) := by decide +kernel
theorem dX10_has_17 : decode cX10_has 17 = .ok (.iload_n 3, 1) := by decide +kernel
theorem dX10_has_18 : decode cX10_has 18 = .ok (.aload_n 0, 1) := by decide +kernel
theorem dX10_has_19 : decode cX10_has 19 = .ok (.iload_n 1, 1) := by decide +kernel
theorem dX10_has_20 : decode cX10_has 20 = .ok (.invokevirtual 110, 3) := by decide +kernel
theorem dX10_has_23 : decode cX10_has 23 = .ok (.iload_n 2, 1) := by decide +kernel
theorem dX10_has_24 : decode cX10_has 24 = .ok (.isub, 1) := by decide +kernel
theorem dX10_has_25 : decode cX10_has 25 = .ok (.if_icmp .gt 7, 3) := by decide +kernel
theorem dX10_has_28 : decode cX10_has 28 = .ok (.iconst 1, 1) := by decide +kernel
theorem dX10_has_29 : decode cX10_has 29 = .ok (.goto 4, 3) := by decide +kernel
theorem dX10_has_32 : decode cX10_has 32 = .ok (.iconst 0, 1) := by decide +kernel
theorem dX10_has_33 : decode cX10_has 33 = .ok (.ireturn, 1) := by decide +kernel
set_option maxRecDepth 20000 in
theorem ggX10_cut_X10_isClient : GoodIn wsX10_cut wsX10_isClient := goodIn_r _ [6, 7, 8, 5, 9] (by decide +kernel) (by decide +kernel)
set_option maxRecDepth 20000 in
theorem gX10_cut_X10_isClient : GoodIn wsX10_cut (va_wsS RX10 103 yX10_isClient wsX10_isClient) := goodIn_app (goodIn_of _ (by decide +kernel)) ggX10_cut_X10_isClient
set_option maxRecDepth 20000 in
theorem ggX10_cut_X10_has : GoodIn wsX10_cut wsX10_has := goodIn_r _ [13, 14, 15, 16, 5, 17, 1, 23, 24, 25, 26, 27, 28, 29, 30, 31, 32, 33, 34, 35, 36, 37, 38, 39, 40, 41, 42, 43, 44, 45, 46, 47, 48, 49, 50, 51, 52] (by decide +kernel) (by decide +kernel)
set_option maxRecDepth 20000 in
theorem gX10_cut_X10_has : GoodIn wsX10_cut (wsV RX10 121 RX10 yX10_has wsX10_has) := goodIn_app (goodIn_of _ (by decide +kernel)) ggX10_cut_X10_has
set_option maxRecDepth 20000 in
theorem ggX10_cut_X10_isFine : GoodIn wsX10_cut wsX10_isFine := goodIn_r _ [21, 22, 23, 24, 25, 26, 27, 28, 29, 30, 31, 32, 33, 34, 35, 36, 37, 38, 39, 40, 41, 42, 43, 44, 45, 46, 47, 48, 49, 50, 51, 52] (by decide +kernel) (by decide +kernel)
set_option maxRecDepth 20000 in
theorem gX10_cut_X10_isFine : GoodIn wsX10_cut (wsV RX10 114 RX10 yX10_isFine wsX10_isFine) := goodIn_app (goodIn_of _ (by decide +kernel)) ggX10_cut_X10_isFine
theorem dX10_cut_0 : decode cX10_cut 0 = .ok (.iload_n 1, 1) := by decide +kernel
theorem dX10_cut_1 : decode cX10_cut 1 = .ok (.invokestatic 103, 3) := by decide +kernel
theorem dX10_cut_4 : decode cX10_cut 4 = .ok (.istore 4, 2) := by decide +kernel
theorem dX10_cut_6 : decode cX10_cut 6 = .ok (.aload_n 0, 1) := by decide +kernel
theorem dX10_cut_7 : decode cX10_cut 7 = .ok (.iload 4, 2) := by decide +kernel
theorem dX10_cut_9 : decode cX10_cut 9 = .ok (.ifCond .ne 7, 3) := by decide +kernel
theorem dX10_cut_12 : decode cX10_cut 12 = .ok (.iconst 1, 1) := by decide +kernel
theorem dX10_cut_13 : decode cX10_cut 13 = .ok (.goto 18, 3) := by decide +kernel
theorem dX10_cut_16 : decode cX10_cut 16 = .ok (.aload_n 0, 1) := by decide +kernel
theorem dX10_cut_17 : decode cX10_cut 17 = .ok (.iload_n 1, 1) := by decide +kernel
theorem dX10_cut_18 : decode cX10_cut 18 = .ok (.iload_n 2, 1) := by decide +kernel
theorem dX10_cut_19 : decode cX10_cut 19 = .ok (.iload_n 3, 1) := by decide +kernel
theorem dX10_cut_20 : decode cX10_cut 20 = .ok (.invokevirtual 121, 3) := by decide +kernel
theorem dX10_cut_23 : decode cX10_cut 23 = .ok (.ifCond .ne 7, 3) := by decide +kernel
theorem dX10_cut_26 : decode cX10_cut 26 = .ok (.iconst 2, 1) := by decide +kernel
theorem dX10_cut_27 : decode cX10_cut 27 = .ok (.goto 4, 3) := by decide +kernel
theorem dX10_cut_30 : decode cX10_cut 30 = .ok (.iconst 0, 1) := by decide +kernel
theorem dX10_cut_31 : decode cX10_cut 31 = .ok (.invokevirtual 114, 3) := by decide +kernel
theorem dX10_cut_34 : decode cX10_cut 34 = .ok (.ifCond .ne 5, 3) := by decide +kernel
theorem dX10_cut_37 : decode cX10_cut 37 = .ok (.iconst 0, 1) := by decide +kernel
theorem dX10_cut_38 : decode cX10_cut 38 = .ok (.ireturn, 1) := by decide +kernel
theorem dX10_cut_39 : decode cX10_cut 39 = .ok (.sipush 240, 3) := by decide +kernel
theorem dX10_cut_42 : decode cX10_cut 42 = .ok (.iload_n 1, 1) := by decide +kernel
theorem dX10_cut_43 : decode cX10_cut 43 = .ok (.iadd, 1) := by decide +kernel
theorem dX10_cut_44 : decode cX10_cut 44 = .ok (.istore 5, 2) := by decide +kernel
theorem dX10_cut_46 : decode cX10_cut 46 = .ok (.aload_n 0, 1) := by decide +kernel
theorem dX10_cut_47 : decode cX10_cut 47 = .ok (.getfield 13, 3) := by decide +kernel
theorem dX10_cut_50 : decode cX10_cut 50 = .ok (.iload 5, 2) := by decide +kernel
theorem dX10_cut_52 : decode cX10_cut 52 = .ok (.dup2, 1) := by decide +kernel
theorem dX10_cut_53 : decode cX10_cut 53 = .ok (.iaload, 1) := by decide +kernel
theorem dX10_cut_54 : decode cX10_cut 54 = .ok (.iload_n 3, 1) := by decide +kernel
theorem dX10_cut_55 : decode cX10_cut 55 = .ok (.isub, 1) := by decide +kernel
theorem dX10_cut_56 : decode cX10_cut 56 = .ok (.iastore, 1) := by decide +kernel
theorem dX10_cut_57 : decode cX10_cut 57 = .ok (.iload_n 2, 1) := by decide +kernel
theorem dX10_cut_58 : decode cX10_cut 58 = .ok (.istore 6, 2) := by decide +kernel
theorem dX10_cut_60 : decode cX10_cut 60 = .ok (.iload 6, 2) := by decide +kernel
theorem dX10_cut_62 : decode cX10_cut 62 = .ok (.aload_n 0, 1) := by decide +kernel
theorem dX10_cut_63 : decode cX10_cut 63 = .ok (.getfield 13, 3) := by decide +kernel
theorem dX10_cut_66 : decode cX10_cut 66 = .ok (.iload 5, 2) := by decide +kernel
theorem dX10_cut_68 : decode cX10_cut 68 = .ok (.iaload, 1) := by decide +kernel
theorem dX10_cut_69 : decode cX10_cut 69 = .ok (.if_icmp .ge 37, 3) := by decide +kernel
theorem dX10_cut_72 : decode cX10_cut 72 = .ok (.aload_n 0, 1) := by decide +kernel
theorem dX10_cut_73 : decode cX10_cut 73 = .ok (.getfield 7, 3) := by decide +kernel
theorem dX10_cut_76 : decode cX10_cut 76 = .ok (.bipush 48, 2) := by decide +kernel
theorem dX10_cut_78 : decode cX10_cut 78 = .ok (.iload 5, 2) := by decide +kernel
theorem dX10_cut_80 : decode cX10_cut 80 = .ok (.imul, 1) := by decide +kernel
theorem dX10_cut_81 : decode cX10_cut 81 = .ok (.iload 6, 2) := by decide +kernel
theorem dX10_cut_83 : decode cX10_cut 83 = .ok (.iadd, 1) := by decide +kernel
theorem dX10_cut_84 : decode cX10_cut 84 = .ok (.aload_n 0, 1) := by decide +kernel
theorem dX10_cut_85 : decode cX10_cut 85 = .ok (.getfield 7, 3) := by decide +kernel
theorem dX10_cut_88 : decode cX10_cut 88 = .ok (.bipush 48, 2) := by decide +kernel
theorem dX10_cut_90 : decode cX10_cut 90 = .ok (.iload 5, 2) := by decide +kernel
theorem dX10_cut_92 : decode cX10_cut 92 = .ok (.imul, 1) := by decide +kernel
theorem dX10_cut_93 : decode cX10_cut 93 = .ok (.iload 6, 2) := by decide +kernel
theorem dX10_cut_95 : decode cX10_cut 95 = .ok (.iadd, 1) := by decide +kernel
theorem dX10_cut_96 : decode cX10_cut 96 = .ok (.iload_n 3, 1) := by decide +kernel
theorem dX10_cut_97 : decode cX10_cut 97 = .ok (.iadd, 1) := by decide +kernel
theorem dX10_cut_98 : decode cX10_cut 98 = .ok (.iaload, 1) := by decide +kernel
theorem dX10_cut_99 : decode cX10_cut 99 = .ok (.iastore, 1) := by decide +kernel
theorem dX10_cut_100 : decode cX10_cut 100 = .ok (.iinc 6 1, 3) := by decide +kernel
theorem dX10_cut_103 : decode cX10_cut 103 = .ok (.goto (-43), 3) := by decide +kernel
theorem dX10_cut_106 : decode cX10_cut 106 = .ok (.aload_n 0, 1) := by decide +kernel
theorem dX10_cut_107 : decode cX10_cut 107 = .ok (.getfield 13, 3) := by decide +kernel
theorem dX10_cut_110 : decode cX10_cut 110 = .ok (.iload 5, 2) := by decide +kernel
theorem dX10_cut_112 : decode cX10_cut 112 = .ok (.iaload, 1) := by decide +kernel
theorem dX10_cut_113 : decode cX10_cut 113 = .ok (.ireturn, 1) := by decide +kernel
set_option maxRecDepth 20000 in
theorem ggX10_copy_X10_isClient : GoodIn wsX10_copy wsX10_isClient := goodIn_r _ [6, 7, 8, 5, 9] (by decide +kernel) (by decide +kernel)
set_option maxRecDepth 20000 in
theorem gX10_copy_X10_isClient : GoodIn wsX10_copy (va_wsS RX10 103 yX10_isClient wsX10_isClient) := goodIn_app (goodIn_of _ (by decide +kernel)) ggX10_copy_X10_isClient
set_option maxRecDepth 20000 in
theorem ggX10_copy_X10_has : GoodIn wsX10_copy wsX10_has := goodIn_r _ [13, 14, 15, 16, 5, 17, 1, 27, 28, 29, 30, 31, 32, 33, 34, 35, 36, 37, 38, 39, 40, 41, 42, 43, 44, 45, 46, 47, 48, 49, 50, 51, 52, 53, 54, 55, 56] (by decide +kernel) (by decide +kernel)
set_option maxRecDepth 20000 in
theorem gX10_copy_X10_has : GoodIn wsX10_copy (wsV RX10 121 RX10 yX10_has wsX10_has) := goodIn_app (goodIn_of _ (by decide +kernel)) ggX10_copy_X10_has
set_option maxRecDepth 20000 in
theorem ggX10_copy_X10_length0 : GoodIn wsX10_copy wsX10_length0 := goodIn_r _ [17, 1, 27, 28, 29, 30, 31, 32, 33, 34, 35, 36, 37, 38, 39, 40, 41, 42, 43, 44, 45, 46, 47, 48, 49, 50, 51, 52, 53, 54, 55, 56] (by decide +kernel) (by decide +kernel)
set_option maxRecDepth 20000 in
theorem gX10_copy_X10_length0 : GoodIn wsX10_copy (wsV RX10 110 RX10 yX10_length0 wsX10_length0) := goodIn_app (goodIn_of _ (by decide +kernel)) ggX10_copy_X10_length0
set_option maxRecDepth 20000 in
theorem ggX10_copy_X10_isFine : GoodIn wsX10_copy wsX10_isFine := goodIn_r _ [21, 22, 27, 28, 29, 30, 31, 32, 33, 34, 35, 36, 37, 38, 39, 40, 41, 42, 43, 44, 45, 46, 47, 48, 49, 50, 51, 52, 53, 54, 55, 56] (by decide +kernel) (by decide +kernel)
set_option maxRecDepth 20000 in
theorem gX10_copy_X10_isFine : GoodIn wsX10_copy (wsV RX10 114 RX10 yX10_isFine wsX10_isFine) := goodIn_app (goodIn_of _ (by decide +kernel)) ggX10_copy_X10_isFine
set_option maxRecDepth 20000 in
theorem ggX10_copy_X10_at0 : GoodIn wsX10_copy wsX10_at0 := goodIn_r _ [26, 2, 27, 28, 29, 30, 31, 32, 33, 34, 35, 36, 37, 38, 39, 40, 41, 42, 43, 44, 45, 46, 47, 48, 49, 50, 51, 52, 53, 54, 55, 56] (by decide +kernel) (by decide +kernel)
set_option maxRecDepth 20000 in
theorem gX10_copy_X10_at0 : GoodIn wsX10_copy (wsV RX10 117 RX10 yX10_at0 wsX10_at0) := goodIn_app (goodIn_of _ (by decide +kernel)) ggX10_copy_X10_at0
theorem dX10_copy_0 : decode cX10_copy 0 = .ok (.iload_n 1, 1) := by decide +kernel
theorem dX10_copy_1 : decode cX10_copy 1 = .ok (.invokestatic 103, 3) := by decide +kernel
theorem dX10_copy_4 : decode cX10_copy 4 = .ok (.ifCond .eq 15, 3) := by decide +kernel
theorem dX10_copy_7 : decode cX10_copy 7 = .ok (.iload 4, 2) := by decide +kernel
theorem dX10_copy_9 : decode cX10_copy 9 = .ok (.invokestatic 103, 3) := by decide +kernel
theorem dX10_copy_12 : decode cX10_copy 12 = .ok (.ifCond .eq 7, 3) := by decide +kernel
theorem dX10_copy_15 : decode cX10_copy 15 = .ok (.iconst 1, 1) := by decide +kernel
theorem dX10_copy_16 : decode cX10_copy 16 = .ok (.goto 4, 3) := by decide +kernel
theorem dX10_copy_19 : decode cX10_copy 19 = .ok (.iconst 0, 1) := by decide +kernel
theorem dX10_copy_20 : decode cX10_copy 20 = .ok (.istore 5, 2) := by decide +kernel
theorem dX10_copy_22 : decode cX10_copy 22 = .ok (.aload_n 0, 1) := by decide +kernel
theorem dX10_copy_23 : decode cX10_copy 23 = .ok (.iload 5, 2) := by decide +kernel
theorem dX10_copy_25 : decode cX10_copy 25 = .ok (.ifCond .ne 7, 3) := by decide +kernel
theorem dX10_copy_28 : decode cX10_copy 28 = .ok (.iconst 1, 1) := by decide +kernel
theorem dX10_copy_29 : decode cX10_copy 29 = .ok (.goto 35, 3) := by decide +kernel
theorem dX10_copy_32 : decode cX10_copy 32 = .ok (.aload_n 0, 1) := by decide +kernel
theorem dX10_copy_33 : decode cX10_copy 33 = .ok (.iload_n 1, 1) := by decide +kernel
theorem dX10_copy_34 : decode cX10_copy 34 = .ok (.iload_n 2, 1) := by decide +kernel
theorem dX10_copy_35 : decode cX10_copy 35 = .ok (.iload_n 3, 1) := by decide +kernel
theorem dX10_copy_36 : decode cX10_copy 36 = .ok (.invokevirtual 121, 3) := by decide +kernel
theorem dX10_copy_39 : decode cX10_copy 39 = .ok (.ifCond .ne 7, 3) := by decide +kernel
theorem dX10_copy_42 : decode cX10_copy 42 = .ok (.iconst 2, 1) := by decide +kernel
theorem dX10_copy_43 : decode cX10_copy 43 = .ok (.goto 21, 3) := by decide +kernel
theorem dX10_copy_46 : decode cX10_copy 46 = .ok (.aload_n 0, 1) := by decide +kernel
theorem dX10_copy_47 : decode cX10_copy 47 = .ok (.iload 4, 2) := by decide +kernel
theorem dX10_copy_49 : decode cX10_copy 49 = .ok (.invokevirtual 110, 3) := by decide +kernel
theorem dX10_copy_52 : decode cX10_copy 52 = .ok (.iload_n 3, 1) := by decide +kernel
theorem dX10_copy_53 : decode cX10_copy 53 = .ok (.iadd, 1) := by decide +kernel
theorem dX10_copy_54 : decode cX10_copy 54 = .ok (.bipush 48, 2) := by decide +kernel
theorem dX10_copy_56 : decode cX10_copy 56 = .ok (.if_icmp .le 7, 3) := by decide +kernel
theorem dX10_copy_59 : decode cX10_copy 59 = .ok (.iconst 3, 1) := by decide +kernel
theorem dX10_copy_60 : decode cX10_copy 60 = .ok (.goto 4, 3) := by decide +kernel
theorem dX10_copy_63 : decode cX10_copy 63 = .ok (.iconst 0, 1) := by decide +kernel
theorem dX10_copy_64 : decode cX10_copy 64 = .ok (.invokevirtual 114, 3) := by decide +kernel
theorem dX10_copy_67 : decode cX10_copy 67 = .ok (.ifCond .ne 5, 3) := by decide +kernel
theorem dX10_copy_70 : decode cX10_copy 70 = .ok (.iconst 0, 1) := by decide +kernel
theorem dX10_copy_71 : decode cX10_copy 71 = .ok (.ireturn, 1) := by decide +kernel
theorem dX10_copy_72 : decode cX10_copy 72 = .ok (.sipush 240, 3) := by decide +kernel
theorem dX10_copy_75 : decode cX10_copy 75 = .ok (.iload 4, 2) := by decide +kernel
theorem dX10_copy_77 : decode cX10_copy 77 = .ok (.iadd, 1) := by decide +kernel
theorem dX10_copy_78 : decode cX10_copy 78 = .ok (.istore 6, 2) := by decide +kernel
theorem dX10_copy_80 : decode cX10_copy 80 = .ok (.aload_n 0, 1) := by decide +kernel
theorem dX10_copy_81 : decode cX10_copy 81 = .ok (.getfield 13, 3) := by decide +kernel
theorem dX10_copy_84 : decode cX10_copy 84 = .ok (.iload 6, 2) := by decide +kernel
theorem dX10_copy_86 : decode cX10_copy 86 = .ok (.iaload, 1) := by decide +kernel
theorem dX10_copy_87 : decode cX10_copy 87 = .ok (.istore 7, 2) := by decide +kernel
theorem dX10_copy_89 : decode cX10_copy 89 = .ok (.iconst 0, 1) := by decide +kernel
theorem dX10_copy_90 : decode cX10_copy 90 = .ok (.istore 8, 2) := by decide +kernel
theorem dX10_copy_92 : decode cX10_copy 92 = .ok (.iload 8, 2) := by decide +kernel
theorem dX10_copy_94 : decode cX10_copy 94 = .ok (.iload_n 3, 1) := by decide +kernel
theorem dX10_copy_95 : decode cX10_copy 95 = .ok (.if_icmp .ge 38, 3) := by decide +kernel
theorem dX10_copy_98 : decode cX10_copy 98 = .ok (.aload_n 0, 1) := by decide +kernel
theorem dX10_copy_99 : decode cX10_copy 99 = .ok (.getfield 7, 3) := by decide +kernel
theorem dX10_copy_102 : decode cX10_copy 102 = .ok (.bipush 48, 2) := by decide +kernel
theorem dX10_copy_104 : decode cX10_copy 104 = .ok (.iload 6, 2) := by decide +kernel
theorem dX10_copy_106 : decode cX10_copy 106 = .ok (.imul, 1) := by decide +kernel
theorem dX10_copy_107 : decode cX10_copy 107 = .ok (.iload 7, 2) := by decide +kernel
theorem dX10_copy_109 : decode cX10_copy 109 = .ok (.iadd, 1) := by decide +kernel
theorem dX10_copy_110 : decode cX10_copy 110 = .ok (.iload 8, 2) := by decide +kernel
theorem dX10_copy_112 : decode cX10_copy 112 = .ok (.iadd, 1) := by decide +kernel
theorem dX10_copy_113 : decode cX10_copy 113 = .ok (.aload_n 0, 1) := by decide +kernel
theorem dX10_copy_114 : decode cX10_copy 114 = .ok (.sipush 240, 3) := by decide +kernel
theorem dX10_copy_117 : decode cX10_copy 117 = .ok (.iload_n 1, 1) := by decide +kernel
theorem dX10_copy_118 : decode cX10_copy 118 = .ok (.iadd, 1) := by decide +kernel
theorem dX10_copy_119 : decode cX10_copy 119 = .ok (.iload_n 2, 1) := by decide +kernel
theorem dX10_copy_120 : decode cX10_copy 120 = .ok (.iload 8, 2) := by decide +kernel
theorem dX10_copy_122 : decode cX10_copy 122 = .ok (.iadd, 1) := by decide +kernel
theorem dX10_copy_123 : decode cX10_copy 123 = .ok (.invokevirtual 117, 3) := by decide +kernel
theorem dX10_copy_126 : decode cX10_copy 126 = .ok (.iastore, 1) := by decide +kernel
theorem dX10_copy_127 : decode cX10_copy 127 = .ok (.iinc 8 1, 3) := by decide +kernel
theorem dX10_copy_130 : decode cX10_copy 130 = .ok (.goto (-38), 3) := by decide +kernel
theorem dX10_copy_133 : decode cX10_copy 133 = .ok (.aload_n 0, 1) := by decide +kernel
theorem dX10_copy_134 : decode cX10_copy 134 = .ok (.getfield 13, 3) := by decide +kernel
theorem dX10_copy_137 : decode cX10_copy 137 = .ok (.iload 6, 2) := by decide +kernel
theorem dX10_copy_139 : decode cX10_copy 139 = .ok (.dup2, 1) := by decide +kernel
theorem dX10_copy_140 : decode cX10_copy 140 = .ok (.iaload, 1) := by decide +kernel
theorem dX10_copy_141 : decode cX10_copy 141 = .ok (.iload_n 3, 1) := by decide +kernel
theorem dX10_copy_142 : decode cX10_copy 142 = .ok (.iadd, 1) := by decide +kernel
theorem dX10_copy_143 : decode cX10_copy 143 = .ok (.iastore, 1) := by decide +kernel
theorem dX10_copy_144 : decode cX10_copy 144 = .ok (.aload_n 0, 1) := by decide +kernel
theorem dX10_copy_145 : decode cX10_copy 145 = .ok (.getfield 13, 3) := by decide +kernel
theorem dX10_copy_148 : decode cX10_copy 148 = .ok (.iload 6, 2) := by decide +kernel
theorem dX10_copy_150 : decode cX10_copy 150 = .ok (.iaload, 1) := by decide +kernel
theorem dX10_copy_151 : decode cX10_copy 151 = .ok (.ireturn, 1) := by decide +kernel
set_option maxRecDepth 20000 in
theorem ggX10_length_X10_isClient : GoodIn wsX10_length wsX10_isClient := goodIn_r _ [4, 5, 6, 3, 7] (by decide +kernel) (by decide +kernel)
set_option maxRecDepth 20000 in
theorem gX10_length_X10_isClient : GoodIn wsX10_length (va_wsS RX10 103 yX10_isClient wsX10_isClient) := goodIn_app (goodIn_of _ (by decide +kernel)) ggX10_length_X10_isClient
set_option maxRecDepth 20000 in
theorem ggX10_length_X10_isFine : GoodIn wsX10_length wsX10_isFine := goodIn_r _ [11, 12, 18, 19, 20, 21, 22, 23, 24, 25, 26, 27, 28, 29, 30, 31, 32, 33, 34, 35, 36, 37, 38, 39, 40, 41, 42, 43, 44, 45, 46, 47] (by decide +kernel) (by decide +kernel)
set_option maxRecDepth 20000 in
theorem gX10_length_X10_isFine : GoodIn wsX10_length (wsV RX10 114 RX10 yX10_isFine wsX10_isFine) := goodIn_app (goodIn_of _ (by decide +kernel)) ggX10_length_X10_isFine
set_option maxRecDepth 20000 in
theorem ggX10_length_X10_length0 : GoodIn wsX10_length wsX10_length0 := goodIn_r _ [16, 17, 18, 19, 20, 21, 22, 23, 24, 25, 26, 27, 28, 29, 30, 31, 32, 33, 34, 35, 36, 37, 38, 39, 40, 41, 42, 43, 44, 45, 46, 47] (by decide +kernel) (by decide +kernel)
set_option maxRecDepth 20000 in
theorem gX10_length_X10_length0 : GoodIn wsX10_length (wsV RX10 110 RX10 yX10_length0 wsX10_length0) := goodIn_app (goodIn_of _ (by decide +kernel)) ggX10_length_X10_length0
theorem dX10_length_0 : decode cX10_length 0 = .ok (.aload_n 0, 1) := by decide +kernel
theorem dX10_length_1 : decode cX10_length 1 = .ok (.iload_n 1, 1) := by decide +kernel
theorem dX10_length_2 : decode cX10_length 2 = .ok (.invokestatic 103, 3) := by decide +kernel
theorem dX10_length_5 : decode cX10_length 5 = .ok (.ifCond .eq 7, 3) := by decide +kernel
theorem dX10_length_8 : decode cX10_length 8 = .ok (.iconst 0, 1) := by decide +kernel
theorem dX10_length_9 : decode cX10_length 9 = .ok (.goto 4, 3) := by decide +kernel
theorem dX10_length_12 : decode cX10_length 12 = .ok (.iconst 1, 1) := by decide +kernel
theorem dX10_length_13 : decode cX10_length 13 = .ok (.invokevirtual 114, 3) := by decide +kernel
theorem dX10_length_16 : decode cX10_length 16 = .ok (.ifCond .eq 11, 3) := by decide +kernel
theorem dX10_length_19 : decode cX10_length 19 = .ok (.aload_n 0, 1) := by decide +kernel
theorem dX10_length_20 : decode cX10_length 20 = .ok (.iload_n 1, 1) := by decide +kernel
theorem dX10_length_21 : decode cX10_length 21 = .ok (.invokevirtual 110, 3) := by decide +kernel
theorem dX10_length_24 : decode cX10_length 24 = .ok (.goto 4, 3) := by decide +kernel
theorem dX10_length_27 : decode cX10_length 27 = .ok (.iconst 0, 1) := by decide +kernel
theorem dX10_length_28 : decode cX10_length 28 = .ok (.ireturn, 1) := by decide +kernel
set_option maxRecDepth 20000 in
theorem ggX10_isPlace_X10_length0 : GoodIn wsX10_isPlace wsX10_length0 := goodIn_r _ [5, 6, 10, 11, 12, 13, 14, 15, 16, 17, 18, 19, 20, 21, 22, 23, 24, 25, 26, 27, 28, 29, 30, 31, 32, 33, 34, 35, 36, 37, 38, 39] (by decide +kernel) (by decide +kernel)
set_option maxRecDepth 20000 in
theorem gX10_isPlace_X10_length0 : GoodIn wsX10_isPlace (wsV RX10 110 RX10 yX10_length0 wsX10_length0) := goodIn_app (goodIn_of _ (by decide +kernel)) ggX10_isPlace_X10_length0
set_option maxRecDepth 20000 in
theorem ggX10_isPlace_X10_isIn : GoodIn wsX10_isPlace wsX10_isIn := goodIn_r _ [9] (by decide +kernel) (by decide +kernel)
set_option maxRecDepth 20000 in
theorem gX10_isPlace_X10_isIn : GoodIn wsX10_isPlace (va_wsS RX10 99 yX10_isIn wsX10_isIn) := goodIn_app (goodIn_of _ (by decide +kernel)) ggX10_isPlace_X10_isIn
theorem dX10_isPlace_0 : decode cX10_isPlace 0 = .ok (.iload_n 2, 1) := by decide +kernel
theorem dX10_isPlace_1 : decode cX10_isPlace 1 = .ok (.iconst 0, 1) := by decide +kernel
theorem dX10_isPlace_2 : decode cX10_isPlace 2 = .ok (.aload_n 0, 1) := by decide +kernel
theorem dX10_isPlace_3 : decode cX10_isPlace 3 = .ok (.iload_n 1, 1) := by decide +kernel
theorem dX10_isPlace_4 : decode cX10_isPlace 4 = .ok (.invokevirtual 110, 3) := by decide +kernel
theorem dX10_isPlace_7 : decode cX10_isPlace 7 = .ok (.iconst 1, 1) := by decide +kernel
theorem dX10_isPlace_8 : decode cX10_isPlace 8 = .ok (.isub, 1) := by decide +kernel
theorem dX10_isPlace_9 : decode cX10_isPlace 9 = .ok (.invokestatic 99, 3) := by decide +kernel
theorem dX10_isPlace_12 : decode cX10_isPlace 12 = .ok (.ireturn, 1) := by decide +kernel
set_option maxRecDepth 20000 in
theorem ggX10_at_X10_isClient : GoodIn wsX10_at wsX10_isClient := goodIn_r _ [4, 5, 6, 3, 7] (by decide +kernel) (by decide +kernel)
set_option maxRecDepth 20000 in
theorem gX10_at_X10_isClient : GoodIn wsX10_at (va_wsS RX10 103 yX10_isClient wsX10_isClient) := goodIn_app (goodIn_of _ (by decide +kernel)) ggX10_at_X10_isClient
set_option maxRecDepth 20000 in
theorem ggX10_at_X10_isPlace : GoodIn wsX10_at wsX10_isPlace := goodIn_r _ [11, 12, 13, 14, 3, 15, 16, 5, 6, 7, 27, 28, 29, 30, 31, 32, 33, 34, 35, 36, 37, 38, 39, 40, 41, 42, 43, 44, 45, 46, 47, 48, 49, 50, 51, 52, 53, 54, 55, 56] (by decide +kernel) (by decide +kernel)
set_option maxRecDepth 20000 in
theorem gX10_at_X10_isPlace : GoodIn wsX10_at (wsV RX10 124 RX10 yX10_isPlace wsX10_isPlace) := goodIn_app (goodIn_of _ (by decide +kernel)) ggX10_at_X10_isPlace
set_option maxRecDepth 20000 in
theorem ggX10_at_X10_isFine : GoodIn wsX10_at wsX10_isFine := goodIn_r _ [20, 21, 27, 28, 29, 30, 31, 32, 33, 34, 35, 36, 37, 38, 39, 40, 41, 42, 43, 44, 45, 46, 47, 48, 49, 50, 51, 52, 53, 54, 55, 56] (by decide +kernel) (by decide +kernel)
set_option maxRecDepth 20000 in
theorem gX10_at_X10_isFine : GoodIn wsX10_at (wsV RX10 114 RX10 yX10_isFine wsX10_isFine) := goodIn_app (goodIn_of _ (by decide +kernel)) ggX10_at_X10_isFine
set_option maxRecDepth 20000 in
theorem ggX10_at_X10_at0 : GoodIn wsX10_at wsX10_at0 := goodIn_r _ [25, 26, 27, 28, 29, 30, 31, 32, 33, 34, 35, 36, 37, 38, 39, 40, 41, 42, 43, 44, 45, 46, 47, 48, 49, 50, 51, 52, 53, 54, 55, 56] (by decide +kernel) (by decide +kernel)
set_option maxRecDepth 20000 in
theorem gX10_at_X10_at0 : GoodIn wsX10_at (wsV RX10 117 RX10 yX10_at0 wsX10_at0) := goodIn_app (goodIn_of _ (by decide +kernel)) ggX10_at_X10_at0
theorem dX10_at_0 : decode cX10_at 0 = .ok (.iload_n 1, 1) := by decide +kernel
theorem dX10_at_1 : decode cX10_at 1 = .ok (.invokestatic 103, 3) := by decide +kernel
theorem dX10_at_4 : decode cX10_at 4 = .ok (.istore_n 3, 1) := by decide +kernel
theorem dX10_at_5 : decode cX10_at 5 = .ok (.aload_n 0, 1) := by decide +kernel
theorem dX10_at_6 : decode cX10_at 6 = .ok (.iload_n 3, 1) := by decide +kernel
theorem dX10_at_7 : decode cX10_at 7 = .ok (.ifCond .ne 7, 3) := by decide +kernel
theorem dX10_at_10 : decode cX10_at 10 = .ok (.iconst 1, 1) := by decide +kernel
theorem dX10_at_11 : decode cX10_at 11 = .ok (.goto 17, 3) := by decide +kernel
theorem dX10_at_14 : decode cX10_at 14 = .ok (.aload_n 0, 1) := by decide +kernel
theorem dX10_at_15 : decode cX10_at 15 = .ok (.iload_n 1, 1) := by decide +kernel
theorem dX10_at_16 : decode cX10_at 16 = .ok (.iload_n 2, 1) := by decide +kernel
theorem dX10_at_17 : decode cX10_at 17 = .ok (.invokevirtual 124, 3) := by decide +kernel
theorem dX10_at_20 : decode cX10_at 20 = .ok (.ifCond .ne 7, 3) := by decide +kernel
theorem dX10_at_23 : decode cX10_at 23 = .ok (.iconst 2, 1) := by decide +kernel
theorem dX10_at_24 : decode cX10_at 24 = .ok (.goto 4, 3) := by decide +kernel
theorem dX10_at_27 : decode cX10_at 27 = .ok (.iconst 0, 1) := by decide +kernel
theorem dX10_at_28 : decode cX10_at 28 = .ok (.invokevirtual 114, 3) := by decide +kernel
theorem dX10_at_31 : decode cX10_at 31 = .ok (.ifCond .eq 16, 3) := by decide +kernel
theorem dX10_at_34 : decode cX10_at 34 = .ok (.aload_n 0, 1) := by decide +kernel
theorem dX10_at_35 : decode cX10_at 35 = .ok (.sipush 240, 3) := by decide +kernel
theorem dX10_at_38 : decode cX10_at 38 = .ok (.iload_n 1, 1) := by decide +kernel
theorem dX10_at_39 : decode cX10_at 39 = .ok (.iadd, 1) := by decide +kernel
theorem dX10_at_40 : decode cX10_at 40 = .ok (.iload_n 2, 1) := by decide +kernel
theorem dX10_at_41 : decode cX10_at 41 = .ok (.invokevirtual 117, 3) := by decide +kernel
theorem dX10_at_44 : decode cX10_at 44 = .ok (.goto 4, 3) := by decide +kernel
theorem dX10_at_47 : decode cX10_at 47 = .ok (.iconst 0, 1) := by decide +kernel
theorem dX10_at_48 : decode cX10_at 48 = .ok (.ireturn, 1) := by decide +kernel
set_option maxRecDepth 20000 in
theorem ggX10_digests_X10_at0 : GoodIn wsX10_digests wsX10_at0 := goodIn_r _ [6, 7, 8, 9, 10, 11, 12, 13, 14, 15, 16, 17, 18, 19, 20, 21, 22, 23, 24, 25, 26, 27, 28, 29, 30, 31, 32, 33, 34, 35, 36, 37] (by decide +kernel) (by decide +kernel)
set_option maxRecDepth 20000 in
theorem gX10_digests_X10_at0 : GoodIn wsX10_digests (wsV RX10 117 RX10 yX10_at0 wsX10_at0) := goodIn_app (goodIn_of _ (by decide +kernel)) ggX10_digests_X10_at0
theorem dX10_digests_0 : decode cX10_digests 0 = .ok (.lconst 0, 1) := by decide +kernel
theorem dX10_digests_1 : decode cX10_digests 1 = .ok (.lstore_n 2, 1) := by decide +kernel
theorem dX10_digests_2 : decode cX10_digests 2 = .ok (.iconst 0, 1) := by decide +kernel
theorem dX10_digests_3 : decode cX10_digests 3 = .ok (.istore 4, 2) := by decide +kernel
theorem dX10_digests_5 : decode cX10_digests 5 = .ok (.iload 4, 2) := by decide +kernel
theorem dX10_digests_7 : decode cX10_digests 7 = .ok (.aload_n 0, 1) := by decide +kernel
theorem dX10_digests_8 : decode cX10_digests 8 = .ok (.getfield 13, 3) := by decide +kernel
theorem dX10_digests_11 : decode cX10_digests 11 = .ok (.iload_n 1, 1) := by decide +kernel
theorem dX10_digests_12 : decode cX10_digests 12 = .ok (.iaload, 1) := by decide +kernel
theorem dX10_digests_13 : decode cX10_digests 13 = .ok (.if_icmp .ge 27, 3) := by decide +kernel
theorem dX10_digests_16 : decode cX10_digests 16 = .ok (.lload_n 2, 1) := by decide +kernel
theorem dX10_digests_17 : decode cX10_digests 17 = .ok (.iconst 5, 1) := by decide +kernel
theorem dX10_digests_18 : decode cX10_digests 18 = .ok (.lshl, 1) := by decide +kernel
theorem dX10_digests_19 : decode cX10_digests 19 = .ok (.lload_n 2, 1) := by decide +kernel
theorem dX10_digests_20 : decode cX10_digests 20 = .ok (.bipush 59, 2) := by decide +kernel
theorem dX10_digests_22 : decode cX10_digests 22 = .ok (.lushr, 1) := by decide +kernel
theorem dX10_digests_23 : decode cX10_digests 23 = .ok (.lor, 1) := by decide +kernel
theorem dX10_digests_24 : decode cX10_digests 24 = .ok (.aload_n 0, 1) := by decide +kernel
theorem dX10_digests_25 : decode cX10_digests 25 = .ok (.iload_n 1, 1) := by decide +kernel
theorem dX10_digests_26 : decode cX10_digests 26 = .ok (.iload 4, 2) := by decide +kernel
theorem dX10_digests_28 : decode cX10_digests 28 = .ok (.invokevirtual 117, 3) := by decide +kernel
theorem dX10_digests_31 : decode cX10_digests 31 = .ok (.i2l, 1) := by decide +kernel
theorem dX10_digests_32 : decode cX10_digests 32 = .ok (.lxor, 1) := by decide +kernel
theorem dX10_digests_33 : decode cX10_digests 33 = .ok (.lstore_n 2, 1) := by decide +kernel
theorem dX10_digests_34 : decode cX10_digests 34 = .ok (.iinc 4 1, 3) := by decide +kernel
theorem dX10_digests_37 : decode cX10_digests 37 = .ok (.goto (-32), 3) := by decide +kernel
theorem dX10_digests_40 : decode cX10_digests 40 = .ok (.lload_n 2, 1) := by decide +kernel
theorem dX10_digests_41 : decode cX10_digests 41 = .ok (.lreturn, 1) := by decide +kernel
set_option maxRecDepth 20000 in
theorem ggX10_digest_X10_isClient : GoodIn wsX10_digest wsX10_isClient := goodIn_r _ [4, 5, 6, 3, 7] (by decide +kernel) (by decide +kernel)
set_option maxRecDepth 20000 in
theorem gX10_digest_X10_isClient : GoodIn wsX10_digest (va_wsS RX10 103 yX10_isClient wsX10_isClient) := goodIn_app (goodIn_of _ (by decide +kernel)) ggX10_digest_X10_isClient
set_option maxRecDepth 20000 in
theorem ggX10_digest_X10_isFine : GoodIn wsX10_digest wsX10_isFine := goodIn_r _ [11, 12, 23, 24, 25, 26, 27, 28, 29, 30, 31, 32, 33, 34, 35, 36, 37, 38, 39, 40, 41, 42, 43, 44, 45, 46, 47, 48, 49, 50, 51, 52] (by decide +kernel) (by decide +kernel)
set_option maxRecDepth 20000 in
theorem gX10_digest_X10_isFine : GoodIn wsX10_digest (wsV RX10 114 RX10 yX10_isFine wsX10_isFine) := goodIn_app (goodIn_of _ (by decide +kernel)) ggX10_digest_X10_isFine
set_option maxRecDepth 20000 in
theorem ggX10_digest_X10_digests : GoodIn wsX10_digest wsX10_digests := goodIn_r _ [16, 17, 18, 19, 20, 3, 21, 22, 23, 24, 25, 26, 27, 28, 29, 30, 31, 32, 33, 34, 35, 36, 37, 38, 39, 40, 41, 42, 43, 44, 45, 46, 47, 48, 49, 50, 51, 52] (by decide +kernel) (by decide +kernel)
set_option maxRecDepth 20000 in
theorem gX10_digest_X10_digests : GoodIn wsX10_digest (wsV RX10 128 RX10 yX10_digests wsX10_digests) := goodIn_app (goodIn_of _ (by decide +kernel)) ggX10_digest_X10_digests
theorem dX10_digest_0 : decode cX10_digest 0 = .ok (.aload_n 0, 1) := by decide +kernel
theorem dX10_digest_1 : decode cX10_digest 1 = .ok (.iload_n 1, 1) := by decide +kernel
theorem dX10_digest_2 : decode cX10_digest 2 = .ok (.invokestatic 103, 3) := by decide +kernel
theorem dX10_digest_5 : decode cX10_digest 5 = .ok (.ifCond .eq 7, 3) := by decide +kernel
theorem dX10_digest_8 : decode cX10_digest 8 = .ok (.iconst 0, 1) := by decide +kernel
theorem dX10_digest_9 : decode cX10_digest 9 = .ok (.goto 4, 3) := by decide +kernel
theorem dX10_digest_12 : decode cX10_digest 12 = .ok (.iconst 1, 1) := by decide +kernel
theorem dX10_digest_13 : decode cX10_digest 13 = .ok (.invokevirtual 114, 3) := by decide +kernel
theorem dX10_digest_16 : decode cX10_digest 16 = .ok (.ifCond .eq 15, 3) := by decide +kernel
theorem dX10_digest_19 : decode cX10_digest 19 = .ok (.aload_n 0, 1) := by decide +kernel
theorem dX10_digest_20 : decode cX10_digest 20 = .ok (.sipush 240, 3) := by decide +kernel
theorem dX10_digest_23 : decode cX10_digest 23 = .ok (.iload_n 1, 1) := by decide +kernel
theorem dX10_digest_24 : decode cX10_digest 24 = .ok (.iadd, 1) := by decide +kernel
theorem dX10_digest_25 : decode cX10_digest 25 = .ok (.invokevirtual 128, 3) := by decide +kernel
theorem dX10_digest_28 : decode cX10_digest 28 = .ok (.goto 4, 3) := by decide +kernel
theorem dX10_digest_31 : decode cX10_digest 31 = .ok (.lconst 0, 1) := by decide +kernel
theorem dX10_digest_32 : decode cX10_digest 32 = .ok (.lreturn, 1) := by decide +kernel
set_option maxRecDepth 20000 in
theorem ggX10_setMarks_X10_isIn : GoodIn wsX10_setMarks wsX10_isIn := goodIn_r _ [7] (by decide +kernel) (by decide +kernel)
set_option maxRecDepth 20000 in
theorem gX10_setMarks_X10_isIn : GoodIn wsX10_setMarks (va_wsS RX10 99 yX10_isIn wsX10_isIn) := goodIn_app (goodIn_of _ (by decide +kernel)) ggX10_setMarks_X10_isIn
set_option maxRecDepth 20000 in
theorem ggX10_setMarks_X10_isFine : GoodIn wsX10_setMarks wsX10_isFine := goodIn_r _ [11, 12, 13, 14, 15, 16, 17, 18, 19, 20, 21, 22, 23, 24, 25, 26, 27, 28, 29, 30, 31, 32, 33, 34, 35, 36, 37, 38, 39, 40, 41, 42] (by decide +kernel) (by decide +kernel)
set_option maxRecDepth 20000 in
theorem gX10_setMarks_X10_isFine : GoodIn wsX10_setMarks (wsV RX10 114 RX10 yX10_isFine wsX10_isFine) := goodIn_app (goodIn_of _ (by decide +kernel)) ggX10_setMarks_X10_isFine
theorem dX10_setMarks_0 : decode cX10_setMarks 0 = .ok (.aload_n 0, 1) := by decide +kernel
theorem dX10_setMarks_1 : decode cX10_setMarks 1 = .ok (.iload_n 1, 1) := by decide +kernel
theorem dX10_setMarks_2 : decode cX10_setMarks 2 = .ok (.iconst 0, 1) := by decide +kernel
theorem dX10_setMarks_3 : decode cX10_setMarks 3 = .ok (.bipush 8, 2) := by decide +kernel
theorem dX10_setMarks_5 : decode cX10_setMarks 5 = .ok (.invokestatic 99, 3) := by decide +kernel
theorem dX10_setMarks_8 : decode cX10_setMarks 8 = .ok (.ifCond .eq 27, 3) := by decide +kernel
theorem dX10_setMarks_11 : decode cX10_setMarks 11 = .ok (.iload_n 2, 1) := by decide +kernel
theorem dX10_setMarks_12 : decode cX10_setMarks 12 = .ok (.iconst 1, 1) := by decide +kernel
theorem dX10_setMarks_13 : decode cX10_setMarks 13 = .ok (.bipush 16, 2) := by decide +kernel
theorem dX10_setMarks_15 : decode cX10_setMarks 15 = .ok (.invokestatic 99, 3) := by decide +kernel
theorem dX10_setMarks_18 : decode cX10_setMarks 18 = .ok (.ifCond .eq 17, 3) := by decide +kernel
theorem dX10_setMarks_21 : decode cX10_setMarks 21 = .ok (.iload_n 3, 1) := by decide +kernel
theorem dX10_setMarks_22 : decode cX10_setMarks 22 = .ok (.iload_n 2, 1) := by decide +kernel
theorem dX10_setMarks_23 : decode cX10_setMarks 23 = .ok (.bipush 24, 2) := by decide +kernel
theorem dX10_setMarks_25 : decode cX10_setMarks 25 = .ok (.invokestatic 99, 3) := by decide +kernel
theorem dX10_setMarks_28 : decode cX10_setMarks 28 = .ok (.ifCond .eq 7, 3) := by decide +kernel
theorem dX10_setMarks_31 : decode cX10_setMarks 31 = .ok (.iconst 0, 1) := by decide +kernel
theorem dX10_setMarks_32 : decode cX10_setMarks 32 = .ok (.goto 4, 3) := by decide +kernel
theorem dX10_setMarks_35 : decode cX10_setMarks 35 = .ok (.iconst 1, 1) := by decide +kernel
theorem dX10_setMarks_36 : decode cX10_setMarks 36 = .ok (.invokevirtual 114, 3) := by decide +kernel
theorem dX10_setMarks_39 : decode cX10_setMarks 39 = .ok (.ifCond .eq 18, 3) := by decide +kernel
theorem dX10_setMarks_42 : decode cX10_setMarks 42 = .ok (.aload_n 0, 1) := by decide +kernel
theorem dX10_setMarks_43 : decode cX10_setMarks 43 = .ok (.iload_n 1, 1) := by decide +kernel
theorem dX10_setMarks_44 : decode cX10_setMarks 44 = .ok (.putfield 32, 3) := by decide +kernel
theorem dX10_setMarks_47 : decode cX10_setMarks 47 = .ok (.aload_n 0, 1) := by decide +kernel
theorem dX10_setMarks_48 : decode cX10_setMarks 48 = .ok (.iload_n 2, 1) := by decide +kernel
theorem dX10_setMarks_49 : decode cX10_setMarks 49 = .ok (.putfield 36, 3) := by decide +kernel
theorem dX10_setMarks_52 : decode cX10_setMarks 52 = .ok (.aload_n 0, 1) := by decide +kernel
theorem dX10_setMarks_53 : decode cX10_setMarks 53 = .ok (.iload_n 3, 1) := by decide +kernel
theorem dX10_setMarks_54 : decode cX10_setMarks 54 = .ok (.putfield 39, 3) := by decide +kernel
theorem dX10_setMarks_57 : decode cX10_setMarks 57 = .ok (.return_, 1) := by decide +kernel
set_option maxRecDepth 20000 in
theorem ggX10_marks_X10_at0 : GoodIn wsX10_marks wsX10_at0 := goodIn_r _ [8, 9, 10, 11, 12, 13, 14, 15, 16, 17, 18, 19, 20, 21, 22, 23, 24, 25, 26, 27, 28, 29, 30, 31, 32, 33, 34, 35, 36, 37, 38, 39] (by decide +kernel) (by decide +kernel)
set_option maxRecDepth 20000 in
theorem gX10_marks_X10_at0 : GoodIn wsX10_marks (wsV RX10 117 RX10 yX10_at0 wsX10_at0) := goodIn_app (goodIn_of _ (by decide +kernel)) ggX10_marks_X10_at0
theorem dX10_marks_0 : decode cX10_marks 0 = .ok (.iconst 0, 1) := by decide +kernel
theorem dX10_marks_1 : decode cX10_marks 1 = .ok (.istore_n 3, 1) := by decide +kernel
theorem dX10_marks_2 : decode cX10_marks 2 = .ok (.iload_n 2, 1) := by decide +kernel
theorem dX10_marks_3 : decode cX10_marks 3 = .ok (.iconst 3, 1) := by decide +kernel
theorem dX10_marks_4 : decode cX10_marks 4 = .ok (.if_icmp .ge 7, 3) := by decide +kernel
theorem dX10_marks_7 : decode cX10_marks 7 = .ok (.iconst 0, 1) := by decide +kernel
theorem dX10_marks_8 : decode cX10_marks 8 = .ok (.goto 6, 3) := by decide +kernel
theorem dX10_marks_11 : decode cX10_marks 11 = .ok (.iload_n 2, 1) := by decide +kernel
theorem dX10_marks_12 : decode cX10_marks 12 = .ok (.iconst 3, 1) := by decide +kernel
theorem dX10_marks_13 : decode cX10_marks 13 = .ok (.isub, 1) := by decide +kernel
theorem dX10_marks_14 : decode cX10_marks 14 = .ok (.istore 4, 2) := by decide +kernel
theorem dX10_marks_16 : decode cX10_marks 16 = .ok (.iload 4, 2) := by decide +kernel
theorem dX10_marks_18 : decode cX10_marks 18 = .ok (.iload_n 2, 1) := by decide +kernel
theorem dX10_marks_19 : decode cX10_marks 19 = .ok (.if_icmp .gt 35, 3) := by decide +kernel
theorem dX10_marks_22 : decode cX10_marks 22 = .ok (.iload_n 3, 1) := by decide +kernel
theorem dX10_marks_23 : decode cX10_marks 23 = .ok (.iconst 3, 1) := by decide +kernel
theorem dX10_marks_24 : decode cX10_marks 24 = .ok (.ishl, 1) := by decide +kernel
theorem dX10_marks_25 : decode cX10_marks 25 = .ok (.iload_n 3, 1) := by decide +kernel
theorem dX10_marks_26 : decode cX10_marks 26 = .ok (.bipush 13, 2) := by decide +kernel
theorem dX10_marks_28 : decode cX10_marks 28 = .ok (.ishr, 1) := by decide +kernel
theorem dX10_marks_29 : decode cX10_marks 29 = .ok (.ior, 1) := by decide +kernel
theorem dX10_marks_30 : decode cX10_marks 30 = .ok (.ldc 132, 2) := by decide +kernel
theorem dX10_marks_32 : decode cX10_marks 32 = .ok (.iand, 1) := by decide +kernel
theorem dX10_marks_33 : decode cX10_marks 33 = .ok (.ldc 133, 2) := by decide +kernel
theorem dX10_marks_35 : decode cX10_marks 35 = .ok (.aload_n 0, 1) := by decide +kernel
theorem dX10_marks_36 : decode cX10_marks 36 = .ok (.iload_n 1, 1) := by decide +kernel
theorem dX10_marks_37 : decode cX10_marks 37 = .ok (.iload 4, 2) := by decide +kernel
theorem dX10_marks_39 : decode cX10_marks 39 = .ok (.invokevirtual 117, 3) := by decide +kernel
theorem dX10_marks_42 : decode cX10_marks 42 = .ok (.imul, 1) := by decide +kernel
theorem dX10_marks_43 : decode cX10_marks 43 = .ok (.ldc 134, 2) := by decide +kernel
theorem dX10_marks_45 : decode cX10_marks 45 = .ok (.irem, 1) := by decide +kernel
theorem dX10_marks_46 : decode cX10_marks 46 = .ok (.ixor, 1) := by decide +kernel
theorem dX10_marks_47 : decode cX10_marks 47 = .ok (.istore_n 3, 1) := by decide +kernel
theorem dX10_marks_48 : decode cX10_marks 48 = .ok (.iinc 4 1, 3) := by decide +kernel
theorem dX10_marks_51 : decode cX10_marks 51 = .ok (.goto (-35), 3) := by decide +kernel
theorem dX10_marks_54 : decode cX10_marks 54 = .ok (.iload_n 3, 1) := by decide +kernel
theorem dX10_marks_55 : decode cX10_marks 55 = .ok (.ireturn, 1) := by decide +kernel
set_option maxRecDepth 20000 in
theorem ggX10_mark_X10_isClient : GoodIn wsX10_mark wsX10_isClient := goodIn_r _ [4, 5, 6, 3, 7] (by decide +kernel) (by decide +kernel)
set_option maxRecDepth 20000 in
theorem gX10_mark_X10_isClient : GoodIn wsX10_mark (va_wsS RX10 103 yX10_isClient wsX10_isClient) := goodIn_app (goodIn_of _ (by decide +kernel)) ggX10_mark_X10_isClient
set_option maxRecDepth 20000 in
theorem ggX10_mark_X10_isPlace : GoodIn wsX10_mark wsX10_isPlace := goodIn_r _ [11, 12, 13, 14, 3, 15, 16, 5, 6, 7, 34, 35, 36, 37, 38, 39, 40, 41, 42, 43, 44, 45, 46, 47, 48, 49, 50, 51, 52, 53, 54, 55, 56, 57, 58, 59, 60, 61, 62, 63] (by decide +kernel) (by decide +kernel)
set_option maxRecDepth 20000 in
theorem gX10_mark_X10_isPlace : GoodIn wsX10_mark (wsV RX10 124 RX10 yX10_isPlace wsX10_isPlace) := goodIn_app (goodIn_of _ (by decide +kernel)) ggX10_mark_X10_isPlace
set_option maxRecDepth 20000 in
theorem ggX10_mark_X10_isFine : GoodIn wsX10_mark wsX10_isFine := goodIn_r _ [20, 21, 34, 35, 36, 37, 38, 39, 40, 41, 42, 43, 44, 45, 46, 47, 48, 49, 50, 51, 52, 53, 54, 55, 56, 57, 58, 59, 60, 61, 62, 63] (by decide +kernel) (by decide +kernel)
set_option maxRecDepth 20000 in
theorem gX10_mark_X10_isFine : GoodIn wsX10_mark (wsV RX10 114 RX10 yX10_isFine wsX10_isFine) := goodIn_app (goodIn_of _ (by decide +kernel)) ggX10_mark_X10_isFine
set_option maxRecDepth 20000 in
theorem ggX10_mark_X10_marks : GoodIn wsX10_mark wsX10_marks := goodIn_r _ [25, 26, 27, 28, 29, 30, 31, 3, 32, 33, 34, 35, 36, 37, 38, 39, 40, 41, 42, 43, 44, 45, 46, 47, 48, 49, 50, 51, 52, 53, 54, 55, 56, 57, 58, 59, 60, 61, 62, 63] (by decide +kernel) (by decide +kernel)
set_option maxRecDepth 20000 in
theorem gX10_mark_X10_marks : GoodIn wsX10_mark (wsV RX10 135 RX10 yX10_marks wsX10_marks) := goodIn_app (goodIn_of _ (by decide +kernel)) ggX10_mark_X10_marks
theorem dX10_mark_0 : decode cX10_mark 0 = .ok (.iload_n 1, 1) := by decide +kernel
theorem dX10_mark_1 : decode cX10_mark 1 = .ok (.invokestatic 103, 3) := by decide +kernel
theorem dX10_mark_4 : decode cX10_mark 4 = .ok (.istore_n 3, 1) := by decide +kernel
theorem dX10_mark_5 : decode cX10_mark 5 = .ok (.aload_n 0, 1) := by decide +kernel
theorem dX10_mark_6 : decode cX10_mark 6 = .ok (.iload_n 3, 1) := by decide +kernel
theorem dX10_mark_7 : decode cX10_mark 7 = .ok (.ifCond .ne 7, 3) := by decide +kernel
theorem dX10_mark_10 : decode cX10_mark 10 = .ok (.iconst 1, 1) := by decide +kernel
theorem dX10_mark_11 : decode cX10_mark 11 = .ok (.goto 17, 3) := by decide +kernel
theorem dX10_mark_14 : decode cX10_mark 14 = .ok (.aload_n 0, 1) := by decide +kernel
theorem dX10_mark_15 : decode cX10_mark 15 = .ok (.iload_n 1, 1) := by decide +kernel
theorem dX10_mark_16 : decode cX10_mark 16 = .ok (.iload_n 2, 1) := by decide +kernel
theorem dX10_mark_17 : decode cX10_mark 17 = .ok (.invokevirtual 124, 3) := by decide +kernel
theorem dX10_mark_20 : decode cX10_mark 20 = .ok (.ifCond .ne 7, 3) := by decide +kernel
theorem dX10_mark_23 : decode cX10_mark 23 = .ok (.iconst 2, 1) := by decide +kernel
theorem dX10_mark_24 : decode cX10_mark 24 = .ok (.goto 4, 3) := by decide +kernel
theorem dX10_mark_27 : decode cX10_mark 27 = .ok (.iconst 0, 1) := by decide +kernel
theorem dX10_mark_28 : decode cX10_mark 28 = .ok (.invokevirtual 114, 3) := by decide +kernel
theorem dX10_mark_31 : decode cX10_mark 31 = .ok (.ifCond .eq 16, 3) := by decide +kernel
theorem dX10_mark_34 : decode cX10_mark 34 = .ok (.aload_n 0, 1) := by decide +kernel
theorem dX10_mark_35 : decode cX10_mark 35 = .ok (.sipush 240, 3) := by decide +kernel
theorem dX10_mark_38 : decode cX10_mark 38 = .ok (.iload_n 1, 1) := by decide +kernel
theorem dX10_mark_39 : decode cX10_mark 39 = .ok (.iadd, 1) := by decide +kernel
theorem dX10_mark_40 : decode cX10_mark 40 = .ok (.iload_n 2, 1) := by decide +kernel
theorem dX10_mark_41 : decode cX10_mark 41 = .ok (.invokevirtual 135, 3) := by decide +kernel
theorem dX10_mark_44 : decode cX10_mark 44 = .ok (.goto 4, 3) := by decide +kernel
theorem dX10_mark_47 : decode cX10_mark 47 = .ok (.iconst 0, 1) := by decide +kernel
theorem dX10_mark_48 : decode cX10_mark 48 = .ok (.ireturn, 1) := by decide +kernel
set_option maxRecDepth 20000 in
theorem ggX10_cuts_X10_marks : GoodIn wsX10_cuts wsX10_marks := goodIn_r _ [11, 12, 13, 14, 15, 16, 17, 10, 18, 19, 20, 21, 22, 23, 24, 25, 26, 27, 28, 29, 30, 31, 32, 33, 34, 35, 36, 37, 38, 39, 40, 41, 42, 43, 44, 45, 46, 47, 48, 49] (by decide +kernel) (by decide +kernel)
set_option maxRecDepth 20000 in
theorem gX10_cuts_X10_marks : GoodIn wsX10_cuts (wsV RX10 135 RX10 yX10_marks wsX10_marks) := goodIn_app (goodIn_of _ (by decide +kernel)) ggX10_cuts_X10_marks
theorem dX10_cuts_0 : decode cX10_cuts 0 = .ok (.sipush 240, 3) := by decide +kernel
theorem dX10_cuts_3 : decode cX10_cuts 3 = .ok (.iload_n 1, 1) := by decide +kernel
theorem dX10_cuts_4 : decode cX10_cuts 4 = .ok (.iadd, 1) := by decide +kernel
theorem dX10_cuts_5 : decode cX10_cuts 5 = .ok (.istore_n 2, 1) := by decide +kernel
theorem dX10_cuts_6 : decode cX10_cuts 6 = .ok (.iconst 0, 1) := by decide +kernel
theorem dX10_cuts_7 : decode cX10_cuts 7 = .ok (.istore_n 3, 1) := by decide +kernel
theorem dX10_cuts_8 : decode cX10_cuts 8 = .ok (.aload_n 0, 1) := by decide +kernel
theorem dX10_cuts_9 : decode cX10_cuts 9 = .ok (.getfield 19, 3) := by decide +kernel
theorem dX10_cuts_12 : decode cX10_cuts 12 = .ok (.iload_n 2, 1) := by decide +kernel
theorem dX10_cuts_13 : decode cX10_cuts 13 = .ok (.iconst 0, 1) := by decide +kernel
theorem dX10_cuts_14 : decode cX10_cuts 14 = .ok (.iastore, 1) := by decide +kernel
theorem dX10_cuts_15 : decode cX10_cuts 15 = .ok (.iconst 0, 1) := by decide +kernel
theorem dX10_cuts_16 : decode cX10_cuts 16 = .ok (.istore 4, 2) := by decide +kernel
theorem dX10_cuts_18 : decode cX10_cuts 18 = .ok (.iload 4, 2) := by decide +kernel
theorem dX10_cuts_20 : decode cX10_cuts 20 = .ok (.aload_n 0, 1) := by decide +kernel
theorem dX10_cuts_21 : decode cX10_cuts 21 = .ok (.getfield 13, 3) := by decide +kernel
theorem dX10_cuts_24 : decode cX10_cuts 24 = .ok (.iload_n 2, 1) := by decide +kernel
theorem dX10_cuts_25 : decode cX10_cuts 25 = .ok (.iaload, 1) := by decide +kernel
theorem dX10_cuts_26 : decode cX10_cuts 26 = .ok (.if_icmp .ge 114, 3) := by decide +kernel
theorem dX10_cuts_29 : decode cX10_cuts 29 = .ok (.iload 4, 2) := by decide +kernel
theorem dX10_cuts_31 : decode cX10_cuts 31 = .ok (.iconst 1, 1) := by decide +kernel
theorem dX10_cuts_32 : decode cX10_cuts 32 = .ok (.iadd, 1) := by decide +kernel
theorem dX10_cuts_33 : decode cX10_cuts 33 = .ok (.iload_n 3, 1) := by decide +kernel
theorem dX10_cuts_34 : decode cX10_cuts 34 = .ok (.isub, 1) := by decide +kernel
theorem dX10_cuts_35 : decode cX10_cuts 35 = .ok (.istore 5, 2) := by decide +kernel
theorem dX10_cuts_37 : decode cX10_cuts 37 = .ok (.iload 5, 2) := by decide +kernel
theorem dX10_cuts_39 : decode cX10_cuts 39 = .ok (.aload_n 0, 1) := by decide +kernel
theorem dX10_cuts_40 : decode cX10_cuts 40 = .ok (.getfield 36, 3) := by decide +kernel
theorem dX10_cuts_43 : decode cX10_cuts 43 = .ok (.if_icmp .lt 26, 3) := by decide +kernel
theorem dX10_cuts_46 : decode cX10_cuts 46 = .ok (.aload_n 0, 1) := by decide +kernel
theorem dX10_cuts_47 : decode cX10_cuts 47 = .ok (.iload_n 2, 1) := by decide +kernel
theorem dX10_cuts_48 : decode cX10_cuts 48 = .ok (.iload 4, 2) := by decide +kernel
theorem dX10_cuts_50 : decode cX10_cuts 50 = .ok (.invokevirtual 135, 3) := by decide +kernel
theorem dX10_cuts_53 : decode cX10_cuts 53 = .ok (.iconst 1, 1) := by decide +kernel
theorem dX10_cuts_54 : decode cX10_cuts 54 = .ok (.aload_n 0, 1) := by decide +kernel
theorem dX10_cuts_55 : decode cX10_cuts 55 = .ok (.getfield 32, 3) := by decide +kernel
theorem dX10_cuts_58 : decode cX10_cuts 58 = .ok (.ishl, 1) := by decide +kernel
theorem dX10_cuts_59 : decode cX10_cuts 59 = .ok (.iconst 1, 1) := by decide +kernel
theorem dX10_cuts_60 : decode cX10_cuts 60 = .ok (.isub, 1) := by decide +kernel
theorem dX10_cuts_61 : decode cX10_cuts 61 = .ok (.iand, 1) := by decide +kernel
theorem dX10_cuts_62 : decode cX10_cuts 62 = .ok (.ifCond .ne 7, 3) := by decide +kernel
theorem dX10_cuts_65 : decode cX10_cuts 65 = .ok (.iconst 1, 1) := by decide +kernel
theorem dX10_cuts_66 : decode cX10_cuts 66 = .ok (.goto 4, 3) := by decide +kernel
theorem dX10_cuts_69 : decode cX10_cuts 69 = .ok (.iconst 0, 1) := by decide +kernel
theorem dX10_cuts_70 : decode cX10_cuts 70 = .ok (.istore 6, 2) := by decide +kernel
theorem dX10_cuts_72 : decode cX10_cuts 72 = .ok (.iload 4, 2) := by decide +kernel
theorem dX10_cuts_74 : decode cX10_cuts 74 = .ok (.iconst 1, 1) := by decide +kernel
theorem dX10_cuts_75 : decode cX10_cuts 75 = .ok (.iadd, 1) := by decide +kernel
theorem dX10_cuts_76 : decode cX10_cuts 76 = .ok (.aload_n 0, 1) := by decide +kernel
theorem dX10_cuts_77 : decode cX10_cuts 77 = .ok (.getfield 13, 3) := by decide +kernel
theorem dX10_cuts_80 : decode cX10_cuts 80 = .ok (.iload_n 2, 1) := by decide +kernel
theorem dX10_cuts_81 : decode cX10_cuts 81 = .ok (.iaload, 1) := by decide +kernel
theorem dX10_cuts_82 : decode cX10_cuts 82 = .ok (.if_icmp .eq 17, 3) := by decide +kernel
theorem dX10_cuts_85 : decode cX10_cuts 85 = .ok (.iload 5, 2) := by decide +kernel
theorem dX10_cuts_87 : decode cX10_cuts 87 = .ok (.aload_n 0, 1) := by decide +kernel
theorem dX10_cuts_88 : decode cX10_cuts 88 = .ok (.getfield 39, 3) := by decide +kernel
theorem dX10_cuts_91 : decode cX10_cuts 91 = .ok (.if_icmp .eq 8, 3) := by decide +kernel
theorem dX10_cuts_94 : decode cX10_cuts 94 = .ok (.iload 6, 2) := by decide +kernel
theorem dX10_cuts_96 : decode cX10_cuts 96 = .ok (.ifCond .eq 38, 3) := by decide +kernel
theorem dX10_cuts_99 : decode cX10_cuts 99 = .ok (.aload_n 0, 1) := by decide +kernel
theorem dX10_cuts_100 : decode cX10_cuts 100 = .ok (.getfield 16, 3) := by decide +kernel
theorem dX10_cuts_103 : decode cX10_cuts 103 = .ok (.bipush 48, 2) := by decide +kernel
theorem dX10_cuts_105 : decode cX10_cuts 105 = .ok (.iload_n 2, 1) := by decide +kernel
theorem dX10_cuts_106 : decode cX10_cuts 106 = .ok (.imul, 1) := by decide +kernel
theorem dX10_cuts_107 : decode cX10_cuts 107 = .ok (.aload_n 0, 1) := by decide +kernel
theorem dX10_cuts_108 : decode cX10_cuts 108 = .ok (.getfield 19, 3) := by decide +kernel
theorem dX10_cuts_111 : decode cX10_cuts 111 = .ok (.iload_n 2, 1) := by decide +kernel
theorem dX10_cuts_112 : decode cX10_cuts 112 = .ok (.iaload, 1) := by decide +kernel
theorem dX10_cuts_113 : decode cX10_cuts 113 = .ok (.iadd, 1) := by decide +kernel
theorem dX10_cuts_114 : decode cX10_cuts 114 = .ok (.iload 4, 2) := by decide +kernel
theorem dX10_cuts_116 : decode cX10_cuts 116 = .ok (.iconst 1, 1) := by decide +kernel
theorem dX10_cuts_117 : decode cX10_cuts 117 = .ok (.iadd, 1) := by decide +kernel
theorem dX10_cuts_118 : decode cX10_cuts 118 = .ok (.iastore, 1) := by decide +kernel
theorem dX10_cuts_119 : decode cX10_cuts 119 = .ok (.aload_n 0, 1) := by decide +kernel
theorem dX10_cuts_120 : decode cX10_cuts 120 = .ok (.getfield 19, 3) := by decide +kernel
theorem dX10_cuts_123 : decode cX10_cuts 123 = .ok (.iload_n 2, 1) := by decide +kernel
theorem dX10_cuts_124 : decode cX10_cuts 124 = .ok (.dup2, 1) := by decide +kernel
theorem dX10_cuts_125 : decode cX10_cuts 125 = .ok (.iaload, 1) := by decide +kernel
theorem dX10_cuts_126 : decode cX10_cuts 126 = .ok (.iconst 1, 1) := by decide +kernel
theorem dX10_cuts_127 : decode cX10_cuts 127 = .ok (.iadd, 1) := by decide +kernel
theorem dX10_cuts_128 : decode cX10_cuts 128 = .ok (.iastore, 1) := by decide +kernel
theorem dX10_cuts_129 : decode cX10_cuts 129 = .ok (.iload 4, 2) := by decide +kernel
theorem dX10_cuts_131 : decode cX10_cuts 131 = .ok (.iconst 1, 1) := by decide +kernel
theorem dX10_cuts_132 : decode cX10_cuts 132 = .ok (.iadd, 1) := by decide +kernel
theorem dX10_cuts_133 : decode cX10_cuts 133 = .ok (.istore_n 3, 1) := by decide +kernel
theorem dX10_cuts_134 : decode cX10_cuts 134 = .ok (.iinc 4 1, 3) := by decide +kernel
theorem dX10_cuts_137 : decode cX10_cuts 137 = .ok (.goto (-119), 3) := by decide +kernel
theorem dX10_cuts_140 : decode cX10_cuts 140 = .ok (.iload_n 2, 1) := by decide +kernel
theorem dX10_cuts_141 : decode cX10_cuts 141 = .ok (.ireturn, 1) := by decide +kernel
set_option maxRecDepth 20000 in
theorem ggX10_chunks_X10_isClient : GoodIn wsX10_chunks wsX10_isClient := goodIn_r _ [5, 6, 7, 4, 8] (by decide +kernel) (by decide +kernel)
set_option maxRecDepth 20000 in
theorem gX10_chunks_X10_isClient : GoodIn wsX10_chunks (va_wsS RX10 103 yX10_isClient wsX10_isClient) := goodIn_app (goodIn_of _ (by decide +kernel)) ggX10_chunks_X10_isClient
set_option maxRecDepth 20000 in
theorem ggX10_chunks_X10_isFine : GoodIn wsX10_chunks wsX10_isFine := goodIn_r _ [12, 13, 35, 36, 37, 38, 39, 40, 41, 42, 43, 44, 45, 46, 47, 48, 49, 50, 51, 52, 53, 54, 55, 56, 57, 58, 59, 60, 61, 62, 63, 64] (by decide +kernel) (by decide +kernel)
set_option maxRecDepth 20000 in
theorem gX10_chunks_X10_isFine : GoodIn wsX10_chunks (wsV RX10 114 RX10 yX10_isFine wsX10_isFine) := goodIn_app (goodIn_of _ (by decide +kernel)) ggX10_chunks_X10_isFine
set_option maxRecDepth 20000 in
theorem ggX10_chunks_X10_cuts : GoodIn wsX10_chunks wsX10_cuts := goodIn_r _ [17, 1, 18, 19, 20, 21, 22, 23, 24, 25, 4, 26, 27, 28, 29, 30, 31, 32, 33, 34, 35, 36, 37, 38, 39, 40, 41, 42, 43, 44, 45, 46, 47, 48, 49, 50, 51, 52, 53, 54, 55, 56, 57, 58, 59, 60, 61, 62, 63, 64] (by decide +kernel) (by decide +kernel)
set_option maxRecDepth 20000 in
theorem gX10_chunks_X10_cuts : GoodIn wsX10_chunks (wsV RX10 138 RX10 yX10_cuts wsX10_cuts) := goodIn_app (goodIn_of _ (by decide +kernel)) ggX10_chunks_X10_cuts
theorem dX10_chunks_0 : decode cX10_chunks 0 = .ok (.aload_n 0, 1) := by decide +kernel
theorem dX10_chunks_1 : decode cX10_chunks 1 = .ok (.iload_n 1, 1) := by decide +kernel
theorem dX10_chunks_2 : decode cX10_chunks 2 = .ok (.invokestatic 103, 3) := by decide +kernel
theorem dX10_chunks_5 : decode cX10_chunks 5 = .ok (.ifCond .eq 7, 3) := by decide +kernel
theorem dX10_chunks_8 : decode cX10_chunks 8 = .ok (.iconst 0, 1) := by decide +kernel
theorem dX10_chunks_9 : decode cX10_chunks 9 = .ok (.goto 4, 3) := by decide +kernel
theorem dX10_chunks_12 : decode cX10_chunks 12 = .ok (.iconst 1, 1) := by decide +kernel
theorem dX10_chunks_13 : decode cX10_chunks 13 = .ok (.invokevirtual 114, 3) := by decide +kernel
theorem dX10_chunks_16 : decode cX10_chunks 16 = .ok (.ifCond .eq 16, 3) := by decide +kernel
theorem dX10_chunks_19 : decode cX10_chunks 19 = .ok (.aload_n 0, 1) := by decide +kernel
theorem dX10_chunks_20 : decode cX10_chunks 20 = .ok (.getfield 19, 3) := by decide +kernel
theorem dX10_chunks_23 : decode cX10_chunks 23 = .ok (.aload_n 0, 1) := by decide +kernel
theorem dX10_chunks_24 : decode cX10_chunks 24 = .ok (.iload_n 1, 1) := by decide +kernel
theorem dX10_chunks_25 : decode cX10_chunks 25 = .ok (.invokevirtual 138, 3) := by decide +kernel
theorem dX10_chunks_28 : decode cX10_chunks 28 = .ok (.iaload, 1) := by decide +kernel
theorem dX10_chunks_29 : decode cX10_chunks 29 = .ok (.goto 4, 3) := by decide +kernel
theorem dX10_chunks_32 : decode cX10_chunks 32 = .ok (.iconst 0, 1) := by decide +kernel
theorem dX10_chunks_33 : decode cX10_chunks 33 = .ok (.ireturn, 1) := by decide +kernel
set_option maxRecDepth 20000 in
theorem ggX10_end_X10_isClient : GoodIn wsX10_end wsX10_isClient := goodIn_r _ [6, 7, 8, 5, 9] (by decide +kernel) (by decide +kernel)
set_option maxRecDepth 20000 in
theorem gX10_end_X10_isClient : GoodIn wsX10_end (va_wsS RX10 103 yX10_isClient wsX10_isClient) := goodIn_app (goodIn_of _ (by decide +kernel)) ggX10_end_X10_isClient
set_option maxRecDepth 20000 in
theorem ggX10_end_X10_cuts : GoodIn wsX10_end wsX10_cuts := goodIn_r _ [13, 1, 14, 15, 16, 17, 2, 18, 19, 20, 5, 21, 22, 23, 24, 25, 26, 27, 28, 29, 35, 36, 37, 38, 39, 40, 41, 42, 43, 44, 45, 46, 47, 48, 49, 50, 51, 52, 53, 54, 55, 56, 57, 58, 59, 60, 61, 62, 63, 64] (by decide +kernel) (by decide +kernel)
set_option maxRecDepth 20000 in
theorem gX10_end_X10_cuts : GoodIn wsX10_end (wsV RX10 138 RX10 yX10_cuts wsX10_cuts) := goodIn_app (goodIn_of _ (by decide +kernel)) ggX10_end_X10_cuts
set_option maxRecDepth 20000 in
theorem ggX10_end_X10_isIn : GoodIn wsX10_end wsX10_isIn := goodIn_r _ [9] (by decide +kernel) (by decide +kernel)
set_option maxRecDepth 20000 in
theorem gX10_end_X10_isIn : GoodIn wsX10_end (va_wsS RX10 99 yX10_isIn wsX10_isIn) := goodIn_app (goodIn_of _ (by decide +kernel)) ggX10_end_X10_isIn
set_option maxRecDepth 20000 in
theorem ggX10_end_X10_isFine : GoodIn wsX10_end wsX10_isFine := goodIn_r _ [33, 34, 35, 36, 37, 38, 39, 40, 41, 42, 43, 44, 45, 46, 47, 48, 49, 50, 51, 52, 53, 54, 55, 56, 57, 58, 59, 60, 61, 62, 63, 64] (by decide +kernel) (by decide +kernel)
set_option maxRecDepth 20000 in
theorem gX10_end_X10_isFine : GoodIn wsX10_end (wsV RX10 114 RX10 yX10_isFine wsX10_isFine) := goodIn_app (goodIn_of _ (by decide +kernel)) ggX10_end_X10_isFine
theorem dX10_end_0 : decode cX10_end 0 = .ok (.iload_n 1, 1) := by decide +kernel
theorem dX10_end_1 : decode cX10_end 1 = .ok (.invokestatic 103, 3) := by decide +kernel
theorem dX10_end_4 : decode cX10_end 4 = .ok (.istore_n 3, 1) := by decide +kernel
theorem dX10_end_5 : decode cX10_end 5 = .ok (.iload_n 3, 1) := by decide +kernel
theorem dX10_end_6 : decode cX10_end 6 = .ok (.ifCond .eq 11, 3) := by decide +kernel
theorem dX10_end_9 : decode cX10_end 9 = .ok (.aload_n 0, 1) := by decide +kernel
theorem dX10_end_10 : decode cX10_end 10 = .ok (.iload_n 1, 1) := by decide +kernel
theorem dX10_end_11 : decode cX10_end 11 = .ok (.invokevirtual 138, 3) := by decide +kernel
theorem dX10_end_14 : decode cX10_end 14 = .ok (.goto 4, 3) := by decide +kernel
theorem dX10_end_17 : decode cX10_end 17 = .ok (.iconst 0, 1) := by decide +kernel
theorem dX10_end_18 : decode cX10_end 18 = .ok (.istore 4, 2) := by decide +kernel
theorem dX10_end_20 : decode cX10_end 20 = .ok (.aload_n 0, 1) := by decide +kernel
theorem dX10_end_21 : decode cX10_end 21 = .ok (.iload_n 3, 1) := by decide +kernel
theorem dX10_end_22 : decode cX10_end 22 = .ok (.ifCond .ne 7, 3) := by decide +kernel
theorem dX10_end_25 : decode cX10_end 25 = .ok (.iconst 1, 1) := by decide +kernel
theorem dX10_end_26 : decode cX10_end 26 = .ok (.goto 25, 3) := by decide +kernel
theorem dX10_end_29 : decode cX10_end 29 = .ok (.iload_n 2, 1) := by decide +kernel
theorem dX10_end_30 : decode cX10_end 30 = .ok (.iconst 0, 1) := by decide +kernel
theorem dX10_end_31 : decode cX10_end 31 = .ok (.aload_n 0, 1) := by decide +kernel
theorem dX10_end_32 : decode cX10_end 32 = .ok (.getfield 19, 3) := by decide +kernel
theorem dX10_end_35 : decode cX10_end 35 = .ok (.iload 4, 2) := by decide +kernel
theorem dX10_end_37 : decode cX10_end 37 = .ok (.iaload, 1) := by decide +kernel
theorem dX10_end_38 : decode cX10_end 38 = .ok (.iconst 1, 1) := by decide +kernel
theorem dX10_end_39 : decode cX10_end 39 = .ok (.isub, 1) := by decide +kernel
theorem dX10_end_40 : decode cX10_end 40 = .ok (.invokestatic 99, 3) := by decide +kernel
theorem dX10_end_43 : decode cX10_end 43 = .ok (.ifCond .ne 7, 3) := by decide +kernel
theorem dX10_end_46 : decode cX10_end 46 = .ok (.iconst 2, 1) := by decide +kernel
theorem dX10_end_47 : decode cX10_end 47 = .ok (.goto 4, 3) := by decide +kernel
theorem dX10_end_50 : decode cX10_end 50 = .ok (.iconst 0, 1) := by decide +kernel
theorem dX10_end_51 : decode cX10_end 51 = .ok (.invokevirtual 114, 3) := by decide +kernel
theorem dX10_end_54 : decode cX10_end 54 = .ok (.ifCond .eq 18, 3) := by decide +kernel
theorem dX10_end_57 : decode cX10_end 57 = .ok (.aload_n 0, 1) := by decide +kernel
theorem dX10_end_58 : decode cX10_end 58 = .ok (.getfield 16, 3) := by decide +kernel
theorem dX10_end_61 : decode cX10_end 61 = .ok (.bipush 48, 2) := by decide +kernel
theorem dX10_end_63 : decode cX10_end 63 = .ok (.iload 4, 2) := by decide +kernel
theorem dX10_end_65 : decode cX10_end 65 = .ok (.imul, 1) := by decide +kernel
theorem dX10_end_66 : decode cX10_end 66 = .ok (.iload_n 2, 1) := by decide +kernel
theorem dX10_end_67 : decode cX10_end 67 = .ok (.iadd, 1) := by decide +kernel
theorem dX10_end_68 : decode cX10_end 68 = .ok (.iaload, 1) := by decide +kernel
theorem dX10_end_69 : decode cX10_end 69 = .ok (.goto 4, 3) := by decide +kernel
theorem dX10_end_72 : decode cX10_end 72 = .ok (.iconst 0, 1) := by decide +kernel
theorem dX10_end_73 : decode cX10_end 73 = .ok (.ireturn, 1) := by decide +kernel
theorem dX10_begins_0 : decode cX10_begins 0 = .ok (.iload_n 2, 1) := by decide +kernel
theorem dX10_begins_1 : decode cX10_begins 1 = .ok (.ifCond .ne 7, 3) := by decide +kernel
theorem dX10_begins_4 : decode cX10_begins 4 = .ok (.iconst 0, 1) := by decide +kernel
theorem dX10_begins_5 : decode cX10_begins 5 = .ok (.goto 16, 3) := by decide +kernel
theorem dX10_begins_8 : decode cX10_begins 8 = .ok (.aload_n 0, 1) := by decide +kernel
theorem dX10_begins_9 : decode cX10_begins 9 = .ok (.getfield 16, 3) := by decide +kernel
theorem dX10_begins_12 : decode cX10_begins 12 = .ok (.bipush 48, 2) := by decide +kernel
theorem dX10_begins_14 : decode cX10_begins 14 = .ok (.iload_n 1, 1) := by decide +kernel
theorem dX10_begins_15 : decode cX10_begins 15 = .ok (.imul, 1) := by decide +kernel
theorem dX10_begins_16 : decode cX10_begins 16 = .ok (.iload_n 2, 1) := by decide +kernel
theorem dX10_begins_17 : decode cX10_begins 17 = .ok (.iadd, 1) := by decide +kernel
theorem dX10_begins_18 : decode cX10_begins 18 = .ok (.iconst 1, 1) := by decide +kernel
theorem dX10_begins_19 : decode cX10_begins 19 = .ok (.isub, 1) := by decide +kernel
theorem dX10_begins_20 : decode cX10_begins 20 = .ok (.iaload, 1) := by decide +kernel
theorem dX10_begins_21 : decode cX10_begins 21 = .ok (.ireturn, 1) := by decide +kernel
set_option maxRecDepth 20000 in
theorem ggX10_bytesOf_X10_begins : GoodIn wsX10_bytesOf wsX10_begins := goodIn_r _ [6, 1, 7, 8, 9, 10, 11, 12, 13, 14, 15, 16, 17, 18, 19, 20, 21, 22, 23, 24, 25, 26, 27, 28, 29, 30, 31, 32, 33, 34, 35, 36] (by decide +kernel) (by decide +kernel)
set_option maxRecDepth 20000 in
theorem gX10_bytesOf_X10_begins : GoodIn wsX10_bytesOf (wsV RX10 141 RX10 yX10_begins wsX10_begins) := goodIn_app (goodIn_of _ (by decide +kernel)) ggX10_bytesOf_X10_begins
theorem dX10_bytesOf_0 : decode cX10_bytesOf 0 = .ok (.aload_n 0, 1) := by decide +kernel
theorem dX10_bytesOf_1 : decode cX10_bytesOf 1 = .ok (.getfield 16, 3) := by decide +kernel
theorem dX10_bytesOf_4 : decode cX10_bytesOf 4 = .ok (.bipush 48, 2) := by decide +kernel
theorem dX10_bytesOf_6 : decode cX10_bytesOf 6 = .ok (.iload_n 1, 1) := by decide +kernel
theorem dX10_bytesOf_7 : decode cX10_bytesOf 7 = .ok (.imul, 1) := by decide +kernel
theorem dX10_bytesOf_8 : decode cX10_bytesOf 8 = .ok (.iload_n 2, 1) := by decide +kernel
theorem dX10_bytesOf_9 : decode cX10_bytesOf 9 = .ok (.iadd, 1) := by decide +kernel
theorem dX10_bytesOf_10 : decode cX10_bytesOf 10 = .ok (.iaload, 1) := by decide +kernel
theorem dX10_bytesOf_11 : decode cX10_bytesOf 11 = .ok (.aload_n 0, 1) := by decide +kernel
theorem dX10_bytesOf_12 : decode cX10_bytesOf 12 = .ok (.iload_n 1, 1) := by decide +kernel
theorem dX10_bytesOf_13 : decode cX10_bytesOf 13 = .ok (.iload_n 2, 1) := by decide +kernel
theorem dX10_bytesOf_14 : decode cX10_bytesOf 14 = .ok (.invokevirtual 141, 3) := by decide +kernel
theorem dX10_bytesOf_17 : decode cX10_bytesOf 17 = .ok (.isub, 1) := by decide +kernel
theorem dX10_bytesOf_18 : decode cX10_bytesOf 18 = .ok (.ireturn, 1) := by decide +kernel
set_option maxRecDepth 20000 in
theorem ggX10_isSame_X10_bytesOf : GoodIn wsX10_isSame wsX10_bytesOf := goodIn_r _ [5, 6, 7, 8, 9, 4, 10, 16, 17, 18, 19, 20, 21, 22, 23, 24, 25, 26, 27, 28, 29, 30, 31, 32, 33, 34, 35, 36, 37, 38, 39, 40, 41, 42, 43, 44, 45] (by decide +kernel) (by decide +kernel)
set_option maxRecDepth 20000 in
theorem gX10_isSame_X10_bytesOf : GoodIn wsX10_isSame (wsV RX10 144 RX10 yX10_bytesOf wsX10_bytesOf) := goodIn_app (goodIn_of _ (by decide +kernel)) ggX10_isSame_X10_bytesOf
set_option maxRecDepth 20000 in
theorem ggX10_isSame_X10_begins : GoodIn wsX10_isSame wsX10_begins := goodIn_r _ [10, 6, 16, 17, 18, 19, 20, 21, 22, 23, 24, 25, 26, 27, 28, 29, 30, 31, 32, 33, 34, 35, 36, 37, 38, 39, 40, 41, 42, 43, 44, 45] (by decide +kernel) (by decide +kernel)
set_option maxRecDepth 20000 in
theorem gX10_isSame_X10_begins : GoodIn wsX10_isSame (wsV RX10 141 RX10 yX10_begins wsX10_begins) := goodIn_app (goodIn_of _ (by decide +kernel)) ggX10_isSame_X10_begins
set_option maxRecDepth 20000 in
theorem ggX10_isSame_X10_at0 : GoodIn wsX10_isSame wsX10_at0 := goodIn_r _ [14, 15, 16, 17, 18, 19, 20, 21, 22, 23, 24, 25, 26, 27, 28, 29, 30, 31, 32, 33, 34, 35, 36, 37, 38, 39, 40, 41, 42, 43, 44, 45] (by decide +kernel) (by decide +kernel)
set_option maxRecDepth 20000 in
theorem gX10_isSame_X10_at0 : GoodIn wsX10_isSame (wsV RX10 117 RX10 yX10_at0 wsX10_at0) := goodIn_app (goodIn_of _ (by decide +kernel)) ggX10_isSame_X10_at0
theorem dX10_isSame_0 : decode cX10_isSame 0 = .ok (.aload_n 0, 1) := by decide +kernel
theorem dX10_isSame_1 : decode cX10_isSame 1 = .ok (.iload_n 1, 1) := by decide +kernel
theorem dX10_isSame_2 : decode cX10_isSame 2 = .ok (.iload_n 2, 1) := by decide +kernel
theorem dX10_isSame_3 : decode cX10_isSame 3 = .ok (.invokevirtual 144, 3) := by decide +kernel
theorem dX10_isSame_6 : decode cX10_isSame 6 = .ok (.istore 5, 2) := by decide +kernel
theorem dX10_isSame_8 : decode cX10_isSame 8 = .ok (.aload_n 0, 1) := by decide +kernel
theorem dX10_isSame_9 : decode cX10_isSame 9 = .ok (.iload_n 3, 1) := by decide +kernel
theorem dX10_isSame_10 : decode cX10_isSame 10 = .ok (.iload 4, 2) := by decide +kernel
theorem dX10_isSame_12 : decode cX10_isSame 12 = .ok (.invokevirtual 144, 3) := by decide +kernel
theorem dX10_isSame_15 : decode cX10_isSame 15 = .ok (.iload 5, 2) := by decide +kernel
theorem dX10_isSame_17 : decode cX10_isSame 17 = .ok (.if_icmp .ne 7, 3) := by decide +kernel
theorem dX10_isSame_20 : decode cX10_isSame 20 = .ok (.iconst 1, 1) := by decide +kernel
theorem dX10_isSame_21 : decode cX10_isSame 21 = .ok (.goto 4, 3) := by decide +kernel
theorem dX10_isSame_24 : decode cX10_isSame 24 = .ok (.iconst 0, 1) := by decide +kernel
theorem dX10_isSame_25 : decode cX10_isSame 25 = .ok (.istore 6, 2) := by decide +kernel
theorem dX10_isSame_27 : decode cX10_isSame 27 = .ok (.iconst 0, 1) := by decide +kernel
theorem dX10_isSame_28 : decode cX10_isSame 28 = .ok (.istore 7, 2) := by decide +kernel
theorem dX10_isSame_30 : decode cX10_isSame 30 = .ok (.iload 7, 2) := by decide +kernel
theorem dX10_isSame_32 : decode cX10_isSame 32 = .ok (.iload 5, 2) := by decide +kernel
theorem dX10_isSame_34 : decode cX10_isSame 34 = .ok (.if_icmp .ge 53, 3) := by decide +kernel
theorem dX10_isSame_37 : decode cX10_isSame 37 = .ok (.iload 6, 2) := by decide +kernel
theorem dX10_isSame_39 : decode cX10_isSame 39 = .ok (.ifCond .eq 48, 3) := by decide +kernel
theorem dX10_isSame_42 : decode cX10_isSame 42 = .ok (.aload_n 0, 1) := by decide +kernel
theorem dX10_isSame_43 : decode cX10_isSame 43 = .ok (.iload_n 1, 1) := by decide +kernel
theorem dX10_isSame_44 : decode cX10_isSame 44 = .ok (.aload_n 0, 1) := by decide +kernel
theorem dX10_isSame_45 : decode cX10_isSame 45 = .ok (.iload_n 1, 1) := by decide +kernel
theorem dX10_isSame_46 : decode cX10_isSame 46 = .ok (.iload_n 2, 1) := by decide +kernel
theorem dX10_isSame_47 : decode cX10_isSame 47 = .ok (.invokevirtual 141, 3) := by decide +kernel
theorem dX10_isSame_50 : decode cX10_isSame 50 = .ok (.iload 7, 2) := by decide +kernel
theorem dX10_isSame_52 : decode cX10_isSame 52 = .ok (.iadd, 1) := by decide +kernel
theorem dX10_isSame_53 : decode cX10_isSame 53 = .ok (.invokevirtual 117, 3) := by decide +kernel
theorem dX10_isSame_56 : decode cX10_isSame 56 = .ok (.aload_n 0, 1) := by decide +kernel
theorem dX10_isSame_57 : decode cX10_isSame 57 = .ok (.iload_n 3, 1) := by decide +kernel
theorem dX10_isSame_58 : decode cX10_isSame 58 = .ok (.aload_n 0, 1) := by decide +kernel
theorem dX10_isSame_59 : decode cX10_isSame 59 = .ok (.iload_n 3, 1) := by decide +kernel
theorem dX10_isSame_60 : decode cX10_isSame 60 = .ok (.iload 4, 2) := by decide +kernel
theorem dX10_isSame_62 : decode cX10_isSame 62 = .ok (.invokevirtual 141, 3) := by decide +kernel
theorem dX10_isSame_65 : decode cX10_isSame 65 = .ok (.iload 7, 2) := by decide +kernel
theorem dX10_isSame_67 : decode cX10_isSame 67 = .ok (.iadd, 1) := by decide +kernel
theorem dX10_isSame_68 : decode cX10_isSame 68 = .ok (.invokevirtual 117, 3) := by decide +kernel
theorem dX10_isSame_71 : decode cX10_isSame 71 = .ok (.if_icmp .ne 7, 3) := by decide +kernel
theorem dX10_isSame_74 : decode cX10_isSame 74 = .ok (.iconst 1, 1) := by decide +kernel
theorem dX10_isSame_75 : decode cX10_isSame 75 = .ok (.goto 4, 3) := by decide +kernel
theorem dX10_isSame_78 : decode cX10_isSame 78 = .ok (.iconst 0, 1) := by decide +kernel
theorem dX10_isSame_79 : decode cX10_isSame 79 = .ok (.istore 6, 2) := by decide +kernel
theorem dX10_isSame_81 : decode cX10_isSame 81 = .ok (.iinc 7 1, 3) := by decide +kernel
theorem dX10_isSame_84 : decode cX10_isSame 84 = .ok (.goto (-54), 3) := by decide +kernel
theorem dX10_isSame_87 : decode cX10_isSame 87 = .ok (.iload 6, 2) := by decide +kernel
theorem dX10_isSame_89 : decode cX10_isSame 89 = .ok (.ireturn, 1) := by decide +kernel
set_option maxRecDepth 20000 in
theorem ggX10_isFirst_X10_isSame : GoodIn wsX10_isFirst wsX10_isSame := goodIn_r _ [5, 6, 7, 8, 4, 9, 10, 11, 12, 13, 14, 15, 16, 17, 18, 19, 20, 21, 22, 23, 24, 25, 26, 27, 28, 29, 30, 31, 32, 33, 34, 35, 36, 37, 38, 39, 40, 41, 42, 43, 44, 45, 46, 47, 48, 49] (by decide +kernel) (by decide +kernel)
set_option maxRecDepth 20000 in
theorem gX10_isFirst_X10_isSame : GoodIn wsX10_isFirst (wsV RX10 147 RX10 yX10_isSame wsX10_isSame) := goodIn_app (goodIn_of _ (by decide +kernel)) ggX10_isFirst_X10_isSame
theorem dX10_isFirst_0 : decode cX10_isFirst 0 = .ok (.iconst 1, 1) := by decide +kernel
theorem dX10_isFirst_1 : decode cX10_isFirst 1 = .ok (.istore_n 3, 1) := by decide +kernel
theorem dX10_isFirst_2 : decode cX10_isFirst 2 = .ok (.iconst 0, 1) := by decide +kernel
theorem dX10_isFirst_3 : decode cX10_isFirst 3 = .ok (.istore 4, 2) := by decide +kernel
theorem dX10_isFirst_5 : decode cX10_isFirst 5 = .ok (.iload 4, 2) := by decide +kernel
theorem dX10_isFirst_7 : decode cX10_isFirst 7 = .ok (.iload_n 2, 1) := by decide +kernel
theorem dX10_isFirst_8 : decode cX10_isFirst 8 = .ok (.if_icmp .ge 31, 3) := by decide +kernel
theorem dX10_isFirst_11 : decode cX10_isFirst 11 = .ok (.iload_n 3, 1) := by decide +kernel
theorem dX10_isFirst_12 : decode cX10_isFirst 12 = .ok (.ifCond .eq 27, 3) := by decide +kernel
theorem dX10_isFirst_15 : decode cX10_isFirst 15 = .ok (.aload_n 0, 1) := by decide +kernel
theorem dX10_isFirst_16 : decode cX10_isFirst 16 = .ok (.iload_n 1, 1) := by decide +kernel
theorem dX10_isFirst_17 : decode cX10_isFirst 17 = .ok (.iload 4, 2) := by decide +kernel
theorem dX10_isFirst_19 : decode cX10_isFirst 19 = .ok (.iload_n 1, 1) := by decide +kernel
theorem dX10_isFirst_20 : decode cX10_isFirst 20 = .ok (.iload_n 2, 1) := by decide +kernel
