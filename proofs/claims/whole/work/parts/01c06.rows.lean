theorem dX10_drill_117 : decode cX10_drill 117 = .ok (.dup2, 1) := by decide +kernel
theorem dX10_drill_118 : decode cX10_drill 118 = .ok (.iaload, 1) := by decide +kernel
theorem dX10_drill_119 : decode cX10_drill 119 = .ok (.iload 7, 2) := by decide +kernel
theorem dX10_drill_121 : decode cX10_drill 121 = .ok (.iadd, 1) := by decide +kernel
theorem dX10_drill_122 : decode cX10_drill 122 = .ok (.iastore, 1) := by decide +kernel
theorem dX10_drill_123 : decode cX10_drill 123 = .ok (.iload 7, 2) := by decide +kernel
theorem dX10_drill_125 : decode cX10_drill 125 = .ok (.ireturn, 1) := by decide +kernel
set_option maxRecDepth 20000 in
theorem ggX10_paid_X10_isClient : GoodIn wsX10_paid wsX10_isClient := goodIn_r _ [5, 6, 7, 4, 8] (by decide +kernel) (by decide +kernel)
set_option maxRecDepth 20000 in
theorem gX10_paid_X10_isClient : GoodIn wsX10_paid (va_wsS RX10 103 yX10_isClient wsX10_isClient) := goodIn_app (goodIn_of _ (by decide +kernel)) ggX10_paid_X10_isClient
set_option maxRecDepth 20000 in
theorem ggX10_paid_X10_isFine : GoodIn wsX10_paid wsX10_isFine := goodIn_r _ [12, 13, 14, 15, 16, 17, 18, 19, 20, 21, 22, 23, 24, 25, 26, 27, 28, 29, 30, 31, 32, 33, 34, 35, 36, 37, 38, 39, 40, 41, 42, 43] (by decide +kernel) (by decide +kernel)
set_option maxRecDepth 20000 in
theorem gX10_paid_X10_isFine : GoodIn wsX10_paid (wsV RX10 114 RX10 yX10_isFine wsX10_isFine) := goodIn_app (goodIn_of _ (by decide +kernel)) ggX10_paid_X10_isFine
theorem dX10_paid_0 : decode cX10_paid 0 = .ok (.aload_n 0, 1) := by decide +kernel
theorem dX10_paid_1 : decode cX10_paid 1 = .ok (.iload_n 1, 1) := by decide +kernel
theorem dX10_paid_2 : decode cX10_paid 2 = .ok (.invokestatic 103, 3) := by decide +kernel
theorem dX10_paid_5 : decode cX10_paid 5 = .ok (.ifCond .eq 7, 3) := by decide +kernel
theorem dX10_paid_8 : decode cX10_paid 8 = .ok (.iconst 0, 1) := by decide +kernel
theorem dX10_paid_9 : decode cX10_paid 9 = .ok (.goto 4, 3) := by decide +kernel
theorem dX10_paid_12 : decode cX10_paid 12 = .ok (.iconst 1, 1) := by decide +kernel
theorem dX10_paid_13 : decode cX10_paid 13 = .ok (.invokevirtual 114, 3) := by decide +kernel
theorem dX10_paid_16 : decode cX10_paid 16 = .ok (.ifCond .eq 12, 3) := by decide +kernel
theorem dX10_paid_19 : decode cX10_paid 19 = .ok (.aload_n 0, 1) := by decide +kernel
theorem dX10_paid_20 : decode cX10_paid 20 = .ok (.getfield 69, 3) := by decide +kernel
theorem dX10_paid_23 : decode cX10_paid 23 = .ok (.iload_n 1, 1) := by decide +kernel
theorem dX10_paid_24 : decode cX10_paid 24 = .ok (.iaload, 1) := by decide +kernel
theorem dX10_paid_25 : decode cX10_paid 25 = .ok (.goto 4, 3) := by decide +kernel
theorem dX10_paid_28 : decode cX10_paid 28 = .ok (.iconst 0, 1) := by decide +kernel
theorem dX10_paid_29 : decode cX10_paid 29 = .ok (.ireturn, 1) := by decide +kernel
set_option maxRecDepth 20000 in
theorem ggX10_owed_X10_isClient : GoodIn wsX10_owed wsX10_isClient := goodIn_r _ [5, 6, 7, 4, 8] (by decide +kernel) (by decide +kernel)
set_option maxRecDepth 20000 in
theorem gX10_owed_X10_isClient : GoodIn wsX10_owed (va_wsS RX10 103 yX10_isClient wsX10_isClient) := goodIn_app (goodIn_of _ (by decide +kernel)) ggX10_owed_X10_isClient
set_option maxRecDepth 20000 in
theorem ggX10_owed_X10_isFine : GoodIn wsX10_owed wsX10_isFine := goodIn_r _ [12, 13, 14, 15, 16, 17, 18, 19, 20, 21, 22, 23, 24, 25, 26, 27, 28, 29, 30, 31, 32, 33, 34, 35, 36, 37, 38, 39, 40, 41, 42, 43] (by decide +kernel) (by decide +kernel)
set_option maxRecDepth 20000 in
theorem gX10_owed_X10_isFine : GoodIn wsX10_owed (wsV RX10 114 RX10 yX10_isFine wsX10_isFine) := goodIn_app (goodIn_of _ (by decide +kernel)) ggX10_owed_X10_isFine
theorem dX10_owed_0 : decode cX10_owed 0 = .ok (.aload_n 0, 1) := by decide +kernel
theorem dX10_owed_1 : decode cX10_owed 1 = .ok (.iload_n 1, 1) := by decide +kernel
theorem dX10_owed_2 : decode cX10_owed 2 = .ok (.invokestatic 103, 3) := by decide +kernel
theorem dX10_owed_5 : decode cX10_owed 5 = .ok (.ifCond .eq 7, 3) := by decide +kernel
theorem dX10_owed_8 : decode cX10_owed 8 = .ok (.iconst 0, 1) := by decide +kernel
theorem dX10_owed_9 : decode cX10_owed 9 = .ok (.goto 4, 3) := by decide +kernel
theorem dX10_owed_12 : decode cX10_owed 12 = .ok (.iconst 1, 1) := by decide +kernel
theorem dX10_owed_13 : decode cX10_owed 13 = .ok (.invokevirtual 114, 3) := by decide +kernel
theorem dX10_owed_16 : decode cX10_owed 16 = .ok (.ifCond .eq 12, 3) := by decide +kernel
theorem dX10_owed_19 : decode cX10_owed 19 = .ok (.aload_n 0, 1) := by decide +kernel
theorem dX10_owed_20 : decode cX10_owed 20 = .ok (.getfield 72, 3) := by decide +kernel
theorem dX10_owed_23 : decode cX10_owed 23 = .ok (.iload_n 1, 1) := by decide +kernel
theorem dX10_owed_24 : decode cX10_owed 24 = .ok (.iaload, 1) := by decide +kernel
theorem dX10_owed_25 : decode cX10_owed 25 = .ok (.goto 4, 3) := by decide +kernel
theorem dX10_owed_28 : decode cX10_owed 28 = .ok (.iconst 0, 1) := by decide +kernel
theorem dX10_owed_29 : decode cX10_owed 29 = .ok (.ireturn, 1) := by decide +kernel
theorem dX10_purse_0 : decode cX10_purse 0 = .ok (.aload_n 0, 1) := by decide +kernel
theorem dX10_purse_1 : decode cX10_purse 1 = .ok (.iconst 0, 1) := by decide +kernel
theorem dX10_purse_2 : decode cX10_purse 2 = .ok (.putfield 96, 3) := by decide +kernel
theorem dX10_purse_5 : decode cX10_purse 5 = .ok (.iconst 0, 1) := by decide +kernel
theorem dX10_purse_6 : decode cX10_purse 6 = .ok (.istore_n 1, 1) := by decide +kernel
theorem dX10_purse_7 : decode cX10_purse 7 = .ok (.iconst 0, 1) := by decide +kernel
theorem dX10_purse_8 : decode cX10_purse 8 = .ok (.istore_n 2, 1) := by decide +kernel
theorem dX10_purse_9 : decode cX10_purse 9 = .ok (.iload_n 2, 1) := by decide +kernel
theorem dX10_purse_10 : decode cX10_purse 10 = .ok (.iconst 4, 1) := by decide +kernel
theorem dX10_purse_11 : decode cX10_purse 11 = .ok (.if_icmp .ge 25, 3) := by decide +kernel
theorem dX10_purse_14 : decode cX10_purse 14 = .ok (.iload_n 1, 1) := by decide +kernel
theorem dX10_purse_15 : decode cX10_purse 15 = .ok (.aload_n 0, 1) := by decide +kernel
theorem dX10_purse_16 : decode cX10_purse 16 = .ok (.getfield 69, 3) := by decide +kernel
theorem dX10_purse_19 : decode cX10_purse 19 = .ok (.iload_n 2, 1) := by decide +kernel
theorem dX10_purse_20 : decode cX10_purse 20 = .ok (.iaload, 1) := by decide +kernel
theorem dX10_purse_21 : decode cX10_purse 21 = .ok (.aload_n 0, 1) := by decide +kernel
theorem dX10_purse_22 : decode cX10_purse 22 = .ok (.getfield 72, 3) := by decide +kernel
theorem dX10_purse_25 : decode cX10_purse 25 = .ok (.iload_n 2, 1) := by decide +kernel
theorem dX10_purse_26 : decode cX10_purse 26 = .ok (.iaload, 1) := by decide +kernel
theorem dX10_purse_27 : decode cX10_purse 27 = .ok (.isub, 1) := by decide +kernel
theorem dX10_purse_28 : decode cX10_purse 28 = .ok (.iadd, 1) := by decide +kernel
theorem dX10_purse_29 : decode cX10_purse 29 = .ok (.istore_n 1, 1) := by decide +kernel
theorem dX10_purse_30 : decode cX10_purse 30 = .ok (.iinc 2 1, 3) := by decide +kernel
theorem dX10_purse_33 : decode cX10_purse 33 = .ok (.goto (-24), 3) := by decide +kernel
theorem dX10_purse_36 : decode cX10_purse 36 = .ok (.iload_n 1, 1) := by decide +kernel
theorem dX10_purse_37 : decode cX10_purse 37 = .ok (.ireturn, 1) := by decide +kernel
theorem dJxf58ca_isNaN_12338_0 : decode cJxf58ca_isNaN_12338 0 = .ok (.fload_n 0, 1) := by decide +kernel
theorem dJxf58ca_isNaN_12338_1 : decode cJxf58ca_isNaN_12338 1 = .ok (.fload_n 0, 1) := by decide +kernel
theorem dJxf58ca_isNaN_12338_2 : decode cJxf58ca_isNaN_12338 2 = .ok (.fcmp .l, 1) := by decide +kernel
theorem dJxf58ca_isNaN_12338_3 : decode cJxf58ca_isNaN_12338 3 = .ok (.ifCond .eq 7, 3) := by decide +kernel
theorem dJxf58ca_isNaN_12338_6 : decode cJxf58ca_isNaN_12338 6 = .ok (.iconst 1, 1) := by decide +kernel
theorem dJxf58ca_isNaN_12338_7 : decode cJxf58ca_isNaN_12338 7 = .ok (.goto 4, 3) := by decide +kernel
theorem dJxf58ca_isNaN_12338_10 : decode cJxf58ca_isNaN_12338 10 = .ok (.iconst 0, 1) := by decide +kernel
theorem dJxf58ca_isNaN_12338_11 : decode cJxf58ca_isNaN_12338 11 = .ok (.ireturn, 1) := by decide +kernel
set_option maxRecDepth 20000 in
theorem ggJxf58ca_floatToIntBits_5c35a_Jxf58ca_isNaN_12338 : GoodIn wsJxf58ca_floatToIntBits_5c35a wsJxf58ca_isNaN_12338 := goodIn_r _ [9] (by decide +kernel) (by decide +kernel)
set_option maxRecDepth 20000 in
theorem gJxf58ca_floatToIntBits_5c35a_Jxf58ca_isNaN_12338 : GoodIn wsJxf58ca_floatToIntBits_5c35a (va_wsS RJxf58ca 59 yJxf58ca_isNaN_12338 wsJxf58ca_isNaN_12338) := goodIn_app (goodIn_of _ (by decide +kernel)) ggJxf58ca_floatToIntBits_5c35a_Jxf58ca_isNaN_12338
theorem dJxf58ca_floatToIntBits_5c35a_0 : decode cJxf58ca_floatToIntBits_5c35a 0 = .ok (.fload_n 0, 1) := by decide +kernel
theorem dJxf58ca_floatToIntBits_5c35a_1 : decode cJxf58ca_floatToIntBits_5c35a 1 = .ok (.invokestatic 59, 3) := by decide +kernel
theorem dJxf58ca_floatToIntBits_5c35a_4 : decode cJxf58ca_floatToIntBits_5c35a 4 = .ok (.ifCond .ne 8, 3) := by decide +kernel
theorem dJxf58ca_floatToIntBits_5c35a_7 : decode cJxf58ca_floatToIntBits_5c35a 7 = .ok (.fload_n 0, 1) := by decide +kernel
theorem dJxf58ca_floatToIntBits_5c35a_8 : decode cJxf58ca_floatToIntBits_5c35a 8 = .ok (.invokestatic 74, 3) := by decide +kernel
theorem dJxf58ca_floatToIntBits_5c35a_11 : decode cJxf58ca_floatToIntBits_5c35a 11 = .ok (.ireturn, 1) := by decide +kernel
theorem dJxf58ca_floatToIntBits_5c35a_12 : decode cJxf58ca_floatToIntBits_5c35a 12 = .ok (.ldc 77, 2) := by decide +kernel
theorem dJxf58ca_floatToIntBits_5c35a_14 : decode cJxf58ca_floatToIntBits_5c35a 14 = .ok (.ireturn, 1) := by decide +kernel
theorem dJ9_max_7cf53_0 : decode cJ9_max_7cf53 0 = .ok (.iload_n 0, 1) := by decide +kernel
theorem dJ9_max_7cf53_1 : decode cJ9_max_7cf53 1 = .ok (.iload_n 1, 1) := by decide +kernel
theorem dJ9_max_7cf53_2 : decode cJ9_max_7cf53 2 = .ok (.if_icmp .lt 7, 3) := by decide +kernel
theorem dJ9_max_7cf53_5 : decode cJ9_max_7cf53 5 = .ok (.iload_n 0, 1) := by decide +kernel
theorem dJ9_max_7cf53_6 : decode cJ9_max_7cf53 6 = .ok (.goto 4, 3) := by decide +kernel
theorem dJ9_max_7cf53_9 : decode cJ9_max_7cf53 9 = .ok (.iload_n 1, 1) := by decide +kernel
theorem dJ9_max_7cf53_10 : decode cJ9_max_7cf53 10 = .ok (.ireturn, 1) := by decide +kernel
theorem dJ9_min_7cf53_0 : decode cJ9_min_7cf53 0 = .ok (.iload_n 0, 1) := by decide +kernel
theorem dJ9_min_7cf53_1 : decode cJ9_min_7cf53 1 = .ok (.iload_n 1, 1) := by decide +kernel
theorem dJ9_min_7cf53_2 : decode cJ9_min_7cf53 2 = .ok (.if_icmp .gt 7, 3) := by decide +kernel
theorem dJ9_min_7cf53_5 : decode cJ9_min_7cf53 5 = .ok (.iload_n 0, 1) := by decide +kernel
theorem dJ9_min_7cf53_6 : decode cJ9_min_7cf53 6 = .ok (.goto 4, 3) := by decide +kernel
theorem dJ9_min_7cf53_9 : decode cJ9_min_7cf53 9 = .ok (.iload_n 1, 1) := by decide +kernel
theorem dJ9_min_7cf53_10 : decode cJ9_min_7cf53 10 = .ok (.ireturn, 1) := by decide +kernel
