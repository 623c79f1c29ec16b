theorem dX10_isFirst_21 : decode cX10_isFirst 21 = .ok (.invokevirtual 147, 3) := by decide +kernel
theorem dX10_isFirst_24 : decode cX10_isFirst 24 = .ok (.ifCond .ne 7, 3) := by decide +kernel
theorem dX10_isFirst_27 : decode cX10_isFirst 27 = .ok (.iconst 1, 1) := by decide +kernel
theorem dX10_isFirst_28 : decode cX10_isFirst 28 = .ok (.goto 4, 3) := by decide +kernel
theorem dX10_isFirst_31 : decode cX10_isFirst 31 = .ok (.iconst 0, 1) := by decide +kernel
theorem dX10_isFirst_32 : decode cX10_isFirst 32 = .ok (.istore_n 3, 1) := by decide +kernel
theorem dX10_isFirst_33 : decode cX10_isFirst 33 = .ok (.iinc 4 1, 3) := by decide +kernel
theorem dX10_isFirst_36 : decode cX10_isFirst 36 = .ok (.goto (-31), 3) := by decide +kernel
theorem dX10_isFirst_39 : decode cX10_isFirst 39 = .ok (.iload_n 3, 1) := by decide +kernel
theorem dX10_isFirst_40 : decode cX10_isFirst 40 = .ok (.ireturn, 1) := by decide +kernel
set_option maxRecDepth 20000 in
theorem ggX10_isHeld_X10_isSame : GoodIn wsX10_isHeld wsX10_isSame := goodIn_r _ [7, 8, 9, 10, 6, 11, 12, 13, 14, 15, 16, 17, 18, 19, 20, 21, 22, 23, 24, 25, 26, 27, 28, 29, 30, 31, 32, 33, 34, 35, 36, 37, 38, 39, 40, 41, 42, 43, 44, 45, 46, 47, 48, 49, 50, 51] (by decide +kernel) (by decide +kernel)
set_option maxRecDepth 20000 in
theorem gX10_isHeld_X10_isSame : GoodIn wsX10_isHeld (wsV RX10 147 RX10 yX10_isSame wsX10_isSame) := goodIn_app (goodIn_of _ (by decide +kernel)) ggX10_isHeld_X10_isSame
theorem dX10_isHeld_0 : decode cX10_isHeld 0 = .ok (.iconst 0, 1) := by decide +kernel
theorem dX10_isHeld_1 : decode cX10_isHeld 1 = .ok (.istore 4, 2) := by decide +kernel
theorem dX10_isHeld_3 : decode cX10_isHeld 3 = .ok (.iconst 0, 1) := by decide +kernel
theorem dX10_isHeld_4 : decode cX10_isHeld 4 = .ok (.istore 5, 2) := by decide +kernel
theorem dX10_isHeld_6 : decode cX10_isHeld 6 = .ok (.iload 5, 2) := by decide +kernel
theorem dX10_isHeld_8 : decode cX10_isHeld 8 = .ok (.aload_n 0, 1) := by decide +kernel
theorem dX10_isHeld_9 : decode cX10_isHeld 9 = .ok (.getfield 19, 3) := by decide +kernel
theorem dX10_isHeld_12 : decode cX10_isHeld 12 = .ok (.iload_n 1, 1) := by decide +kernel
theorem dX10_isHeld_13 : decode cX10_isHeld 13 = .ok (.iaload, 1) := by decide +kernel
theorem dX10_isHeld_14 : decode cX10_isHeld 14 = .ok (.if_icmp .ge 48, 3) := by decide +kernel
theorem dX10_isHeld_17 : decode cX10_isHeld 17 = .ok (.iload 4, 2) := by decide +kernel
theorem dX10_isHeld_19 : decode cX10_isHeld 19 = .ok (.ifCond .ne 43, 3) := by decide +kernel
theorem dX10_isHeld_22 : decode cX10_isHeld 22 = .ok (.aload_n 0, 1) := by decide +kernel
theorem dX10_isHeld_23 : decode cX10_isHeld 23 = .ok (.getfield 28, 3) := by decide +kernel
theorem dX10_isHeld_26 : decode cX10_isHeld 26 = .ok (.bipush 48, 2) := by decide +kernel
theorem dX10_isHeld_28 : decode cX10_isHeld 28 = .ok (.iload_n 1, 1) := by decide +kernel
theorem dX10_isHeld_29 : decode cX10_isHeld 29 = .ok (.imul, 1) := by decide +kernel
theorem dX10_isHeld_30 : decode cX10_isHeld 30 = .ok (.iload 5, 2) := by decide +kernel
theorem dX10_isHeld_32 : decode cX10_isHeld 32 = .ok (.iadd, 1) := by decide +kernel
theorem dX10_isHeld_33 : decode cX10_isHeld 33 = .ok (.baload, 1) := by decide +kernel
theorem dX10_isHeld_34 : decode cX10_isHeld 34 = .ok (.ifCond .eq 19, 3) := by decide +kernel
theorem dX10_isHeld_37 : decode cX10_isHeld 37 = .ok (.aload_n 0, 1) := by decide +kernel
theorem dX10_isHeld_38 : decode cX10_isHeld 38 = .ok (.iload_n 1, 1) := by decide +kernel
theorem dX10_isHeld_39 : decode cX10_isHeld 39 = .ok (.iload 5, 2) := by decide +kernel
theorem dX10_isHeld_41 : decode cX10_isHeld 41 = .ok (.iload_n 2, 1) := by decide +kernel
theorem dX10_isHeld_42 : decode cX10_isHeld 42 = .ok (.iload_n 3, 1) := by decide +kernel
theorem dX10_isHeld_43 : decode cX10_isHeld 43 = .ok (.invokevirtual 147, 3) := by decide +kernel
theorem dX10_isHeld_46 : decode cX10_isHeld 46 = .ok (.ifCond .eq 7, 3) := by decide +kernel
theorem dX10_isHeld_49 : decode cX10_isHeld 49 = .ok (.iconst 1, 1) := by decide +kernel
theorem dX10_isHeld_50 : decode cX10_isHeld 50 = .ok (.goto 4, 3) := by decide +kernel
theorem dX10_isHeld_53 : decode cX10_isHeld 53 = .ok (.iconst 0, 1) := by decide +kernel
theorem dX10_isHeld_54 : decode cX10_isHeld 54 = .ok (.istore 4, 2) := by decide +kernel
theorem dX10_isHeld_56 : decode cX10_isHeld 56 = .ok (.iinc 5 1, 3) := by decide +kernel
theorem dX10_isHeld_59 : decode cX10_isHeld 59 = .ok (.goto (-53), 3) := by decide +kernel
theorem dX10_isHeld_62 : decode cX10_isHeld 62 = .ok (.iload 4, 2) := by decide +kernel
theorem dX10_isHeld_64 : decode cX10_isHeld 64 = .ok (.ireturn, 1) := by decide +kernel
theorem dX10_latest_0 : decode cX10_latest 0 = .ok (.iload_n 2, 1) := by decide +kernel
theorem dX10_latest_1 : decode cX10_latest 1 = .ok (.istore_n 3, 1) := by decide +kernel
theorem dX10_latest_2 : decode cX10_latest 2 = .ok (.iload_n 3, 1) := by decide +kernel
theorem dX10_latest_3 : decode cX10_latest 3 = .ok (.ifCond .lt 23, 3) := by decide +kernel
theorem dX10_latest_6 : decode cX10_latest 6 = .ok (.aload_n 0, 1) := by decide +kernel
theorem dX10_latest_7 : decode cX10_latest 7 = .ok (.getfield 22, 3) := by decide +kernel
theorem dX10_latest_10 : decode cX10_latest 10 = .ok (.bipush 60, 2) := by decide +kernel
theorem dX10_latest_12 : decode cX10_latest 12 = .ok (.iload_n 1, 1) := by decide +kernel
theorem dX10_latest_13 : decode cX10_latest 13 = .ok (.imul, 1) := by decide +kernel
theorem dX10_latest_14 : decode cX10_latest 14 = .ok (.iload_n 3, 1) := by decide +kernel
theorem dX10_latest_15 : decode cX10_latest 15 = .ok (.iadd, 1) := by decide +kernel
theorem dX10_latest_16 : decode cX10_latest 16 = .ok (.iaload, 1) := by decide +kernel
theorem dX10_latest_17 : decode cX10_latest 17 = .ok (.ifCond .ne 9, 3) := by decide +kernel
theorem dX10_latest_20 : decode cX10_latest 20 = .ok (.iinc 3 (-1), 3) := by decide +kernel
theorem dX10_latest_23 : decode cX10_latest 23 = .ok (.goto (-21), 3) := by decide +kernel
theorem dX10_latest_26 : decode cX10_latest 26 = .ok (.iload_n 3, 1) := by decide +kernel
theorem dX10_latest_27 : decode cX10_latest 27 = .ok (.ifCond .ge 7, 3) := by decide +kernel
theorem dX10_latest_30 : decode cX10_latest 30 = .ok (.iconst (-1), 1) := by decide +kernel
theorem dX10_latest_31 : decode cX10_latest 31 = .ok (.goto 9, 3) := by decide +kernel
theorem dX10_latest_34 : decode cX10_latest 34 = .ok (.bipush 60, 2) := by decide +kernel
theorem dX10_latest_36 : decode cX10_latest 36 = .ok (.iload_n 1, 1) := by decide +kernel
theorem dX10_latest_37 : decode cX10_latest 37 = .ok (.imul, 1) := by decide +kernel
theorem dX10_latest_38 : decode cX10_latest 38 = .ok (.iload_n 3, 1) := by decide +kernel
theorem dX10_latest_39 : decode cX10_latest 39 = .ok (.iadd, 1) := by decide +kernel
theorem dX10_latest_40 : decode cX10_latest 40 = .ok (.ireturn, 1) := by decide +kernel
set_option maxRecDepth 20000 in
theorem ggX10_latestNow_X10_latest : GoodIn wsX10_latestNow wsX10_latest := goodIn_r _ [6, 7, 8, 9, 10, 11, 12, 13, 14, 15, 16, 17, 18, 19, 20, 21, 22, 23, 24, 25, 26, 27, 28, 29, 30, 31, 32, 33, 34, 35, 36, 37] (by decide +kernel) (by decide +kernel)
set_option maxRecDepth 20000 in
theorem gX10_latestNow_X10_latest : GoodIn wsX10_latestNow (wsV RX10 154 RX10 yX10_latest wsX10_latest) := goodIn_app (goodIn_of _ (by decide +kernel)) ggX10_latestNow_X10_latest
theorem dX10_latestNow_0 : decode cX10_latestNow 0 = .ok (.aload_n 0, 1) := by decide +kernel
theorem dX10_latestNow_1 : decode cX10_latestNow 1 = .ok (.iload_n 1, 1) := by decide +kernel
theorem dX10_latestNow_2 : decode cX10_latestNow 2 = .ok (.aload_n 0, 1) := by decide +kernel
theorem dX10_latestNow_3 : decode cX10_latestNow 3 = .ok (.getfield 151, 3) := by decide +kernel
theorem dX10_latestNow_6 : decode cX10_latestNow 6 = .ok (.iconst 1, 1) := by decide +kernel
theorem dX10_latestNow_7 : decode cX10_latestNow 7 = .ok (.isub, 1) := by decide +kernel
theorem dX10_latestNow_8 : decode cX10_latestNow 8 = .ok (.invokevirtual 154, 3) := by decide +kernel
theorem dX10_latestNow_11 : decode cX10_latestNow 11 = .ok (.ireturn, 1) := by decide +kernel
set_option maxRecDepth 20000 in
theorem ggX10_isInLatest_X10_latestNow : GoodIn wsX10_isInLatest wsX10_latestNow := goodIn_r _ [7, 8, 9, 10, 11, 6, 12, 1, 13, 14, 15, 16, 17, 18, 19, 20, 21, 22, 23, 24, 25, 26, 27, 28, 29, 30, 31, 32, 33, 34, 35, 36, 37, 38, 39, 40, 41, 42] (by decide +kernel) (by decide +kernel)
set_option maxRecDepth 20000 in
theorem gX10_isInLatest_X10_latestNow : GoodIn wsX10_isInLatest (wsV RX10 157 RX10 yX10_latestNow wsX10_latestNow) := goodIn_app (goodIn_of _ (by decide +kernel)) ggX10_isInLatest_X10_latestNow
theorem dX10_isInLatest_0 : decode cX10_isInLatest 0 = .ok (.aload_n 0, 1) := by decide +kernel
theorem dX10_isInLatest_1 : decode cX10_isInLatest 1 = .ok (.getfield 22, 3) := by decide +kernel
theorem dX10_isInLatest_4 : decode cX10_isInLatest 4 = .ok (.iload_n 2, 1) := by decide +kernel
theorem dX10_isInLatest_5 : decode cX10_isInLatest 5 = .ok (.iaload, 1) := by decide +kernel
theorem dX10_isInLatest_6 : decode cX10_isInLatest 6 = .ok (.ifCond .le 26, 3) := by decide +kernel
theorem dX10_isInLatest_9 : decode cX10_isInLatest 9 = .ok (.aload_n 0, 1) := by decide +kernel
theorem dX10_isInLatest_10 : decode cX10_isInLatest 10 = .ok (.getfield 25, 3) := by decide +kernel
theorem dX10_isInLatest_13 : decode cX10_isInLatest 13 = .ok (.iload_n 2, 1) := by decide +kernel
theorem dX10_isInLatest_14 : decode cX10_isInLatest 14 = .ok (.iaload, 1) := by decide +kernel
theorem dX10_isInLatest_15 : decode cX10_isInLatest 15 = .ok (.aload_n 0, 1) := by decide +kernel
theorem dX10_isInLatest_16 : decode cX10_isInLatest 16 = .ok (.getfield 25, 3) := by decide +kernel
theorem dX10_isInLatest_19 : decode cX10_isInLatest 19 = .ok (.aload_n 0, 1) := by decide +kernel
theorem dX10_isInLatest_20 : decode cX10_isInLatest 20 = .ok (.iload_n 1, 1) := by decide +kernel
theorem dX10_isInLatest_21 : decode cX10_isInLatest 21 = .ok (.invokevirtual 157, 3) := by decide +kernel
theorem dX10_isInLatest_24 : decode cX10_isInLatest 24 = .ok (.iaload, 1) := by decide +kernel
theorem dX10_isInLatest_25 : decode cX10_isInLatest 25 = .ok (.if_icmp .ne 7, 3) := by decide +kernel
theorem dX10_isInLatest_28 : decode cX10_isInLatest 28 = .ok (.iconst 1, 1) := by decide +kernel
theorem dX10_isInLatest_29 : decode cX10_isInLatest 29 = .ok (.goto 4, 3) := by decide +kernel
theorem dX10_isInLatest_32 : decode cX10_isInLatest 32 = .ok (.iconst 0, 1) := by decide +kernel
theorem dX10_isInLatest_33 : decode cX10_isInLatest 33 = .ok (.ireturn, 1) := by decide +kernel
set_option maxRecDepth 20000 in
theorem ggX10_isInChain_X10_isInLatest : GoodIn wsX10_isInChain wsX10_isInLatest := goodIn_r _ [6, 7, 8, 9, 10, 11, 5, 12, 1, 13, 14, 15, 16, 41, 42, 43, 44, 45, 46, 47, 48, 49, 50, 51, 52, 53, 54, 55, 56, 57, 58, 59, 60, 61, 62, 63, 64, 65, 66, 67, 68, 69, 70] (by decide +kernel) (by decide +kernel)
set_option maxRecDepth 20000 in
theorem gX10_isInChain_X10_isInLatest : GoodIn wsX10_isInChain (wsV RX10 160 RX10 yX10_isInLatest wsX10_isInLatest) := goodIn_app (goodIn_of _ (by decide +kernel)) ggX10_isInChain_X10_isInLatest
set_option maxRecDepth 20000 in
theorem ggX10_isInChain_X10_isHeld : GoodIn wsX10_isInChain wsX10_isHeld := goodIn_r _ [20, 21, 22, 23, 24, 25, 5, 26, 27, 28, 29, 30, 31, 32, 33, 34, 35, 36, 37, 38, 39, 40, 41, 42, 43, 44, 45, 46, 47, 48, 49, 50, 51, 52, 53, 54, 55, 56, 57, 58, 59, 60, 61, 62, 63, 64, 65, 66, 67, 68, 69, 70] (by decide +kernel) (by decide +kernel)
set_option maxRecDepth 20000 in
theorem gX10_isInChain_X10_isHeld : GoodIn wsX10_isInChain (wsV RX10 163 RX10 yX10_isHeld wsX10_isHeld) := goodIn_app (goodIn_of _ (by decide +kernel)) ggX10_isInChain_X10_isHeld
theorem dX10_isInChain_0 : decode cX10_isInChain 0 = .ok (.iconst 0, 1) := by decide +kernel
theorem dX10_isInChain_1 : decode cX10_isInChain 1 = .ok (.istore 4, 2) := by decide +kernel
theorem dX10_isInChain_3 : decode cX10_isInChain 3 = .ok (.iconst 0, 1) := by decide +kernel
theorem dX10_isInChain_4 : decode cX10_isInChain 4 = .ok (.istore 5, 2) := by decide +kernel
theorem dX10_isInChain_6 : decode cX10_isInChain 6 = .ok (.iload 5, 2) := by decide +kernel
theorem dX10_isInChain_8 : decode cX10_isInChain 8 = .ok (.aload_n 0, 1) := by decide +kernel
theorem dX10_isInChain_9 : decode cX10_isInChain 9 = .ok (.getfield 151, 3) := by decide +kernel
theorem dX10_isInChain_12 : decode cX10_isInChain 12 = .ok (.if_icmp .ge 52, 3) := by decide +kernel
theorem dX10_isInChain_15 : decode cX10_isInChain 15 = .ok (.iload 4, 2) := by decide +kernel
theorem dX10_isInChain_17 : decode cX10_isInChain 17 = .ok (.ifCond .ne 47, 3) := by decide +kernel
theorem dX10_isInChain_20 : decode cX10_isInChain 20 = .ok (.aload_n 0, 1) := by decide +kernel
theorem dX10_isInChain_21 : decode cX10_isInChain 21 = .ok (.iload_n 1, 1) := by decide +kernel
theorem dX10_isInChain_22 : decode cX10_isInChain 22 = .ok (.bipush 60, 2) := by decide +kernel
theorem dX10_isInChain_24 : decode cX10_isInChain 24 = .ok (.iload_n 1, 1) := by decide +kernel
theorem dX10_isInChain_25 : decode cX10_isInChain 25 = .ok (.imul, 1) := by decide +kernel
theorem dX10_isInChain_26 : decode cX10_isInChain 26 = .ok (.iload 5, 2) := by decide +kernel
theorem dX10_isInChain_28 : decode cX10_isInChain 28 = .ok (.iadd, 1) := by decide +kernel
theorem dX10_isInChain_29 : decode cX10_isInChain 29 = .ok (.invokevirtual 160, 3) := by decide +kernel
theorem dX10_isInChain_32 : decode cX10_isInChain 32 = .ok (.ifCond .eq 23, 3) := by decide +kernel
theorem dX10_isInChain_35 : decode cX10_isInChain 35 = .ok (.aload_n 0, 1) := by decide +kernel
theorem dX10_isInChain_36 : decode cX10_isInChain 36 = .ok (.bipush 60, 2) := by decide +kernel
theorem dX10_isInChain_38 : decode cX10_isInChain 38 = .ok (.iload_n 1, 1) := by decide +kernel
theorem dX10_isInChain_39 : decode cX10_isInChain 39 = .ok (.imul, 1) := by decide +kernel
theorem dX10_isInChain_40 : decode cX10_isInChain 40 = .ok (.iload 5, 2) := by decide +kernel
theorem dX10_isInChain_42 : decode cX10_isInChain 42 = .ok (.iadd, 1) := by decide +kernel
theorem dX10_isInChain_43 : decode cX10_isInChain 43 = .ok (.iload_n 2, 1) := by decide +kernel
theorem dX10_isInChain_44 : decode cX10_isInChain 44 = .ok (.iload_n 3, 1) := by decide +kernel
theorem dX10_isInChain_45 : decode cX10_isInChain 45 = .ok (.invokevirtual 163, 3) := by decide +kernel
theorem dX10_isInChain_48 : decode cX10_isInChain 48 = .ok (.ifCond .eq 7, 3) := by decide +kernel
theorem dX10_isInChain_51 : decode cX10_isInChain 51 = .ok (.iconst 1, 1) := by decide +kernel
theorem dX10_isInChain_52 : decode cX10_isInChain 52 = .ok (.goto 4, 3) := by decide +kernel
theorem dX10_isInChain_55 : decode cX10_isInChain 55 = .ok (.iconst 0, 1) := by decide +kernel
theorem dX10_isInChain_56 : decode cX10_isInChain 56 = .ok (.istore 4, 2) := by decide +kernel
theorem dX10_isInChain_58 : decode cX10_isInChain 58 = .ok (.iinc 5 1, 3) := by decide +kernel
theorem dX10_isInChain_61 : decode cX10_isInChain 61 = .ok (.goto (-55), 3) := by decide +kernel
theorem dX10_isInChain_64 : decode cX10_isInChain 64 = .ok (.iload 4, 2) := by decide +kernel
theorem dX10_isInChain_66 : decode cX10_isInChain 66 = .ok (.ireturn, 1) := by decide +kernel
set_option maxRecDepth 20000 in
theorem ggX10_forBase0_X10_cuts : GoodIn wsX10_forBase0 wsX10_cuts := goodIn_r _ [6, 1, 7, 8, 9, 10, 11, 12, 13, 14, 5, 15, 16, 17, 18, 19, 20, 21, 22, 23, 40, 41, 42, 43, 44, 45, 46, 47, 48, 49, 50, 51, 52, 53, 54, 55, 56, 57, 58, 59, 60, 61, 62, 63, 64, 65, 66, 67, 68, 69] (by decide +kernel) (by decide +kernel)
set_option maxRecDepth 20000 in
theorem gX10_forBase0_X10_cuts : GoodIn wsX10_forBase0 (wsV RX10 138 RX10 yX10_cuts wsX10_cuts) := goodIn_app (goodIn_of _ (by decide +kernel)) ggX10_forBase0_X10_cuts
set_option maxRecDepth 20000 in
theorem ggX10_forBase0_X10_isFirst : GoodIn wsX10_forBase0 wsX10_isFirst := goodIn_r _ [27, 28, 29, 30, 5, 31, 32, 33, 34, 35, 11, 36, 37, 38, 39, 19, 20, 21, 22, 23, 40, 41, 42, 43, 44, 45, 46, 47, 48, 49, 50, 51, 52, 53, 54, 55, 56, 57, 58, 59, 60, 61, 62, 63, 64, 65, 66, 67, 68, 69] (by decide +kernel) (by decide +kernel)
set_option maxRecDepth 20000 in
theorem gX10_forBase0_X10_isFirst : GoodIn wsX10_forBase0 (wsV RX10 166 RX10 yX10_isFirst wsX10_isFirst) := goodIn_app (goodIn_of _ (by decide +kernel)) ggX10_forBase0_X10_isFirst
set_option maxRecDepth 20000 in
theorem ggX10_forBase0_X10_bytesOf : GoodIn wsX10_forBase0 wsX10_bytesOf := goodIn_r _ [35, 11, 36, 37, 38, 5, 39, 40, 41, 42, 43, 44, 45, 46, 47, 48, 49, 50, 51, 52, 53, 54, 55, 56, 57, 58, 59, 60, 61, 62, 63, 64, 65, 66, 67, 68, 69] (by decide +kernel) (by decide +kernel)
set_option maxRecDepth 20000 in
theorem gX10_forBase0_X10_bytesOf : GoodIn wsX10_forBase0 (wsV RX10 144 RX10 yX10_bytesOf wsX10_bytesOf) := goodIn_app (goodIn_of _ (by decide +kernel)) ggX10_forBase0_X10_bytesOf
theorem dX10_forBase0_0 : decode cX10_forBase0 0 = .ok (.aload_n 0, 1) := by decide +kernel
theorem dX10_forBase0_1 : decode cX10_forBase0 1 = .ok (.iload_n 1, 1) := by decide +kernel
theorem dX10_forBase0_2 : decode cX10_forBase0 2 = .ok (.invokevirtual 138, 3) := by decide +kernel
theorem dX10_forBase0_5 : decode cX10_forBase0 5 = .ok (.istore_n 2, 1) := by decide +kernel
theorem dX10_forBase0_6 : decode cX10_forBase0 6 = .ok (.aload_n 0, 1) := by decide +kernel
theorem dX10_forBase0_7 : decode cX10_forBase0 7 = .ok (.getfield 19, 3) := by decide +kernel
theorem dX10_forBase0_10 : decode cX10_forBase0 10 = .ok (.iload_n 2, 1) := by decide +kernel
theorem dX10_forBase0_11 : decode cX10_forBase0 11 = .ok (.iaload, 1) := by decide +kernel
theorem dX10_forBase0_12 : decode cX10_forBase0 12 = .ok (.istore_n 3, 1) := by decide +kernel
theorem dX10_forBase0_13 : decode cX10_forBase0 13 = .ok (.iconst 0, 1) := by decide +kernel
theorem dX10_forBase0_14 : decode cX10_forBase0 14 = .ok (.istore 4, 2) := by decide +kernel
theorem dX10_forBase0_16 : decode cX10_forBase0 16 = .ok (.iload 4, 2) := by decide +kernel
theorem dX10_forBase0_18 : decode cX10_forBase0 18 = .ok (.aload_n 0, 1) := by decide +kernel
theorem dX10_forBase0_19 : decode cX10_forBase0 19 = .ok (.getfield 19, 3) := by decide +kernel
theorem dX10_forBase0_22 : decode cX10_forBase0 22 = .ok (.iload_n 2, 1) := by decide +kernel
theorem dX10_forBase0_23 : decode cX10_forBase0 23 = .ok (.iaload, 1) := by decide +kernel
theorem dX10_forBase0_24 : decode cX10_forBase0 24 = .ok (.if_icmp .ge 33, 3) := by decide +kernel
theorem dX10_forBase0_27 : decode cX10_forBase0 27 = .ok (.iload_n 3, 1) := by decide +kernel
theorem dX10_forBase0_28 : decode cX10_forBase0 28 = .ok (.aload_n 0, 1) := by decide +kernel
theorem dX10_forBase0_29 : decode cX10_forBase0 29 = .ok (.iload_n 2, 1) := by decide +kernel
theorem dX10_forBase0_30 : decode cX10_forBase0 30 = .ok (.iload 4, 2) := by decide +kernel
theorem dX10_forBase0_32 : decode cX10_forBase0 32 = .ok (.invokevirtual 166, 3) := by decide +kernel
theorem dX10_forBase0_35 : decode cX10_forBase0 35 = .ok (.ifCond .eq 13, 3) := by decide +kernel
theorem dX10_forBase0_38 : decode cX10_forBase0 38 = .ok (.aload_n 0, 1) := by decide +kernel
theorem dX10_forBase0_39 : decode cX10_forBase0 39 = .ok (.iload_n 2, 1) := by decide +kernel
theorem dX10_forBase0_40 : decode cX10_forBase0 40 = .ok (.iload 4, 2) := by decide +kernel
theorem dX10_forBase0_42 : decode cX10_forBase0 42 = .ok (.invokevirtual 144, 3) := by decide +kernel
theorem dX10_forBase0_45 : decode cX10_forBase0 45 = .ok (.goto 4, 3) := by decide +kernel
theorem dX10_forBase0_48 : decode cX10_forBase0 48 = .ok (.iconst 0, 1) := by decide +kernel
theorem dX10_forBase0_49 : decode cX10_forBase0 49 = .ok (.iadd, 1) := by decide +kernel
theorem dX10_forBase0_50 : decode cX10_forBase0 50 = .ok (.istore_n 3, 1) := by decide +kernel
theorem dX10_forBase0_51 : decode cX10_forBase0 51 = .ok (.iinc 4 1, 3) := by decide +kernel
theorem dX10_forBase0_54 : decode cX10_forBase0 54 = .ok (.goto (-38), 3) := by decide +kernel
theorem dX10_forBase0_57 : decode cX10_forBase0 57 = .ok (.iload_n 3, 1) := by decide +kernel
theorem dX10_forBase0_58 : decode cX10_forBase0 58 = .ok (.ireturn, 1) := by decide +kernel
set_option maxRecDepth 20000 in
theorem ggX10_forDifference0_X10_cuts : GoodIn wsX10_forDifference0 wsX10_cuts := goodIn_r _ [6, 1, 7, 8, 9, 10, 11, 12, 13, 14, 5, 15, 16, 17, 18, 19, 20, 21, 22, 23, 64, 65, 66, 67, 68, 69, 70, 71, 72, 73, 74, 75, 76, 77, 78, 79, 80, 81, 82, 83, 84, 85, 86, 87, 88, 89, 90, 91, 92, 93] (by decide +kernel) (by decide +kernel)
set_option maxRecDepth 20000 in
theorem gX10_forDifference0_X10_cuts : GoodIn wsX10_forDifference0 (wsV RX10 138 RX10 yX10_cuts wsX10_cuts) := goodIn_app (goodIn_of _ (by decide +kernel)) ggX10_forDifference0_X10_cuts
set_option maxRecDepth 20000 in
theorem ggX10_forDifference0_X10_isFirst : GoodIn wsX10_forDifference0 wsX10_isFirst := goodIn_r _ [27, 28, 29, 30, 5, 31, 32, 33, 34, 35, 11, 36, 37, 38, 39, 19, 20, 21, 22, 23, 64, 65, 66, 67, 68, 69, 70, 71, 72, 73, 74, 75, 76, 77, 78, 79, 80, 81, 82, 83, 84, 85, 86, 87, 88, 89, 90, 91, 92, 93] (by decide +kernel) (by decide +kernel)
set_option maxRecDepth 20000 in
theorem gX10_forDifference0_X10_isFirst : GoodIn wsX10_forDifference0 (wsV RX10 166 RX10 yX10_isFirst wsX10_isFirst) := goodIn_app (goodIn_of _ (by decide +kernel)) ggX10_forDifference0_X10_isFirst
set_option maxRecDepth 20000 in
theorem ggX10_forDifference0_X10_isInChain : GoodIn wsX10_forDifference0 wsX10_isInChain := goodIn_r _ [43, 44, 45, 46, 47, 5, 48, 49, 50, 51, 52, 53, 54, 55, 56, 57, 58, 59, 60, 61, 62, 1, 63, 28, 29, 30, 31, 32, 33, 34, 35, 11, 36, 37, 38, 39, 19, 20, 21, 22, 23, 64, 65, 66, 67, 68, 69, 70, 71, 72, 73, 74, 75, 76, 77, 78, 79, 80, 81, 82, 83, 84, 85, 86, 87, 88, 89, 90, 91, 92, 93] (by decide +kernel) (by decide +kernel)
set_option maxRecDepth 20000 in
theorem gX10_forDifference0_X10_isInChain : GoodIn wsX10_forDifference0 (wsV RX10 169 RX10 yX10_isInChain wsX10_isInChain) := goodIn_app (goodIn_of _ (by decide +kernel)) ggX10_forDifference0_X10_isInChain
set_option maxRecDepth 20000 in
theorem ggX10_forDifference0_X10_bytesOf : GoodIn wsX10_forDifference0 wsX10_bytesOf := goodIn_r _ [35, 11, 36, 37, 38, 5, 39, 64, 65, 66, 67, 68, 69, 70, 71, 72, 73, 74, 75, 76, 77, 78, 79, 80, 81, 82, 83, 84, 85, 86, 87, 88, 89, 90, 91, 92, 93] (by decide +kernel) (by decide +kernel)
set_option maxRecDepth 20000 in
theorem gX10_forDifference0_X10_bytesOf : GoodIn wsX10_forDifference0 (wsV RX10 144 RX10 yX10_bytesOf wsX10_bytesOf) := goodIn_app (goodIn_of _ (by decide +kernel)) ggX10_forDifference0_X10_bytesOf
theorem dX10_forDifference0_0 : decode cX10_forDifference0 0 = .ok (.aload_n 0, 1) := by decide +kernel
theorem dX10_forDifference0_1 : decode cX10_forDifference0 1 = .ok (.iload_n 1, 1) := by decide +kernel
theorem dX10_forDifference0_2 : decode cX10_forDifference0 2 = .ok (.invokevirtual 138, 3) := by decide +kernel
theorem dX10_forDifference0_5 : decode cX10_forDifference0 5 = .ok (.istore_n 2, 1) := by decide +kernel
theorem dX10_forDifference0_6 : decode cX10_forDifference0 6 = .ok (.aload_n 0, 1) := by decide +kernel
theorem dX10_forDifference0_7 : decode cX10_forDifference0 7 = .ok (.getfield 19, 3) := by decide +kernel
theorem dX10_forDifference0_10 : decode cX10_forDifference0 10 = .ok (.iload_n 2, 1) := by decide +kernel
theorem dX10_forDifference0_11 : decode cX10_forDifference0 11 = .ok (.iaload, 1) := by decide +kernel
theorem dX10_forDifference0_12 : decode cX10_forDifference0 12 = .ok (.istore_n 3, 1) := by decide +kernel
theorem dX10_forDifference0_13 : decode cX10_forDifference0 13 = .ok (.iconst 0, 1) := by decide +kernel
theorem dX10_forDifference0_14 : decode cX10_forDifference0 14 = .ok (.istore 4, 2) := by decide +kernel
theorem dX10_forDifference0_16 : decode cX10_forDifference0 16 = .ok (.iload 4, 2) := by decide +kernel
theorem dX10_forDifference0_18 : decode cX10_forDifference0 18 = .ok (.aload_n 0, 1) := by decide +kernel
theorem dX10_forDifference0_19 : decode cX10_forDifference0 19 = .ok (.getfield 19, 3) := by decide +kernel
theorem dX10_forDifference0_22 : decode cX10_forDifference0 22 = .ok (.iload_n 2, 1) := by decide +kernel
theorem dX10_forDifference0_23 : decode cX10_forDifference0 23 = .ok (.iaload, 1) := by decide +kernel
theorem dX10_forDifference0_24 : decode cX10_forDifference0 24 = .ok (.if_icmp .ge 44, 3) := by decide +kernel
theorem dX10_forDifference0_27 : decode cX10_forDifference0 27 = .ok (.iload_n 3, 1) := by decide +kernel
theorem dX10_forDifference0_28 : decode cX10_forDifference0 28 = .ok (.aload_n 0, 1) := by decide +kernel
theorem dX10_forDifference0_29 : decode cX10_forDifference0 29 = .ok (.iload_n 2, 1) := by decide +kernel
theorem dX10_forDifference0_30 : decode cX10_forDifference0 30 = .ok (.iload 4, 2) := by decide +kernel
theorem dX10_forDifference0_32 : decode cX10_forDifference0 32 = .ok (.invokevirtual 166, 3) := by decide +kernel
theorem dX10_forDifference0_35 : decode cX10_forDifference0 35 = .ok (.ifCond .eq 24, 3) := by decide +kernel
theorem dX10_forDifference0_38 : decode cX10_forDifference0 38 = .ok (.aload_n 0, 1) := by decide +kernel
theorem dX10_forDifference0_39 : decode cX10_forDifference0 39 = .ok (.iload_n 1, 1) := by decide +kernel
theorem dX10_forDifference0_40 : decode cX10_forDifference0 40 = .ok (.iload_n 2, 1) := by decide +kernel
theorem dX10_forDifference0_41 : decode cX10_forDifference0 41 = .ok (.iload 4, 2) := by decide +kernel
theorem dX10_forDifference0_43 : decode cX10_forDifference0 43 = .ok (.invokevirtual 169, 3) := by decide +kernel
theorem dX10_forDifference0_46 : decode cX10_forDifference0 46 = .ok (.ifCond .ne 13, 3) := by decide +kernel
theorem dX10_forDifference0_49 : decode cX10_forDifference0 49 = .ok (.aload_n 0, 1) := by decide +kernel
theorem dX10_forDifference0_50 : decode cX10_forDifference0 50 = .ok (.iload_n 2, 1) := by decide +kernel
theorem dX10_forDifference0_51 : decode cX10_forDifference0 51 = .ok (.iload 4, 2) := by decide +kernel
theorem dX10_forDifference0_53 : decode cX10_forDifference0 53 = .ok (.invokevirtual 144, 3) := by decide +kernel
theorem dX10_forDifference0_56 : decode cX10_forDifference0 56 = .ok (.goto 4, 3) := by decide +kernel
theorem dX10_forDifference0_59 : decode cX10_forDifference0 59 = .ok (.iconst 0, 1) := by decide +kernel
theorem dX10_forDifference0_60 : decode cX10_forDifference0 60 = .ok (.iadd, 1) := by decide +kernel
theorem dX10_forDifference0_61 : decode cX10_forDifference0 61 = .ok (.istore_n 3, 1) := by decide +kernel
theorem dX10_forDifference0_62 : decode cX10_forDifference0 62 = .ok (.iinc 4 1, 3) := by decide +kernel
theorem dX10_forDifference0_65 : decode cX10_forDifference0 65 = .ok (.goto (-49), 3) := by decide +kernel
theorem dX10_forDifference0_68 : decode cX10_forDifference0 68 = .ok (.iload_n 3, 1) := by decide +kernel
theorem dX10_forDifference0_69 : decode cX10_forDifference0 69 = .ok (.ireturn, 1) := by decide +kernel
set_option maxRecDepth 20000 in
theorem ggX10_store_X10_isSame : GoodIn wsX10_store wsX10_isSame := goodIn_r _ [10, 11, 12, 13, 9, 14, 15, 16, 17, 18, 19, 20, 21, 22, 23, 24, 25, 26, 27, 28, 29, 30, 31, 32, 33, 34, 35, 36, 37, 38, 39, 40, 41, 42, 43, 44, 45, 46, 47, 48, 49, 50, 51, 52, 53, 54] (by decide +kernel) (by decide +kernel)
set_option maxRecDepth 20000 in
theorem gX10_store_X10_isSame : GoodIn wsX10_store (wsV RX10 147 RX10 yX10_isSame wsX10_isSame) := goodIn_app (goodIn_of _ (by decide +kernel)) ggX10_store_X10_isSame
theorem dX10_store_0 : decode cX10_store 0 = .ok (.aload_n 0, 1) := by decide +kernel
theorem dX10_store_1 : decode cX10_store 1 = .ok (.iconst 0, 1) := by decide +kernel
theorem dX10_store_2 : decode cX10_store 2 = .ok (.putfield 96, 3) := by decide +kernel
theorem dX10_store_5 : decode cX10_store 5 = .ok (.iconst 0, 1) := by decide +kernel
theorem dX10_store_6 : decode cX10_store 6 = .ok (.istore_n 1, 1) := by decide +kernel
theorem dX10_store_7 : decode cX10_store 7 = .ok (.iconst 0, 1) := by decide +kernel
theorem dX10_store_8 : decode cX10_store 8 = .ok (.istore_n 2, 1) := by decide +kernel
theorem dX10_store_9 : decode cX10_store 9 = .ok (.iload_n 2, 1) := by decide +kernel
theorem dX10_store_10 : decode cX10_store 10 = .ok (.sipush 240, 3) := by decide +kernel
theorem dX10_store_13 : decode cX10_store 13 = .ok (.if_icmp .ge 112, 3) := by decide +kernel
theorem dX10_store_16 : decode cX10_store 16 = .ok (.iconst 0, 1) := by decide +kernel
theorem dX10_store_17 : decode cX10_store 17 = .ok (.istore_n 3, 1) := by decide +kernel
theorem dX10_store_18 : decode cX10_store 18 = .ok (.iload_n 3, 1) := by decide +kernel
theorem dX10_store_19 : decode cX10_store 19 = .ok (.aload_n 0, 1) := by decide +kernel
theorem dX10_store_20 : decode cX10_store 20 = .ok (.getfield 19, 3) := by decide +kernel
theorem dX10_store_23 : decode cX10_store 23 = .ok (.iload_n 2, 1) := by decide +kernel
theorem dX10_store_24 : decode cX10_store 24 = .ok (.iaload, 1) := by decide +kernel
theorem dX10_store_25 : decode cX10_store 25 = .ok (.if_icmp .ge 94, 3) := by decide +kernel
theorem dX10_store_28 : decode cX10_store 28 = .ok (.aload_n 0, 1) := by decide +kernel
theorem dX10_store_29 : decode cX10_store 29 = .ok (.getfield 28, 3) := by decide +kernel
theorem dX10_store_32 : decode cX10_store 32 = .ok (.bipush 48, 2) := by decide +kernel
theorem dX10_store_34 : decode cX10_store 34 = .ok (.iload_n 2, 1) := by decide +kernel
theorem dX10_store_35 : decode cX10_store 35 = .ok (.imul, 1) := by decide +kernel
theorem dX10_store_36 : decode cX10_store 36 = .ok (.iload_n 3, 1) := by decide +kernel
theorem dX10_store_37 : decode cX10_store 37 = .ok (.iadd, 1) := by decide +kernel
theorem dX10_store_38 : decode cX10_store 38 = .ok (.baload, 1) := by decide +kernel
theorem dX10_store_39 : decode cX10_store 39 = .ok (.istore 4, 2) := by decide +kernel
theorem dX10_store_41 : decode cX10_store 41 = .ok (.iconst 0, 1) := by decide +kernel
theorem dX10_store_42 : decode cX10_store 42 = .ok (.istore 5, 2) := by decide +kernel
theorem dX10_store_44 : decode cX10_store 44 = .ok (.iload 5, 2) := by decide +kernel
theorem dX10_store_46 : decode cX10_store 46 = .ok (.iload_n 1, 1) := by decide +kernel
theorem dX10_store_47 : decode cX10_store 47 = .ok (.if_icmp .ge 44, 3) := by decide +kernel
theorem dX10_store_50 : decode cX10_store 50 = .ok (.iload 4, 2) := by decide +kernel
theorem dX10_store_52 : decode cX10_store 52 = .ok (.ifCond .eq 39, 3) := by decide +kernel
theorem dX10_store_55 : decode cX10_store 55 = .ok (.aload_n 0, 1) := by decide +kernel
theorem dX10_store_56 : decode cX10_store 56 = .ok (.aload_n 0, 1) := by decide +kernel
theorem dX10_store_57 : decode cX10_store 57 = .ok (.getfield 90, 3) := by decide +kernel
theorem dX10_store_60 : decode cX10_store 60 = .ok (.iload 5, 2) := by decide +kernel
theorem dX10_store_62 : decode cX10_store 62 = .ok (.iaload, 1) := by decide +kernel
theorem dX10_store_63 : decode cX10_store 63 = .ok (.aload_n 0, 1) := by decide +kernel
theorem dX10_store_64 : decode cX10_store 64 = .ok (.getfield 93, 3) := by decide +kernel
theorem dX10_store_67 : decode cX10_store 67 = .ok (.iload 5, 2) := by decide +kernel
theorem dX10_store_69 : decode cX10_store 69 = .ok (.iaload, 1) := by decide +kernel
theorem dX10_store_70 : decode cX10_store 70 = .ok (.iload_n 2, 1) := by decide +kernel
theorem dX10_store_71 : decode cX10_store 71 = .ok (.iload_n 3, 1) := by decide +kernel
theorem dX10_store_72 : decode cX10_store 72 = .ok (.invokevirtual 147, 3) := by decide +kernel
theorem dX10_store_75 : decode cX10_store 75 = .ok (.ifCond .ne 7, 3) := by decide +kernel
theorem dX10_store_78 : decode cX10_store 78 = .ok (.iconst 1, 1) := by decide +kernel
theorem dX10_store_79 : decode cX10_store 79 = .ok (.goto 4, 3) := by decide +kernel
theorem dX10_store_82 : decode cX10_store 82 = .ok (.iconst 0, 1) := by decide +kernel
theorem dX10_store_83 : decode cX10_store 83 = .ok (.istore 4, 2) := by decide +kernel
theorem dX10_store_85 : decode cX10_store 85 = .ok (.iinc 5 1, 3) := by decide +kernel
theorem dX10_store_88 : decode cX10_store 88 = .ok (.goto (-44), 3) := by decide +kernel
theorem dX10_store_91 : decode cX10_store 91 = .ok (.iload 4, 2) := by decide +kernel
theorem dX10_store_93 : decode cX10_store 93 = .ok (.ifCond .eq 20, 3) := by decide +kernel
theorem dX10_store_96 : decode cX10_store 96 = .ok (.aload_n 0, 1) := by decide +kernel
theorem dX10_store_97 : decode cX10_store 97 = .ok (.getfield 90, 3) := by decide +kernel
theorem dX10_store_100 : decode cX10_store 100 = .ok (.iload_n 1, 1) := by decide +kernel
theorem dX10_store_101 : decode cX10_store 101 = .ok (.iload_n 2, 1) := by decide +kernel
theorem dX10_store_102 : decode cX10_store 102 = .ok (.iastore, 1) := by decide +kernel
theorem dX10_store_103 : decode cX10_store 103 = .ok (.aload_n 0, 1) := by decide +kernel
theorem dX10_store_104 : decode cX10_store 104 = .ok (.getfield 93, 3) := by decide +kernel
theorem dX10_store_107 : decode cX10_store 107 = .ok (.iload_n 1, 1) := by decide +kernel
theorem dX10_store_108 : decode cX10_store 108 = .ok (.iload_n 3, 1) := by decide +kernel
theorem dX10_store_109 : decode cX10_store 109 = .ok (.iastore, 1) := by decide +kernel
theorem dX10_store_110 : decode cX10_store 110 = .ok (.iinc 1 1, 3) := by decide +kernel
theorem dX10_store_113 : decode cX10_store 113 = .ok (.iinc 3 1, 3) := by decide +kernel
theorem dX10_store_116 : decode cX10_store 116 = .ok (.goto (-98), 3) := by decide +kernel
theorem dX10_store_119 : decode cX10_store 119 = .ok (.iinc 2 1, 3) := by decide +kernel
theorem dX10_store_122 : decode cX10_store 122 = .ok (.goto (-113), 3) := by decide +kernel
theorem dX10_store_125 : decode cX10_store 125 = .ok (.iload_n 1, 1) := by decide +kernel
theorem dX10_store_126 : decode cX10_store 126 = .ok (.ireturn, 1) := by decide +kernel
set_option maxRecDepth 20000 in
theorem ggX10_setNight_X10_isIn : GoodIn wsX10_setNight wsX10_isIn := goodIn_r _ [6] (by decide +kernel) (by decide +kernel)
set_option maxRecDepth 20000 in
theorem gX10_setNight_X10_isIn : GoodIn wsX10_setNight (va_wsS RX10 99 yX10_isIn wsX10_isIn) := goodIn_app (goodIn_of _ (by decide +kernel)) ggX10_setNight_X10_isIn
set_option maxRecDepth 20000 in
theorem ggX10_setNight_X10_isFine : GoodIn wsX10_setNight wsX10_isFine := goodIn_r _ [10, 11, 12, 13, 14, 15, 16, 17, 18, 19, 20, 21, 22, 23, 24, 25, 26, 27, 28, 29, 30, 31, 32, 33, 34, 35, 36, 37, 38, 39, 40, 41] (by decide +kernel) (by decide +kernel)
set_option maxRecDepth 20000 in
theorem gX10_setNight_X10_isFine : GoodIn wsX10_setNight (wsV RX10 114 RX10 yX10_isFine wsX10_isFine) := goodIn_app (goodIn_of _ (by decide +kernel)) ggX10_setNight_X10_isFine
theorem dX10_setNight_0 : decode cX10_setNight 0 = .ok (.aload_n 0, 1) := by decide +kernel
theorem dX10_setNight_1 : decode cX10_setNight 1 = .ok (.iload_n 1, 1) := by decide +kernel
theorem dX10_setNight_2 : decode cX10_setNight 2 = .ok (.iconst 0, 1) := by decide +kernel
theorem dX10_setNight_3 : decode cX10_setNight 3 = .ok (.sipush 500, 3) := by decide +kernel
theorem dX10_setNight_6 : decode cX10_setNight 6 = .ok (.invokestatic 99, 3) := by decide +kernel
theorem dX10_setNight_9 : decode cX10_setNight 9 = .ok (.ifCond .eq 17, 3) := by decide +kernel
theorem dX10_setNight_12 : decode cX10_setNight 12 = .ok (.iload_n 2, 1) := by decide +kernel
theorem dX10_setNight_13 : decode cX10_setNight 13 = .ok (.iconst 0, 1) := by decide +kernel
theorem dX10_setNight_14 : decode cX10_setNight 14 = .ok (.bipush 50, 2) := by decide +kernel
theorem dX10_setNight_16 : decode cX10_setNight 16 = .ok (.invokestatic 99, 3) := by decide +kernel
theorem dX10_setNight_19 : decode cX10_setNight 19 = .ok (.ifCond .eq 7, 3) := by decide +kernel
theorem dX10_setNight_22 : decode cX10_setNight 22 = .ok (.iconst 0, 1) := by decide +kernel
theorem dX10_setNight_23 : decode cX10_setNight 23 = .ok (.goto 4, 3) := by decide +kernel
theorem dX10_setNight_26 : decode cX10_setNight 26 = .ok (.iconst 1, 1) := by decide +kernel
theorem dX10_setNight_27 : decode cX10_setNight 27 = .ok (.invokevirtual 114, 3) := by decide +kernel
theorem dX10_setNight_30 : decode cX10_setNight 30 = .ok (.ifCond .eq 13, 3) := by decide +kernel
theorem dX10_setNight_33 : decode cX10_setNight 33 = .ok (.aload_n 0, 1) := by decide +kernel
theorem dX10_setNight_34 : decode cX10_setNight 34 = .ok (.iload_n 1, 1) := by decide +kernel
theorem dX10_setNight_35 : decode cX10_setNight 35 = .ok (.putfield 42, 3) := by decide +kernel
theorem dX10_setNight_38 : decode cX10_setNight 38 = .ok (.aload_n 0, 1) := by decide +kernel
theorem dX10_setNight_39 : decode cX10_setNight 39 = .ok (.iload_n 2, 1) := by decide +kernel
theorem dX10_setNight_40 : decode cX10_setNight 40 = .ok (.putfield 45, 3) := by decide +kernel
theorem dX10_setNight_43 : decode cX10_setNight 43 = .ok (.return_, 1) := by decide +kernel
set_option maxRecDepth 20000 in
theorem ggX10_bid_X10_isClient : GoodIn wsX10_bid wsX10_isClient := goodIn_r _ [5, 6, 7, 4, 8] (by decide +kernel) (by decide +kernel)
set_option maxRecDepth 20000 in
theorem gX10_bid_X10_isClient : GoodIn wsX10_bid (va_wsS RX10 103 yX10_isClient wsX10_isClient) := goodIn_app (goodIn_of _ (by decide +kernel)) ggX10_bid_X10_isClient
set_option maxRecDepth 20000 in
theorem ggX10_bid_X10_isIn : GoodIn wsX10_bid wsX10_isIn := goodIn_r _ [8] (by decide +kernel) (by decide +kernel)
set_option maxRecDepth 20000 in
theorem gX10_bid_X10_isIn : GoodIn wsX10_bid (va_wsS RX10 99 yX10_isIn wsX10_isIn) := goodIn_app (goodIn_of _ (by decide +kernel)) ggX10_bid_X10_isIn
set_option maxRecDepth 20000 in
theorem ggX10_bid_X10_isFine : GoodIn wsX10_bid wsX10_isFine := goodIn_r _ [12, 13, 14, 15, 16, 17, 18, 19, 20, 21, 22, 23, 24, 25, 26, 27, 28, 29, 30, 31, 32, 33, 34, 35, 36, 37, 38, 39, 40, 41, 42, 43] (by decide +kernel) (by decide +kernel)
set_option maxRecDepth 20000 in
theorem gX10_bid_X10_isFine : GoodIn wsX10_bid (wsV RX10 114 RX10 yX10_isFine wsX10_isFine) := goodIn_app (goodIn_of _ (by decide +kernel)) ggX10_bid_X10_isFine
theorem dX10_bid_0 : decode cX10_bid 0 = .ok (.aload_n 0, 1) := by decide +kernel
theorem dX10_bid_1 : decode cX10_bid 1 = .ok (.iload_n 1, 1) := by decide +kernel
theorem dX10_bid_2 : decode cX10_bid 2 = .ok (.invokestatic 103, 3) := by decide +kernel
theorem dX10_bid_5 : decode cX10_bid 5 = .ok (.ifCond .eq 17, 3) := by decide +kernel
theorem dX10_bid_8 : decode cX10_bid 8 = .ok (.iload_n 2, 1) := by decide +kernel
theorem dX10_bid_9 : decode cX10_bid 9 = .ok (.iconst 0, 1) := by decide +kernel
theorem dX10_bid_10 : decode cX10_bid 10 = .ok (.bipush 100, 2) := by decide +kernel
theorem dX10_bid_12 : decode cX10_bid 12 = .ok (.invokestatic 99, 3) := by decide +kernel
theorem dX10_bid_15 : decode cX10_bid 15 = .ok (.ifCond .eq 7, 3) := by decide +kernel
theorem dX10_bid_18 : decode cX10_bid 18 = .ok (.iconst 0, 1) := by decide +kernel
theorem dX10_bid_19 : decode cX10_bid 19 = .ok (.goto 4, 3) := by decide +kernel
theorem dX10_bid_22 : decode cX10_bid 22 = .ok (.iconst 1, 1) := by decide +kernel
theorem dX10_bid_23 : decode cX10_bid 23 = .ok (.invokevirtual 114, 3) := by decide +kernel
theorem dX10_bid_26 : decode cX10_bid 26 = .ok (.ifCond .ne 5, 3) := by decide +kernel
theorem dX10_bid_29 : decode cX10_bid 29 = .ok (.iconst 0, 1) := by decide +kernel
theorem dX10_bid_30 : decode cX10_bid 30 = .ok (.ireturn, 1) := by decide +kernel
theorem dX10_bid_31 : decode cX10_bid 31 = .ok (.aload_n 0, 1) := by decide +kernel
theorem dX10_bid_32 : decode cX10_bid 32 = .ok (.getfield 54, 3) := by decide +kernel
theorem dX10_bid_35 : decode cX10_bid 35 = .ok (.iload_n 1, 1) := by decide +kernel
theorem dX10_bid_36 : decode cX10_bid 36 = .ok (.iaload, 1) := by decide +kernel
theorem dX10_bid_37 : decode cX10_bid 37 = .ok (.istore_n 3, 1) := by decide +kernel
theorem dX10_bid_38 : decode cX10_bid 38 = .ok (.aload_n 0, 1) := by decide +kernel
theorem dX10_bid_39 : decode cX10_bid 39 = .ok (.getfield 54, 3) := by decide +kernel
theorem dX10_bid_42 : decode cX10_bid 42 = .ok (.iload_n 1, 1) := by decide +kernel
theorem dX10_bid_43 : decode cX10_bid 43 = .ok (.iload_n 2, 1) := by decide +kernel
theorem dX10_bid_44 : decode cX10_bid 44 = .ok (.iastore, 1) := by decide +kernel
theorem dX10_bid_45 : decode cX10_bid 45 = .ok (.iload_n 3, 1) := by decide +kernel
theorem dX10_bid_46 : decode cX10_bid 46 = .ok (.ireturn, 1) := by decide +kernel
set_option maxRecDepth 20000 in
theorem ggX10_setChain_X10_isClient : GoodIn wsX10_setChain wsX10_isClient := goodIn_r _ [6, 7, 8, 5, 9] (by decide +kernel) (by decide +kernel)
set_option maxRecDepth 20000 in
theorem gX10_setChain_X10_isClient : GoodIn wsX10_setChain (va_wsS RX10 103 yX10_isClient wsX10_isClient) := goodIn_app (goodIn_of _ (by decide +kernel)) ggX10_setChain_X10_isClient
set_option maxRecDepth 20000 in
theorem ggX10_setChain_X10_isIn : GoodIn wsX10_setChain wsX10_isIn := goodIn_r _ [9] (by decide +kernel) (by decide +kernel)
set_option maxRecDepth 20000 in
theorem gX10_setChain_X10_isIn : GoodIn wsX10_setChain (va_wsS RX10 99 yX10_isIn wsX10_isIn) := goodIn_app (goodIn_of _ (by decide +kernel)) ggX10_setChain_X10_isIn
set_option maxRecDepth 20000 in
theorem ggX10_setChain_X10_isFine : GoodIn wsX10_setChain wsX10_isFine := goodIn_r _ [13, 14, 15, 16, 17, 18, 19, 20, 21, 22, 23, 24, 25, 26, 27, 28, 29, 30, 31, 32, 33, 34, 35, 36, 37, 38, 39, 40, 41, 42, 43, 44] (by decide +kernel) (by decide +kernel)
set_option maxRecDepth 20000 in
theorem gX10_setChain_X10_isFine : GoodIn wsX10_setChain (wsV RX10 114 RX10 yX10_isFine wsX10_isFine) := goodIn_app (goodIn_of _ (by decide +kernel)) ggX10_setChain_X10_isFine
theorem dX10_setChain_0 : decode cX10_setChain 0 = .ok (.aload_n 0, 1) := by decide +kernel
theorem dX10_setChain_1 : decode cX10_setChain 1 = .ok (.iload_n 1, 1) := by decide +kernel
theorem dX10_setChain_2 : decode cX10_setChain 2 = .ok (.invokestatic 103, 3) := by decide +kernel
theorem dX10_setChain_5 : decode cX10_setChain 5 = .ok (.ifCond .eq 27, 3) := by decide +kernel
theorem dX10_setChain_8 : decode cX10_setChain 8 = .ok (.iload_n 2, 1) := by decide +kernel
theorem dX10_setChain_9 : decode cX10_setChain 9 = .ok (.iconst 0, 1) := by decide +kernel
theorem dX10_setChain_10 : decode cX10_setChain 10 = .ok (.bipush 30, 2) := by decide +kernel
theorem dX10_setChain_12 : decode cX10_setChain 12 = .ok (.invokestatic 99, 3) := by decide +kernel
theorem dX10_setChain_15 : decode cX10_setChain 15 = .ok (.ifCond .eq 17, 3) := by decide +kernel
theorem dX10_setChain_18 : decode cX10_setChain 18 = .ok (.iload_n 3, 1) := by decide +kernel
theorem dX10_setChain_19 : decode cX10_setChain 19 = .ok (.iconst 0, 1) := by decide +kernel
theorem dX10_setChain_20 : decode cX10_setChain 20 = .ok (.bipush 50, 2) := by decide +kernel
theorem dX10_setChain_22 : decode cX10_setChain 22 = .ok (.invokestatic 99, 3) := by decide +kernel
theorem dX10_setChain_25 : decode cX10_setChain 25 = .ok (.ifCond .eq 7, 3) := by decide +kernel
theorem dX10_setChain_28 : decode cX10_setChain 28 = .ok (.iconst 0, 1) := by decide +kernel
theorem dX10_setChain_29 : decode cX10_setChain 29 = .ok (.goto 4, 3) := by decide +kernel
theorem dX10_setChain_32 : decode cX10_setChain 32 = .ok (.iconst 1, 1) := by decide +kernel
theorem dX10_setChain_33 : decode cX10_setChain 33 = .ok (.invokevirtual 114, 3) := by decide +kernel
theorem dX10_setChain_36 : decode cX10_setChain 36 = .ok (.ifCond .eq 17, 3) := by decide +kernel
theorem dX10_setChain_39 : decode cX10_setChain 39 = .ok (.aload_n 0, 1) := by decide +kernel
theorem dX10_setChain_40 : decode cX10_setChain 40 = .ok (.getfield 57, 3) := by decide +kernel
theorem dX10_setChain_43 : decode cX10_setChain 43 = .ok (.iload_n 1, 1) := by decide +kernel
theorem dX10_setChain_44 : decode cX10_setChain 44 = .ok (.iload_n 2, 1) := by decide +kernel
theorem dX10_setChain_45 : decode cX10_setChain 45 = .ok (.iastore, 1) := by decide +kernel
theorem dX10_setChain_46 : decode cX10_setChain 46 = .ok (.aload_n 0, 1) := by decide +kernel
theorem dX10_setChain_47 : decode cX10_setChain 47 = .ok (.getfield 60, 3) := by decide +kernel
theorem dX10_setChain_50 : decode cX10_setChain 50 = .ok (.iload_n 1, 1) := by decide +kernel
theorem dX10_setChain_51 : decode cX10_setChain 51 = .ok (.iload_n 3, 1) := by decide +kernel
theorem dX10_setChain_52 : decode cX10_setChain 52 = .ok (.iastore, 1) := by decide +kernel
theorem dX10_setChain_53 : decode cX10_setChain 53 = .ok (.return_, 1) := by decide +kernel
set_option maxRecDepth 20000 in
theorem ggX10_forBase_X10_isClient : GoodIn wsX10_forBase wsX10_isClient := goodIn_r _ [4, 5, 6, 3, 7] (by decide +kernel) (by decide +kernel)
set_option maxRecDepth 20000 in
theorem gX10_forBase_X10_isClient : GoodIn wsX10_forBase (va_wsS RX10 103 yX10_isClient wsX10_isClient) := goodIn_app (goodIn_of _ (by decide +kernel)) ggX10_forBase_X10_isClient
set_option maxRecDepth 20000 in
theorem ggX10_forBase_X10_isFine : GoodIn wsX10_forBase wsX10_isFine := goodIn_r _ [11, 12, 55, 56, 57, 58, 59, 60, 61, 62, 63, 64, 65, 66, 67, 68, 69, 70, 71, 72, 73, 74, 75, 76, 77, 78, 79, 80, 81, 82, 83, 84] (by decide +kernel) (by decide +kernel)
set_option maxRecDepth 20000 in
theorem gX10_forBase_X10_isFine : GoodIn wsX10_forBase (wsV RX10 114 RX10 yX10_isFine wsX10_isFine) := goodIn_app (goodIn_of _ (by decide +kernel)) ggX10_forBase_X10_isFine
set_option maxRecDepth 20000 in
theorem ggX10_forBase_X10_forBase0 : GoodIn wsX10_forBase wsX10_forBase0 := goodIn_r _ [16, 17, 18, 19, 20, 3, 21, 22, 23, 24, 25, 26, 27, 28, 29, 30, 31, 32, 33, 34, 35, 36, 37, 38, 39, 40, 41, 42, 43, 44, 45, 46, 47, 48, 49, 50, 51, 52, 53, 54, 55, 56, 57, 58, 59, 60, 61, 62, 63, 64, 65, 66, 67, 68, 69, 70, 71, 72, 73, 74, 75, 76, 77, 78, 79, 80, 81, 82, 83, 84] (by decide +kernel) (by decide +kernel)
set_option maxRecDepth 20000 in
theorem gX10_forBase_X10_forBase0 : GoodIn wsX10_forBase (wsV RX10 172 RX10 yX10_forBase0 wsX10_forBase0) := goodIn_app (goodIn_of _ (by decide +kernel)) ggX10_forBase_X10_forBase0
theorem dX10_forBase_0 : decode cX10_forBase 0 = .ok (.aload_n 0, 1) := by decide +kernel
theorem dX10_forBase_1 : decode cX10_forBase 1 = .ok (.iload_n 1, 1) := by decide +kernel
theorem dX10_forBase_2 : decode cX10_forBase 2 = .ok (.invokestatic 103, 3) := by decide +kernel
theorem dX10_forBase_5 : decode cX10_forBase 5 = .ok (.ifCond .eq 7, 3) := by decide +kernel
theorem dX10_forBase_8 : decode cX10_forBase 8 = .ok (.iconst 0, 1) := by decide +kernel
theorem dX10_forBase_9 : decode cX10_forBase 9 = .ok (.goto 4, 3) := by decide +kernel
theorem dX10_forBase_12 : decode cX10_forBase 12 = .ok (.iconst 1, 1) := by decide +kernel
theorem dX10_forBase_13 : decode cX10_forBase 13 = .ok (.invokevirtual 114, 3) := by decide +kernel
theorem dX10_forBase_16 : decode cX10_forBase 16 = .ok (.ifCond .eq 11, 3) := by decide +kernel
theorem dX10_forBase_19 : decode cX10_forBase 19 = .ok (.aload_n 0, 1) := by decide +kernel
theorem dX10_forBase_20 : decode cX10_forBase 20 = .ok (.iload_n 1, 1) := by decide +kernel
theorem dX10_forBase_21 : decode cX10_forBase 21 = .ok (.invokevirtual 172, 3) := by decide +kernel
theorem dX10_forBase_24 : decode cX10_forBase 24 = .ok (.goto 4, 3) := by decide +kernel
theorem dX10_forBase_27 : decode cX10_forBase 27 = .ok (.iconst 0, 1) := by decide +kernel
theorem dX10_forBase_28 : decode cX10_forBase 28 = .ok (.ireturn, 1) := by decide +kernel
set_option maxRecDepth 20000 in
theorem ggX10_forDifference_X10_isClient : GoodIn wsX10_forDifference wsX10_isClient := goodIn_r _ [4, 5, 6, 3, 7] (by decide +kernel) (by decide +kernel)
set_option maxRecDepth 20000 in
theorem gX10_forDifference_X10_isClient : GoodIn wsX10_forDifference (va_wsS RX10 103 yX10_isClient wsX10_isClient) := goodIn_app (goodIn_of _ (by decide +kernel)) ggX10_forDifference_X10_isClient
set_option maxRecDepth 20000 in
theorem ggX10_forDifference_X10_latestNow : GoodIn wsX10_forDifference wsX10_latestNow := goodIn_r _ [11, 12, 13, 14, 15, 3, 16, 17, 79, 80, 81, 82, 83, 84, 85, 86, 87, 88, 89, 90, 91, 92, 93, 94, 95, 96, 97, 98, 99, 100, 101, 102, 103, 104, 105, 106, 107, 108] (by decide +kernel) (by decide +kernel)
set_option maxRecDepth 20000 in
theorem gX10_forDifference_X10_latestNow : GoodIn wsX10_forDifference (wsV RX10 157 RX10 yX10_latestNow wsX10_latestNow) := goodIn_app (goodIn_of _ (by decide +kernel)) ggX10_forDifference_X10_latestNow
set_option maxRecDepth 20000 in
theorem ggX10_forDifference_X10_isFine : GoodIn wsX10_forDifference wsX10_isFine := goodIn_r _ [21, 22, 79, 80, 81, 82, 83, 84, 85, 86, 87, 88, 89, 90, 91, 92, 93, 94, 95, 96, 97, 98, 99, 100, 101, 102, 103, 104, 105, 106, 107, 108] (by decide +kernel) (by decide +kernel)
set_option maxRecDepth 20000 in
theorem gX10_forDifference_X10_isFine : GoodIn wsX10_forDifference (wsV RX10 114 RX10 yX10_isFine wsX10_isFine) := goodIn_app (goodIn_of _ (by decide +kernel)) ggX10_forDifference_X10_isFine
set_option maxRecDepth 20000 in
theorem ggX10_forDifference_X10_forDifference0 : GoodIn wsX10_forDifference wsX10_forDifference0 := goodIn_r _ [26, 27, 28, 29, 30, 3, 31, 32, 33, 34, 35, 36, 37, 38, 39, 40, 41, 42, 43, 44, 45, 46, 47, 48, 49, 50, 51, 52, 53, 54, 55, 56, 57, 58, 59, 60, 61, 62, 63, 64, 65, 66, 67, 68, 12, 69, 70, 71, 72, 17, 73, 8, 9, 10, 11, 13, 14, 15, 16, 74, 75, 76, 77, 78, 79, 80, 81, 82, 83, 84, 85, 86, 87, 88, 89, 90, 91, 92, 93, 94, 95, 96, 97, 98, 99, 100, 101, 102, 103, 104, 105, 106, 107, 108] (by decide +kernel) (by decide +kernel)
set_option maxRecDepth 20000 in
theorem gX10_forDifference_X10_forDifference0 : GoodIn wsX10_forDifference (wsV RX10 175 RX10 yX10_forDifference0 wsX10_forDifference0) := goodIn_app (goodIn_of _ (by decide +kernel)) ggX10_forDifference_X10_forDifference0
theorem dX10_forDifference_0 : decode cX10_forDifference 0 = .ok (.iload_n 1, 1) := by decide +kernel
theorem dX10_forDifference_1 : decode cX10_forDifference 1 = .ok (.invokestatic 103, 3) := by decide +kernel
theorem dX10_forDifference_4 : decode cX10_forDifference 4 = .ok (.istore_n 2, 1) := by decide +kernel
theorem dX10_forDifference_5 : decode cX10_forDifference 5 = .ok (.aload_n 0, 1) := by decide +kernel
theorem dX10_forDifference_6 : decode cX10_forDifference 6 = .ok (.iload_n 2, 1) := by decide +kernel
theorem dX10_forDifference_7 : decode cX10_forDifference 7 = .ok (.ifCond .ne 7, 3) := by decide +kernel
theorem dX10_forDifference_10 : decode cX10_forDifference 10 = .ok (.iconst 1, 1) := by decide +kernel
theorem dX10_forDifference_11 : decode cX10_forDifference 11 = .ok (.goto 17, 3) := by decide +kernel
theorem dX10_forDifference_14 : decode cX10_forDifference 14 = .ok (.aload_n 0, 1) := by decide +kernel
theorem dX10_forDifference_15 : decode cX10_forDifference 15 = .ok (.iload_n 1, 1) := by decide +kernel
theorem dX10_forDifference_16 : decode cX10_forDifference 16 = .ok (.invokevirtual 157, 3) := by decide +kernel
theorem dX10_forDifference_19 : decode cX10_forDifference 19 = .ok (.iconst (-1), 1) := by decide +kernel
theorem dX10_forDifference_20 : decode cX10_forDifference 20 = .ok (.if_icmp .ne 7, 3) := by decide +kernel
theorem dX10_forDifference_23 : decode cX10_forDifference 23 = .ok (.iconst 2, 1) := by decide +kernel
theorem dX10_forDifference_24 : decode cX10_forDifference 24 = .ok (.goto 4, 3) := by decide +kernel
theorem dX10_forDifference_27 : decode cX10_forDifference 27 = .ok (.iconst 0, 1) := by decide +kernel
theorem dX10_forDifference_28 : decode cX10_forDifference 28 = .ok (.invokevirtual 114, 3) := by decide +kernel
theorem dX10_forDifference_31 : decode cX10_forDifference 31 = .ok (.ifCond .eq 11, 3) := by decide +kernel
theorem dX10_forDifference_34 : decode cX10_forDifference 34 = .ok (.aload_n 0, 1) := by decide +kernel
theorem dX10_forDifference_35 : decode cX10_forDifference 35 = .ok (.iload_n 1, 1) := by decide +kernel
theorem dX10_forDifference_36 : decode cX10_forDifference 36 = .ok (.invokevirtual 175, 3) := by decide +kernel
theorem dX10_forDifference_39 : decode cX10_forDifference 39 = .ok (.goto 4, 3) := by decide +kernel
theorem dX10_forDifference_42 : decode cX10_forDifference 42 = .ok (.iconst 0, 1) := by decide +kernel
theorem dX10_forDifference_43 : decode cX10_forDifference 43 = .ok (.ireturn, 1) := by decide +kernel
theorem dX10_differences_0 : decode cX10_differences 0 = .ok (.iconst (-1), 1) := by decide +kernel
theorem dX10_differences_1 : decode cX10_differences 1 = .ok (.istore_n 2, 1) := by decide +kernel
theorem dX10_differences_2 : decode cX10_differences 2 = .ok (.iconst 0, 1) := by decide +kernel
theorem dX10_differences_3 : decode cX10_differences 3 = .ok (.istore_n 3, 1) := by decide +kernel
theorem dX10_differences_4 : decode cX10_differences 4 = .ok (.iload_n 3, 1) := by decide +kernel
theorem dX10_differences_5 : decode cX10_differences 5 = .ok (.aload_n 0, 1) := by decide +kernel
theorem dX10_differences_6 : decode cX10_differences 6 = .ok (.getfield 151, 3) := by decide +kernel
theorem dX10_differences_9 : decode cX10_differences 9 = .ok (.if_icmp .ge 50, 3) := by decide +kernel
theorem dX10_differences_12 : decode cX10_differences 12 = .ok (.bipush 60, 2) := by decide +kernel
theorem dX10_differences_14 : decode cX10_differences 14 = .ok (.iload_n 1, 1) := by decide +kernel
theorem dX10_differences_15 : decode cX10_differences 15 = .ok (.imul, 1) := by decide +kernel
theorem dX10_differences_16 : decode cX10_differences 16 = .ok (.iload_n 3, 1) := by decide +kernel
theorem dX10_differences_17 : decode cX10_differences 17 = .ok (.iadd, 1) := by decide +kernel
theorem dX10_differences_18 : decode cX10_differences 18 = .ok (.istore 4, 2) := by decide +kernel
theorem dX10_differences_20 : decode cX10_differences 20 = .ok (.aload_n 0, 1) := by decide +kernel
theorem dX10_differences_21 : decode cX10_differences 21 = .ok (.getfield 22, 3) := by decide +kernel
theorem dX10_differences_24 : decode cX10_differences 24 = .ok (.iload 4, 2) := by decide +kernel
theorem dX10_differences_26 : decode cX10_differences 26 = .ok (.iaload, 1) := by decide +kernel
theorem dX10_differences_27 : decode cX10_differences 27 = .ok (.ifCond .ne 7, 3) := by decide +kernel
theorem dX10_differences_30 : decode cX10_differences 30 = .ok (.iload_n 2, 1) := by decide +kernel
theorem dX10_differences_31 : decode cX10_differences 31 = .ok (.goto 21, 3) := by decide +kernel
theorem dX10_differences_34 : decode cX10_differences 34 = .ok (.aload_n 0, 1) := by decide +kernel
theorem dX10_differences_35 : decode cX10_differences 35 = .ok (.getfield 22, 3) := by decide +kernel
theorem dX10_differences_38 : decode cX10_differences 38 = .ok (.iload 4, 2) := by decide +kernel
theorem dX10_differences_40 : decode cX10_differences 40 = .ok (.iaload, 1) := by decide +kernel
theorem dX10_differences_41 : decode cX10_differences 41 = .ok (.iconst 1, 1) := by decide +kernel
theorem dX10_differences_42 : decode cX10_differences 42 = .ok (.if_icmp .ne 7, 3) := by decide +kernel
theorem dX10_differences_45 : decode cX10_differences 45 = .ok (.iconst 0, 1) := by decide +kernel
theorem dX10_differences_46 : decode cX10_differences 46 = .ok (.goto 6, 3) := by decide +kernel
theorem dX10_differences_49 : decode cX10_differences 49 = .ok (.iload_n 2, 1) := by decide +kernel
theorem dX10_differences_50 : decode cX10_differences 50 = .ok (.iconst 1, 1) := by decide +kernel
theorem dX10_differences_51 : decode cX10_differences 51 = .ok (.iadd, 1) := by decide +kernel
theorem dX10_differences_52 : decode cX10_differences 52 = .ok (.istore_n 2, 1) := by decide +kernel
theorem dX10_differences_53 : decode cX10_differences 53 = .ok (.iinc 3 1, 3) := by decide +kernel
theorem dX10_differences_56 : decode cX10_differences 56 = .ok (.goto (-52), 3) := by decide +kernel
theorem dX10_differences_59 : decode cX10_differences 59 = .ok (.iload_n 2, 1) := by decide +kernel
theorem dX10_differences_60 : decode cX10_differences 60 = .ok (.ireturn, 1) := by decide +kernel
set_option maxRecDepth 20000 in
theorem ggX10_wantsBase_X10_differences : GoodIn wsX10_wantsBase wsX10_differences := goodIn_r _ [8, 9, 10, 11, 12, 13, 14, 15, 16, 17, 18, 19, 20, 21, 22, 23, 24, 25, 26, 27, 28, 29, 30, 31, 32, 33, 34, 35, 36, 37, 38, 39, 40] (by decide +kernel) (by decide +kernel)
set_option maxRecDepth 20000 in
theorem gX10_wantsBase_X10_differences : GoodIn wsX10_wantsBase (wsV RX10 178 RX10 yX10_differences wsX10_differences) := goodIn_app (goodIn_of _ (by decide +kernel)) ggX10_wantsBase_X10_differences
theorem dX10_wantsBase_0 : decode cX10_wantsBase 0 = .ok (.aload_n 0, 1) := by decide +kernel
theorem dX10_wantsBase_1 : decode cX10_wantsBase 1 = .ok (.iload_n 1, 1) := by decide +kernel
theorem dX10_wantsBase_2 : decode cX10_wantsBase 2 = .ok (.invokevirtual 178, 3) := by decide +kernel
theorem dX10_wantsBase_5 : decode cX10_wantsBase 5 = .ok (.iconst (-1), 1) := by decide +kernel
theorem dX10_wantsBase_6 : decode cX10_wantsBase 6 = .ok (.if_icmp .eq 30, 3) := by decide +kernel
theorem dX10_wantsBase_9 : decode cX10_wantsBase 9 = .ok (.aload_n 0, 1) := by decide +kernel
theorem dX10_wantsBase_10 : decode cX10_wantsBase 10 = .ok (.iload_n 1, 1) := by decide +kernel
theorem dX10_wantsBase_11 : decode cX10_wantsBase 11 = .ok (.invokevirtual 178, 3) := by decide +kernel
theorem dX10_wantsBase_14 : decode cX10_wantsBase 14 = .ok (.aload_n 0, 1) := by decide +kernel
theorem dX10_wantsBase_15 : decode cX10_wantsBase 15 = .ok (.getfield 57, 3) := by decide +kernel
theorem dX10_wantsBase_18 : decode cX10_wantsBase 18 = .ok (.iload_n 1, 1) := by decide +kernel
theorem dX10_wantsBase_19 : decode cX10_wantsBase 19 = .ok (.iaload, 1) := by decide +kernel
theorem dX10_wantsBase_20 : decode cX10_wantsBase 20 = .ok (.if_icmp .lt 20, 3) := by decide +kernel
theorem dX10_wantsBase_23 : decode cX10_wantsBase 23 = .ok (.aload_n 0, 1) := by decide +kernel
theorem dX10_wantsBase_24 : decode cX10_wantsBase 24 = .ok (.getfield 45, 3) := by decide +kernel
theorem dX10_wantsBase_27 : decode cX10_wantsBase 27 = .ok (.aload_n 0, 1) := by decide +kernel
theorem dX10_wantsBase_28 : decode cX10_wantsBase 28 = .ok (.getfield 60, 3) := by decide +kernel
theorem dX10_wantsBase_31 : decode cX10_wantsBase 31 = .ok (.iload_n 1, 1) := by decide +kernel
theorem dX10_wantsBase_32 : decode cX10_wantsBase 32 = .ok (.iaload, 1) := by decide +kernel
theorem dX10_wantsBase_33 : decode cX10_wantsBase 33 = .ok (.if_icmp .gt 7, 3) := by decide +kernel
theorem dX10_wantsBase_36 : decode cX10_wantsBase 36 = .ok (.iconst 1, 1) := by decide +kernel
theorem dX10_wantsBase_37 : decode cX10_wantsBase 37 = .ok (.goto 4, 3) := by decide +kernel
theorem dX10_wantsBase_40 : decode cX10_wantsBase 40 = .ok (.iconst 0, 1) := by decide +kernel
theorem dX10_wantsBase_41 : decode cX10_wantsBase 41 = .ok (.ireturn, 1) := by decide +kernel
set_option maxRecDepth 20000 in
theorem ggX10_isOther_X10_cuts : GoodIn wsX10_isOther wsX10_cuts := goodIn_r _ [6, 1, 7, 8, 9, 10, 11, 12, 13, 14, 5, 15, 16, 17, 18, 19, 20, 21, 22, 23, 46, 47, 48, 49, 50, 51, 52, 53, 54, 55, 56, 57, 58, 59, 60, 61, 62, 63, 64, 65, 66, 67, 68, 69, 70, 71, 72, 73, 74, 75] (by decide +kernel) (by decide +kernel)
set_option maxRecDepth 20000 in
theorem gX10_isOther_X10_cuts : GoodIn wsX10_isOther (wsV RX10 138 RX10 yX10_cuts wsX10_cuts) := goodIn_app (goodIn_of _ (by decide +kernel)) ggX10_isOther_X10_cuts
set_option maxRecDepth 20000 in
theorem ggX10_isOther_X10_latestNow : GoodIn wsX10_isOther wsX10_latestNow := goodIn_r _ [27, 28, 29, 30, 31, 5, 32, 33, 46, 47, 48, 49, 50, 51, 52, 53, 54, 55, 56, 57, 58, 59, 60, 61, 62, 63, 64, 65, 66, 67, 68, 69, 70, 71, 72, 73, 74, 75] (by decide +kernel) (by decide +kernel)
set_option maxRecDepth 20000 in
theorem gX10_isOther_X10_latestNow : GoodIn wsX10_isOther (wsV RX10 157 RX10 yX10_latestNow wsX10_latestNow) := goodIn_app (goodIn_of _ (by decide +kernel)) ggX10_isOther_X10_latestNow
set_option maxRecDepth 20000 in
theorem ggX10_isOther_X10_isSame : GoodIn wsX10_isOther wsX10_isSame := goodIn_r _ [37, 38, 39, 40, 5, 41, 11, 42, 43, 44, 45, 19, 20, 21, 22, 23, 46, 47, 48, 49, 50, 51, 52, 53, 54, 55, 56, 57, 58, 59, 60, 61, 62, 63, 64, 65, 66, 67, 68, 69, 70, 71, 72, 73, 74, 75] (by decide +kernel) (by decide +kernel)
set_option maxRecDepth 20000 in
theorem gX10_isOther_X10_isSame : GoodIn wsX10_isOther (wsV RX10 147 RX10 yX10_isSame wsX10_isSame) := goodIn_app (goodIn_of _ (by decide +kernel)) ggX10_isOther_X10_isSame
theorem dX10_isOther_0 : decode cX10_isOther 0 = .ok (.aload_n 0, 1) := by decide +kernel
theorem dX10_isOther_1 : decode cX10_isOther 1 = .ok (.iload_n 1, 1) := by decide +kernel
theorem dX10_isOther_2 : decode cX10_isOther 2 = .ok (.invokevirtual 138, 3) := by decide +kernel
theorem dX10_isOther_5 : decode cX10_isOther 5 = .ok (.istore_n 2, 1) := by decide +kernel
theorem dX10_isOther_6 : decode cX10_isOther 6 = .ok (.aload_n 0, 1) := by decide +kernel
theorem dX10_isOther_7 : decode cX10_isOther 7 = .ok (.iload_n 1, 1) := by decide +kernel
theorem dX10_isOther_8 : decode cX10_isOther 8 = .ok (.invokevirtual 157, 3) := by decide +kernel
theorem dX10_isOther_11 : decode cX10_isOther 11 = .ok (.istore_n 3, 1) := by decide +kernel
theorem dX10_isOther_12 : decode cX10_isOther 12 = .ok (.iload_n 3, 1) := by decide +kernel
theorem dX10_isOther_13 : decode cX10_isOther 13 = .ok (.iconst (-1), 1) := by decide +kernel
theorem dX10_isOther_14 : decode cX10_isOther 14 = .ok (.if_icmp .eq 18, 3) := by decide +kernel
theorem dX10_isOther_17 : decode cX10_isOther 17 = .ok (.aload_n 0, 1) := by decide +kernel
theorem dX10_isOther_18 : decode cX10_isOther 18 = .ok (.getfield 19, 3) := by decide +kernel
theorem dX10_isOther_21 : decode cX10_isOther 21 = .ok (.iload_n 3, 1) := by decide +kernel
theorem dX10_isOther_22 : decode cX10_isOther 22 = .ok (.iaload, 1) := by decide +kernel
theorem dX10_isOther_23 : decode cX10_isOther 23 = .ok (.aload_n 0, 1) := by decide +kernel
theorem dX10_isOther_24 : decode cX10_isOther 24 = .ok (.getfield 19, 3) := by decide +kernel
theorem dX10_isOther_27 : decode cX10_isOther 27 = .ok (.iload_n 2, 1) := by decide +kernel
theorem dX10_isOther_28 : decode cX10_isOther 28 = .ok (.iaload, 1) := by decide +kernel
theorem dX10_isOther_29 : decode cX10_isOther 29 = .ok (.if_icmp .eq 5, 3) := by decide +kernel
theorem dX10_isOther_32 : decode cX10_isOther 32 = .ok (.iconst 1, 1) := by decide +kernel
theorem dX10_isOther_33 : decode cX10_isOther 33 = .ok (.ireturn, 1) := by decide +kernel
theorem dX10_isOther_34 : decode cX10_isOther 34 = .ok (.iconst 0, 1) := by decide +kernel
theorem dX10_isOther_35 : decode cX10_isOther 35 = .ok (.istore 4, 2) := by decide +kernel
theorem dX10_isOther_37 : decode cX10_isOther 37 = .ok (.iconst 0, 1) := by decide +kernel
theorem dX10_isOther_38 : decode cX10_isOther 38 = .ok (.istore 5, 2) := by decide +kernel
theorem dX10_isOther_40 : decode cX10_isOther 40 = .ok (.iload 5, 2) := by decide +kernel
theorem dX10_isOther_42 : decode cX10_isOther 42 = .ok (.aload_n 0, 1) := by decide +kernel
theorem dX10_isOther_43 : decode cX10_isOther 43 = .ok (.getfield 19, 3) := by decide +kernel
theorem dX10_isOther_46 : decode cX10_isOther 46 = .ok (.iload_n 2, 1) := by decide +kernel
theorem dX10_isOther_47 : decode cX10_isOther 47 = .ok (.iaload, 1) := by decide +kernel
theorem dX10_isOther_48 : decode cX10_isOther 48 = .ok (.if_icmp .ge 34, 3) := by decide +kernel
theorem dX10_isOther_51 : decode cX10_isOther 51 = .ok (.iload 4, 2) := by decide +kernel
theorem dX10_isOther_53 : decode cX10_isOther 53 = .ok (.ifCond .ne 29, 3) := by decide +kernel
theorem dX10_isOther_56 : decode cX10_isOther 56 = .ok (.aload_n 0, 1) := by decide +kernel
theorem dX10_isOther_57 : decode cX10_isOther 57 = .ok (.iload_n 2, 1) := by decide +kernel
theorem dX10_isOther_58 : decode cX10_isOther 58 = .ok (.iload 5, 2) := by decide +kernel
theorem dX10_isOther_60 : decode cX10_isOther 60 = .ok (.iload_n 3, 1) := by decide +kernel
theorem dX10_isOther_61 : decode cX10_isOther 61 = .ok (.iload 5, 2) := by decide +kernel
theorem dX10_isOther_63 : decode cX10_isOther 63 = .ok (.invokevirtual 147, 3) := by decide +kernel
theorem dX10_isOther_66 : decode cX10_isOther 66 = .ok (.ifCond .ne 7, 3) := by decide +kernel
theorem dX10_isOther_69 : decode cX10_isOther 69 = .ok (.iconst 1, 1) := by decide +kernel
theorem dX10_isOther_70 : decode cX10_isOther 70 = .ok (.goto 4, 3) := by decide +kernel
theorem dX10_isOther_73 : decode cX10_isOther 73 = .ok (.iconst 0, 1) := by decide +kernel
theorem dX10_isOther_74 : decode cX10_isOther 74 = .ok (.istore 4, 2) := by decide +kernel
theorem dX10_isOther_76 : decode cX10_isOther 76 = .ok (.iinc 5 1, 3) := by decide +kernel
theorem dX10_isOther_79 : decode cX10_isOther 79 = .ok (.goto (-39), 3) := by decide +kernel
theorem dX10_isOther_82 : decode cX10_isOther 82 = .ok (.iload 4, 2) := by decide +kernel
theorem dX10_isOther_84 : decode cX10_isOther 84 = .ok (.ireturn, 1) := by decide +kernel
theorem dX10_sorts_0 : decode cX10_sorts 0 = .ok (.iconst 0, 1) := by decide +kernel
theorem dX10_sorts_1 : decode cX10_sorts 1 = .ok (.istore_n 1, 1) := by decide +kernel
theorem dX10_sorts_2 : decode cX10_sorts 2 = .ok (.iload_n 1, 1) := by decide +kernel
theorem dX10_sorts_3 : decode cX10_sorts 3 = .ok (.iconst 4, 1) := by decide +kernel
theorem dX10_sorts_4 : decode cX10_sorts 4 = .ok (.if_icmp .ge 74, 3) := by decide +kernel
theorem dX10_sorts_7 : decode cX10_sorts 7 = .ok (.iconst 0, 1) := by decide +kernel
theorem dX10_sorts_8 : decode cX10_sorts 8 = .ok (.istore_n 2, 1) := by decide +kernel
theorem dX10_sorts_9 : decode cX10_sorts 9 = .ok (.iconst 0, 1) := by decide +kernel
theorem dX10_sorts_10 : decode cX10_sorts 10 = .ok (.istore_n 3, 1) := by decide +kernel
theorem dX10_sorts_11 : decode cX10_sorts 11 = .ok (.iload_n 3, 1) := by decide +kernel
theorem dX10_sorts_12 : decode cX10_sorts 12 = .ok (.iconst 4, 1) := by decide +kernel
theorem dX10_sorts_13 : decode cX10_sorts 13 = .ok (.if_icmp .ge 52, 3) := by decide +kernel
theorem dX10_sorts_16 : decode cX10_sorts 16 = .ok (.iload_n 2, 1) := by decide +kernel
theorem dX10_sorts_17 : decode cX10_sorts 17 = .ok (.aload_n 0, 1) := by decide +kernel
theorem dX10_sorts_18 : decode cX10_sorts 18 = .ok (.getfield 54, 3) := by decide +kernel
theorem dX10_sorts_21 : decode cX10_sorts 21 = .ok (.iload_n 3, 1) := by decide +kernel
theorem dX10_sorts_22 : decode cX10_sorts 22 = .ok (.iaload, 1) := by decide +kernel
theorem dX10_sorts_23 : decode cX10_sorts 23 = .ok (.aload_n 0, 1) := by decide +kernel
theorem dX10_sorts_24 : decode cX10_sorts 24 = .ok (.getfield 54, 3) := by decide +kernel
theorem dX10_sorts_27 : decode cX10_sorts 27 = .ok (.iload_n 1, 1) := by decide +kernel
theorem dX10_sorts_28 : decode cX10_sorts 28 = .ok (.iaload, 1) := by decide +kernel
theorem dX10_sorts_29 : decode cX10_sorts 29 = .ok (.if_icmp .gt 23, 3) := by decide +kernel
theorem dX10_sorts_32 : decode cX10_sorts 32 = .ok (.aload_n 0, 1) := by decide +kernel
theorem dX10_sorts_33 : decode cX10_sorts 33 = .ok (.getfield 54, 3) := by decide +kernel
theorem dX10_sorts_36 : decode cX10_sorts 36 = .ok (.iload_n 3, 1) := by decide +kernel
theorem dX10_sorts_37 : decode cX10_sorts 37 = .ok (.iaload, 1) := by decide +kernel
theorem dX10_sorts_38 : decode cX10_sorts 38 = .ok (.aload_n 0, 1) := by decide +kernel
theorem dX10_sorts_39 : decode cX10_sorts 39 = .ok (.getfield 54, 3) := by decide +kernel
theorem dX10_sorts_42 : decode cX10_sorts 42 = .ok (.iload_n 1, 1) := by decide +kernel
theorem dX10_sorts_43 : decode cX10_sorts 43 = .ok (.iaload, 1) := by decide +kernel
theorem dX10_sorts_44 : decode cX10_sorts 44 = .ok (.if_icmp .ne 12, 3) := by decide +kernel
theorem dX10_sorts_47 : decode cX10_sorts 47 = .ok (.iload_n 3, 1) := by decide +kernel
theorem dX10_sorts_48 : decode cX10_sorts 48 = .ok (.iload_n 1, 1) := by decide +kernel
theorem dX10_sorts_49 : decode cX10_sorts 49 = .ok (.if_icmp .ge 7, 3) := by decide +kernel
theorem dX10_sorts_52 : decode cX10_sorts 52 = .ok (.iconst 1, 1) := by decide +kernel
theorem dX10_sorts_53 : decode cX10_sorts 53 = .ok (.goto 4, 3) := by decide +kernel
theorem dX10_sorts_56 : decode cX10_sorts 56 = .ok (.iconst 0, 1) := by decide +kernel
theorem dX10_sorts_57 : decode cX10_sorts 57 = .ok (.iadd, 1) := by decide +kernel
theorem dX10_sorts_58 : decode cX10_sorts 58 = .ok (.istore_n 2, 1) := by decide +kernel
theorem dX10_sorts_59 : decode cX10_sorts 59 = .ok (.iinc 3 1, 3) := by decide +kernel
theorem dX10_sorts_62 : decode cX10_sorts 62 = .ok (.goto (-51), 3) := by decide +kernel
theorem dX10_sorts_65 : decode cX10_sorts 65 = .ok (.aload_n 0, 1) := by decide +kernel
theorem dX10_sorts_66 : decode cX10_sorts 66 = .ok (.getfield 75, 3) := by decide +kernel
theorem dX10_sorts_69 : decode cX10_sorts 69 = .ok (.iload_n 2, 1) := by decide +kernel
theorem dX10_sorts_70 : decode cX10_sorts 70 = .ok (.iload_n 1, 1) := by decide +kernel
theorem dX10_sorts_71 : decode cX10_sorts 71 = .ok (.iastore, 1) := by decide +kernel
theorem dX10_sorts_72 : decode cX10_sorts 72 = .ok (.iinc 1 1, 3) := by decide +kernel
theorem dX10_sorts_75 : decode cX10_sorts 75 = .ok (.goto (-73), 3) := by decide +kernel
theorem dX10_sorts_78 : decode cX10_sorts 78 = .ok (.return_, 1) := by decide +kernel
set_option maxRecDepth 20000 in
theorem ggX10_goes_X10_sorts : GoodIn wsX10_goes wsX10_sorts := goodIn_r _ [13, 4, 2, 98, 99, 100, 101, 102, 103, 104, 105, 106, 107, 108, 109, 110, 111, 112, 113, 114, 115, 116, 117, 118, 119, 120, 121, 122, 123, 124, 125, 126, 127] (by decide +kernel) (by decide +kernel)
set_option maxRecDepth 20000 in
theorem gX10_goes_X10_sorts : GoodIn wsX10_goes (wsV RX10 181 RX10 yX10_sorts wsX10_sorts) := goodIn_app (goodIn_of _ (by decide +kernel)) ggX10_goes_X10_sorts
set_option maxRecDepth 20000 in
theorem ggX10_goes_X10_wantsBase : GoodIn wsX10_goes wsX10_wantsBase := goodIn_r _ [17, 18, 5, 19, 20, 21, 22, 12, 23, 24, 25, 98, 99, 100, 101, 102, 103, 104, 105, 106, 107, 108, 109, 110, 111, 112, 113, 114, 115, 116, 117, 118, 119, 120, 121, 122, 123, 124, 125, 126, 127] (by decide +kernel) (by decide +kernel)
set_option maxRecDepth 20000 in
theorem gX10_goes_X10_wantsBase : GoodIn wsX10_goes (wsV RX10 184 RX10 yX10_wantsBase wsX10_wantsBase) := goodIn_app (goodIn_of _ (by decide +kernel)) ggX10_goes_X10_wantsBase
set_option maxRecDepth 20000 in
theorem ggX10_goes_X10_latestNow : GoodIn wsX10_goes wsX10_latestNow := goodIn_r _ [29, 24, 30, 31, 32, 12, 33, 25, 98, 99, 100, 101, 102, 103, 104, 105, 106, 107, 108, 109, 110, 111, 112, 113, 114, 115, 116, 117, 118, 119, 120, 121, 122, 123, 124, 125, 126, 127] (by decide +kernel) (by decide +kernel)
set_option maxRecDepth 20000 in
theorem gX10_goes_X10_latestNow : GoodIn wsX10_goes (wsV RX10 157 RX10 yX10_latestNow wsX10_latestNow) := goodIn_app (goodIn_of _ (by decide +kernel)) ggX10_goes_X10_latestNow
set_option maxRecDepth 20000 in
theorem ggX10_goes_X10_isOther : GoodIn wsX10_goes wsX10_isOther := goodIn_r _ [37, 38, 39, 40, 41, 12, 42, 43, 44, 45, 46, 47, 48, 49, 50, 51, 52, 53, 54, 55, 56, 57, 58, 59, 26, 27, 28, 29, 24, 30, 31, 32, 33, 25, 60, 61, 62, 63, 64, 65, 66, 67, 68, 69, 70, 71, 98, 99, 100, 101, 102, 103, 104, 105, 106, 107, 108, 109, 110, 111, 112, 113, 114, 115, 116, 117, 118, 119, 120, 121, 122, 123, 124, 125, 126, 127] (by decide +kernel) (by decide +kernel)
set_option maxRecDepth 20000 in
theorem gX10_goes_X10_isOther : GoodIn wsX10_goes (wsV RX10 187 RX10 yX10_isOther wsX10_isOther) := goodIn_app (goodIn_of _ (by decide +kernel)) ggX10_goes_X10_isOther
set_option maxRecDepth 20000 in
theorem ggX10_goes_X10_forBase0 : GoodIn wsX10_goes wsX10_forBase0 := goodIn_r _ [75, 38, 39, 40, 41, 12, 42, 43, 44, 45, 46, 47, 48, 49, 50, 51, 52, 53, 54, 55, 56, 57, 58, 59, 76, 77, 78, 79, 60, 61, 62, 63, 64, 65, 66, 67, 68, 69, 70, 71, 98, 99, 100, 101, 102, 103, 104, 105, 106, 107, 108, 109, 110, 111, 112, 113, 114, 115, 116, 117, 118, 119, 120, 121, 122, 123, 124, 125, 126, 127] (by decide +kernel) (by decide +kernel)
set_option maxRecDepth 20000 in
theorem gX10_goes_X10_forBase0 : GoodIn wsX10_goes (wsV RX10 172 RX10 yX10_forBase0 wsX10_forBase0) := goodIn_app (goodIn_of _ (by decide +kernel)) ggX10_goes_X10_forBase0
set_option maxRecDepth 20000 in
theorem ggX10_goes_X10_forDifference0 : GoodIn wsX10_goes wsX10_forDifference0 := goodIn_r _ [83, 38, 39, 40, 41, 12, 42, 43, 44, 45, 46, 47, 48, 49, 50, 51, 52, 53, 54, 55, 56, 57, 58, 59, 76, 77, 78, 79, 60, 61, 62, 63, 64, 65, 66, 67, 68, 69, 70, 71, 84, 85, 86, 87, 24, 88, 89, 90, 91, 25, 92, 26, 27, 28, 29, 30, 31, 32, 33, 93, 94, 95, 96, 97, 98, 99, 100, 101, 102, 103, 104, 105, 106, 107, 108, 109, 110, 111, 112, 113, 114, 115, 116, 117, 118, 119, 120, 121, 122, 123, 124, 125, 126, 127] (by decide +kernel) (by decide +kernel)
set_option maxRecDepth 20000 in
theorem gX10_goes_X10_forDifference0 : GoodIn wsX10_goes (wsV RX10 175 RX10 yX10_forDifference0 wsX10_forDifference0) := goodIn_app (goodIn_of _ (by decide +kernel)) ggX10_goes_X10_forDifference0
theorem dX10_goes_0 : decode cX10_goes 0 = .ok (.aload_n 0, 1) := by decide +kernel
theorem dX10_goes_1 : decode cX10_goes 1 = .ok (.invokevirtual 181, 3) := by decide +kernel
theorem dX10_goes_4 : decode cX10_goes 4 = .ok (.aload_n 0, 1) := by decide +kernel
theorem dX10_goes_5 : decode cX10_goes 5 = .ok (.getfield 42, 3) := by decide +kernel
theorem dX10_goes_8 : decode cX10_goes 8 = .ok (.istore_n 1, 1) := by decide +kernel
theorem dX10_goes_9 : decode cX10_goes 9 = .ok (.iconst 0, 1) := by decide +kernel
theorem dX10_goes_10 : decode cX10_goes 10 = .ok (.istore_n 2, 1) := by decide +kernel
theorem dX10_goes_11 : decode cX10_goes 11 = .ok (.iload_n 2, 1) := by decide +kernel
theorem dX10_goes_12 : decode cX10_goes 12 = .ok (.iconst 4, 1) := by decide +kernel
theorem dX10_goes_13 : decode cX10_goes 13 = .ok (.if_icmp .ge 232, 3) := by decide +kernel
theorem dX10_goes_16 : decode cX10_goes 16 = .ok (.aload_n 0, 1) := by decide +kernel
theorem dX10_goes_17 : decode cX10_goes 17 = .ok (.getfield 75, 3) := by decide +kernel
theorem dX10_goes_20 : decode cX10_goes 20 = .ok (.iload_n 2, 1) := by decide +kernel
theorem dX10_goes_21 : decode cX10_goes 21 = .ok (.iaload, 1) := by decide +kernel
theorem dX10_goes_22 : decode cX10_goes 22 = .ok (.istore_n 3, 1) := by decide +kernel
theorem dX10_goes_23 : decode cX10_goes 23 = .ok (.aload_n 0, 1) := by decide +kernel
theorem dX10_goes_24 : decode cX10_goes 24 = .ok (.iload_n 3, 1) := by decide +kernel
theorem dX10_goes_25 : decode cX10_goes 25 = .ok (.invokevirtual 184, 3) := by decide +kernel
theorem dX10_goes_28 : decode cX10_goes 28 = .ok (.istore 4, 2) := by decide +kernel
theorem dX10_goes_30 : decode cX10_goes 30 = .ok (.aload_n 0, 1) := by decide +kernel
theorem dX10_goes_31 : decode cX10_goes 31 = .ok (.iload_n 3, 1) := by decide +kernel
theorem dX10_goes_32 : decode cX10_goes 32 = .ok (.invokevirtual 157, 3) := by decide +kernel
theorem dX10_goes_35 : decode cX10_goes 35 = .ok (.iconst (-1), 1) := by decide +kernel
theorem dX10_goes_36 : decode cX10_goes 36 = .ok (.if_icmp .eq 7, 3) := by decide +kernel
theorem dX10_goes_39 : decode cX10_goes 39 = .ok (.iconst 1, 1) := by decide +kernel
theorem dX10_goes_40 : decode cX10_goes 40 = .ok (.goto 4, 3) := by decide +kernel
theorem dX10_goes_43 : decode cX10_goes 43 = .ok (.iconst 0, 1) := by decide +kernel
theorem dX10_goes_44 : decode cX10_goes 44 = .ok (.istore 5, 2) := by decide +kernel
theorem dX10_goes_46 : decode cX10_goes 46 = .ok (.aload_n 0, 1) := by decide +kernel
theorem dX10_goes_47 : decode cX10_goes 47 = .ok (.getfield 78, 3) := by decide +kernel
theorem dX10_goes_50 : decode cX10_goes 50 = .ok (.iload_n 3, 1) := by decide +kernel
theorem dX10_goes_51 : decode cX10_goes 51 = .ok (.aload_n 0, 1) := by decide +kernel
theorem dX10_goes_52 : decode cX10_goes 52 = .ok (.getfield 54, 3) := by decide +kernel
theorem dX10_goes_55 : decode cX10_goes 55 = .ok (.iload_n 3, 1) := by decide +kernel
theorem dX10_goes_56 : decode cX10_goes 56 = .ok (.iaload, 1) := by decide +kernel
theorem dX10_goes_57 : decode cX10_goes 57 = .ok (.ifCond .le 33, 3) := by decide +kernel
theorem dX10_goes_60 : decode cX10_goes 60 = .ok (.aload_n 0, 1) := by decide +kernel
theorem dX10_goes_61 : decode cX10_goes 61 = .ok (.getfield 54, 3) := by decide +kernel
theorem dX10_goes_64 : decode cX10_goes 64 = .ok (.iload_n 3, 1) := by decide +kernel
theorem dX10_goes_65 : decode cX10_goes 65 = .ok (.iaload, 1) := by decide +kernel
theorem dX10_goes_66 : decode cX10_goes 66 = .ok (.aload_n 0, 1) := by decide +kernel
theorem dX10_goes_67 : decode cX10_goes 67 = .ok (.getfield 45, 3) := by decide +kernel
theorem dX10_goes_70 : decode cX10_goes 70 = .ok (.if_icmp .lt 20, 3) := by decide +kernel
theorem dX10_goes_73 : decode cX10_goes 73 = .ok (.iload 4, 2) := by decide +kernel
theorem dX10_goes_75 : decode cX10_goes 75 = .ok (.ifCond .ne 11, 3) := by decide +kernel
theorem dX10_goes_78 : decode cX10_goes 78 = .ok (.aload_n 0, 1) := by decide +kernel
theorem dX10_goes_79 : decode cX10_goes 79 = .ok (.iload_n 3, 1) := by decide +kernel
theorem dX10_goes_80 : decode cX10_goes 80 = .ok (.invokevirtual 187, 3) := by decide +kernel
theorem dX10_goes_83 : decode cX10_goes 83 = .ok (.ifCond .eq 7, 3) := by decide +kernel
theorem dX10_goes_86 : decode cX10_goes 86 = .ok (.iconst 1, 1) := by decide +kernel
theorem dX10_goes_87 : decode cX10_goes 87 = .ok (.goto 4, 3) := by decide +kernel
theorem dX10_goes_90 : decode cX10_goes 90 = .ok (.iconst 0, 1) := by decide +kernel
theorem dX10_goes_91 : decode cX10_goes 91 = .ok (.bastore, 1) := by decide +kernel
theorem dX10_goes_92 : decode cX10_goes 92 = .ok (.aload_n 0, 1) := by decide +kernel
theorem dX10_goes_93 : decode cX10_goes 93 = .ok (.iload_n 3, 1) := by decide +kernel
theorem dX10_goes_94 : decode cX10_goes 94 = .ok (.invokevirtual 172, 3) := by decide +kernel
theorem dX10_goes_97 : decode cX10_goes 97 = .ok (.istore 6, 2) := by decide +kernel
theorem dX10_goes_99 : decode cX10_goes 99 = .ok (.aload_n 0, 1) := by decide +kernel
theorem dX10_goes_100 : decode cX10_goes 100 = .ok (.getfield 81, 3) := by decide +kernel
theorem dX10_goes_103 : decode cX10_goes 103 = .ok (.iload_n 3, 1) := by decide +kernel
theorem dX10_goes_104 : decode cX10_goes 104 = .ok (.iload 4, 2) := by decide +kernel
theorem dX10_goes_106 : decode cX10_goes 106 = .ok (.ifCond .eq 18, 3) := by decide +kernel
theorem dX10_goes_109 : decode cX10_goes 109 = .ok (.iload 5, 2) := by decide +kernel
theorem dX10_goes_111 : decode cX10_goes 111 = .ok (.ifCond .eq 9, 3) := by decide +kernel
theorem dX10_goes_114 : decode cX10_goes 114 = .ok (.iload 6, 2) := by decide +kernel
theorem dX10_goes_116 : decode cX10_goes 116 = .ok (.iload_n 1, 1) := by decide +kernel
theorem dX10_goes_117 : decode cX10_goes 117 = .ok (.if_icmp .gt 7, 3) := by decide +kernel
theorem dX10_goes_120 : decode cX10_goes 120 = .ok (.iconst 1, 1) := by decide +kernel
theorem dX10_goes_121 : decode cX10_goes 121 = .ok (.goto 16, 3) := by decide +kernel
theorem dX10_goes_124 : decode cX10_goes 124 = .ok (.aload_n 0, 1) := by decide +kernel
theorem dX10_goes_125 : decode cX10_goes 125 = .ok (.iload_n 3, 1) := by decide +kernel
theorem dX10_goes_126 : decode cX10_goes 126 = .ok (.invokevirtual 187, 3) := by decide +kernel
theorem dX10_goes_129 : decode cX10_goes 129 = .ok (.ifCond .eq 7, 3) := by decide +kernel
theorem dX10_goes_132 : decode cX10_goes 132 = .ok (.iconst 2, 1) := by decide +kernel
theorem dX10_goes_133 : decode cX10_goes 133 = .ok (.goto 4, 3) := by decide +kernel
theorem dX10_goes_136 : decode cX10_goes 136 = .ok (.iconst 0, 1) := by decide +kernel
theorem dX10_goes_137 : decode cX10_goes 137 = .ok (.iastore, 1) := by decide +kernel
theorem dX10_goes_138 : decode cX10_goes 138 = .ok (.aload_n 0, 1) := by decide +kernel
theorem dX10_goes_139 : decode cX10_goes 139 = .ok (.getfield 84, 3) := by decide +kernel
theorem dX10_goes_142 : decode cX10_goes 142 = .ok (.iload_n 3, 1) := by decide +kernel
theorem dX10_goes_143 : decode cX10_goes 143 = .ok (.aload_n 0, 1) := by decide +kernel
theorem dX10_goes_144 : decode cX10_goes 144 = .ok (.getfield 81, 3) := by decide +kernel
theorem dX10_goes_147 : decode cX10_goes 147 = .ok (.iload_n 3, 1) := by decide +kernel
theorem dX10_goes_148 : decode cX10_goes 148 = .ok (.iaload, 1) := by decide +kernel
theorem dX10_goes_149 : decode cX10_goes 149 = .ok (.iconst 1, 1) := by decide +kernel
theorem dX10_goes_150 : decode cX10_goes 150 = .ok (.if_icmp .ne 8, 3) := by decide +kernel
theorem dX10_goes_153 : decode cX10_goes 153 = .ok (.iload 6, 2) := by decide +kernel
theorem dX10_goes_155 : decode cX10_goes 155 = .ok (.goto 22, 3) := by decide +kernel
theorem dX10_goes_158 : decode cX10_goes 158 = .ok (.aload_n 0, 1) := by decide +kernel
theorem dX10_goes_159 : decode cX10_goes 159 = .ok (.getfield 81, 3) := by decide +kernel
theorem dX10_goes_162 : decode cX10_goes 162 = .ok (.iload_n 3, 1) := by decide +kernel
theorem dX10_goes_163 : decode cX10_goes 163 = .ok (.iaload, 1) := by decide +kernel
theorem dX10_goes_164 : decode cX10_goes 164 = .ok (.iconst 2, 1) := by decide +kernel
theorem dX10_goes_165 : decode cX10_goes 165 = .ok (.if_icmp .ne 11, 3) := by decide +kernel
theorem dX10_goes_168 : decode cX10_goes 168 = .ok (.aload_n 0, 1) := by decide +kernel
theorem dX10_goes_169 : decode cX10_goes 169 = .ok (.iload_n 3, 1) := by decide +kernel
theorem dX10_goes_170 : decode cX10_goes 170 = .ok (.invokevirtual 175, 3) := by decide +kernel
theorem dX10_goes_173 : decode cX10_goes 173 = .ok (.goto 4, 3) := by decide +kernel
theorem dX10_goes_176 : decode cX10_goes 176 = .ok (.iconst 0, 1) := by decide +kernel
theorem dX10_goes_177 : decode cX10_goes 177 = .ok (.iastore, 1) := by decide +kernel
theorem dX10_goes_178 : decode cX10_goes 178 = .ok (.aload_n 0, 1) := by decide +kernel
theorem dX10_goes_179 : decode cX10_goes 179 = .ok (.getfield 87, 3) := by decide +kernel
theorem dX10_goes_182 : decode cX10_goes 182 = .ok (.iload_n 3, 1) := by decide +kernel
theorem dX10_goes_183 : decode cX10_goes 183 = .ok (.aload_n 0, 1) := by decide +kernel
theorem dX10_goes_184 : decode cX10_goes 184 = .ok (.getfield 78, 3) := by decide +kernel
theorem dX10_goes_187 : decode cX10_goes 187 = .ok (.iload_n 3, 1) := by decide +kernel
theorem dX10_goes_188 : decode cX10_goes 188 = .ok (.baload, 1) := by decide +kernel
theorem dX10_goes_189 : decode cX10_goes 189 = .ok (.ifCond .eq 26, 3) := by decide +kernel
theorem dX10_goes_192 : decode cX10_goes 192 = .ok (.aload_n 0, 1) := by decide +kernel
theorem dX10_goes_193 : decode cX10_goes 193 = .ok (.getfield 81, 3) := by decide +kernel
theorem dX10_goes_196 : decode cX10_goes 196 = .ok (.iload_n 3, 1) := by decide +kernel
theorem dX10_goes_197 : decode cX10_goes 197 = .ok (.iaload, 1) := by decide +kernel
theorem dX10_goes_198 : decode cX10_goes 198 = .ok (.ifCond .le 17, 3) := by decide +kernel
theorem dX10_goes_201 : decode cX10_goes 201 = .ok (.aload_n 0, 1) := by decide +kernel
theorem dX10_goes_202 : decode cX10_goes 202 = .ok (.getfield 84, 3) := by decide +kernel
theorem dX10_goes_205 : decode cX10_goes 205 = .ok (.iload_n 3, 1) := by decide +kernel
theorem dX10_goes_206 : decode cX10_goes 206 = .ok (.iaload, 1) := by decide +kernel
theorem dX10_goes_207 : decode cX10_goes 207 = .ok (.iload_n 1, 1) := by decide +kernel
theorem dX10_goes_208 : decode cX10_goes 208 = .ok (.if_icmp .gt 7, 3) := by decide +kernel
theorem dX10_goes_211 : decode cX10_goes 211 = .ok (.iconst 1, 1) := by decide +kernel
theorem dX10_goes_212 : decode cX10_goes 212 = .ok (.goto 4, 3) := by decide +kernel
theorem dX10_goes_215 : decode cX10_goes 215 = .ok (.iconst 0, 1) := by decide +kernel
theorem dX10_goes_216 : decode cX10_goes 216 = .ok (.bastore, 1) := by decide +kernel
theorem dX10_goes_217 : decode cX10_goes 217 = .ok (.iload_n 1, 1) := by decide +kernel
theorem dX10_goes_218 : decode cX10_goes 218 = .ok (.aload_n 0, 1) := by decide +kernel
theorem dX10_goes_219 : decode cX10_goes 219 = .ok (.getfield 87, 3) := by decide +kernel
theorem dX10_goes_222 : decode cX10_goes 222 = .ok (.iload_n 3, 1) := by decide +kernel
theorem dX10_goes_223 : decode cX10_goes 223 = .ok (.baload, 1) := by decide +kernel
theorem dX10_goes_224 : decode cX10_goes 224 = .ok (.ifCond .eq 12, 3) := by decide +kernel
theorem dX10_goes_227 : decode cX10_goes 227 = .ok (.aload_n 0, 1) := by decide +kernel
theorem dX10_goes_228 : decode cX10_goes 228 = .ok (.getfield 84, 3) := by decide +kernel
theorem dX10_goes_231 : decode cX10_goes 231 = .ok (.iload_n 3, 1) := by decide +kernel
theorem dX10_goes_232 : decode cX10_goes 232 = .ok (.iaload, 1) := by decide +kernel
theorem dX10_goes_233 : decode cX10_goes 233 = .ok (.goto 4, 3) := by decide +kernel
theorem dX10_goes_236 : decode cX10_goes 236 = .ok (.iconst 0, 1) := by decide +kernel
theorem dX10_goes_237 : decode cX10_goes 237 = .ok (.isub, 1) := by decide +kernel
theorem dX10_goes_238 : decode cX10_goes 238 = .ok (.istore_n 1, 1) := by decide +kernel
theorem dX10_goes_239 : decode cX10_goes 239 = .ok (.iinc 2 1, 3) := by decide +kernel
theorem dX10_goes_242 : decode cX10_goes 242 = .ok (.goto (-231), 3) := by decide +kernel
theorem dX10_goes_245 : decode cX10_goes 245 = .ok (.return_, 1) := by decide +kernel
set_option maxRecDepth 20000 in
theorem ggX10_would_X10_isClient : GoodIn wsX10_would wsX10_isClient := goodIn_r _ [6, 7, 8, 5, 9] (by decide +kernel) (by decide +kernel)
set_option maxRecDepth 20000 in
theorem gX10_would_X10_isClient : GoodIn wsX10_would (va_wsS RX10 103 yX10_isClient wsX10_isClient) := goodIn_app (goodIn_of _ (by decide +kernel)) ggX10_would_X10_isClient
set_option maxRecDepth 20000 in
theorem ggX10_would_X10_isFine : GoodIn wsX10_would wsX10_isFine := goodIn_r _ [13, 14, 113, 114, 115, 116, 117, 118, 119, 120, 121, 122, 123, 124, 125, 126, 127, 128, 129, 130, 131, 132, 133, 134, 135, 136, 137, 138, 139, 140, 141, 142] (by decide +kernel) (by decide +kernel)
set_option maxRecDepth 20000 in
theorem gX10_would_X10_isFine : GoodIn wsX10_would (wsV RX10 114 RX10 yX10_isFine wsX10_isFine) := goodIn_app (goodIn_of _ (by decide +kernel)) ggX10_would_X10_isFine
set_option maxRecDepth 20000 in
theorem ggX10_would_X10_goes : GoodIn wsX10_would wsX10_goes := goodIn_r _ [18, 19, 20, 21, 22, 23, 2, 24, 1, 25, 26, 27, 5, 28, 29, 30, 31, 32, 33, 34, 35, 36, 37, 38, 39, 40, 41, 42, 43, 44, 45, 46, 47, 48, 49, 50, 51, 52, 53, 54, 55, 56, 57, 58, 59, 60, 61, 62, 63, 64, 65, 66, 67, 68, 69, 70, 71, 72, 73, 74, 75, 76, 77, 78, 79, 80, 81, 82, 83, 84, 85, 86, 87, 88, 89, 90, 91, 92, 93, 94, 95, 96, 97, 98, 99, 100, 101, 102, 103, 104, 105, 106, 107, 108, 109, 110, 111, 112, 113, 114, 115, 116, 117, 118, 119, 120, 121, 122, 123, 124, 125, 126, 127, 128, 129, 130, 131, 132, 133, 134, 135, 136, 137, 138, 139, 140, 141, 142] (by decide +kernel) (by decide +kernel)
set_option maxRecDepth 20000 in
theorem gX10_would_X10_goes : GoodIn wsX10_would (wsV RX10 190 RX10 yX10_goes wsX10_goes) := goodIn_app (goodIn_of _ (by decide +kernel)) ggX10_would_X10_goes
theorem dX10_would_0 : decode cX10_would 0 = .ok (.aload_n 0, 1) := by decide +kernel
theorem dX10_would_1 : decode cX10_would 1 = .ok (.iload_n 1, 1) := by decide +kernel
theorem dX10_would_2 : decode cX10_would 2 = .ok (.invokestatic 103, 3) := by decide +kernel
theorem dX10_would_5 : decode cX10_would 5 = .ok (.ifCond .eq 7, 3) := by decide +kernel
theorem dX10_would_8 : decode cX10_would 8 = .ok (.iconst 0, 1) := by decide +kernel
theorem dX10_would_9 : decode cX10_would 9 = .ok (.goto 4, 3) := by decide +kernel
theorem dX10_would_12 : decode cX10_would 12 = .ok (.iconst 1, 1) := by decide +kernel
theorem dX10_would_13 : decode cX10_would 13 = .ok (.invokevirtual 114, 3) := by decide +kernel
theorem dX10_would_16 : decode cX10_would 16 = .ok (.ifCond .ne 5, 3) := by decide +kernel
theorem dX10_would_19 : decode cX10_would 19 = .ok (.iconst 0, 1) := by decide +kernel
theorem dX10_would_20 : decode cX10_would 20 = .ok (.ireturn, 1) := by decide +kernel
theorem dX10_would_21 : decode cX10_would 21 = .ok (.aload_n 0, 1) := by decide +kernel
theorem dX10_would_22 : decode cX10_would 22 = .ok (.invokevirtual 190, 3) := by decide +kernel
theorem dX10_would_25 : decode cX10_would 25 = .ok (.aload_n 0, 1) := by decide +kernel
theorem dX10_would_26 : decode cX10_would 26 = .ok (.getfield 87, 3) := by decide +kernel
theorem dX10_would_29 : decode cX10_would 29 = .ok (.iload_n 1, 1) := by decide +kernel
theorem dX10_would_30 : decode cX10_would 30 = .ok (.baload, 1) := by decide +kernel
theorem dX10_would_31 : decode cX10_would 31 = .ok (.ifCond .eq 12, 3) := by decide +kernel
theorem dX10_would_34 : decode cX10_would 34 = .ok (.aload_n 0, 1) := by decide +kernel
theorem dX10_would_35 : decode cX10_would 35 = .ok (.getfield 81, 3) := by decide +kernel
theorem dX10_would_38 : decode cX10_would 38 = .ok (.iload_n 1, 1) := by decide +kernel
theorem dX10_would_39 : decode cX10_would 39 = .ok (.iaload, 1) := by decide +kernel
theorem dX10_would_40 : decode cX10_would 40 = .ok (.goto 4, 3) := by decide +kernel
theorem dX10_would_43 : decode cX10_would 43 = .ok (.iconst 0, 1) := by decide +kernel
theorem dX10_would_44 : decode cX10_would 44 = .ok (.ireturn, 1) := by decide +kernel
theorem dX10_price_0 : decode cX10_price 0 = .ok (.aload_n 0, 1) := by decide +kernel
theorem dX10_price_1 : decode cX10_price 1 = .ok (.getfield 45, 3) := by decide +kernel
theorem dX10_price_4 : decode cX10_price 4 = .ok (.istore_n 2, 1) := by decide +kernel
theorem dX10_price_5 : decode cX10_price 5 = .ok (.iload_n 1, 1) := by decide +kernel
theorem dX10_price_6 : decode cX10_price 6 = .ok (.iconst 1, 1) := by decide +kernel
theorem dX10_price_7 : decode cX10_price 7 = .ok (.iadd, 1) := by decide +kernel
theorem dX10_price_8 : decode cX10_price 8 = .ok (.istore_n 3, 1) := by decide +kernel
theorem dX10_price_9 : decode cX10_price 9 = .ok (.iload_n 3, 1) := by decide +kernel
theorem dX10_price_10 : decode cX10_price 10 = .ok (.iconst 4, 1) := by decide +kernel
theorem dX10_price_11 : decode cX10_price 11 = .ok (.if_icmp .ge 60, 3) := by decide +kernel
theorem dX10_price_14 : decode cX10_price 14 = .ok (.aload_n 0, 1) := by decide +kernel
theorem dX10_price_15 : decode cX10_price 15 = .ok (.getfield 75, 3) := by decide +kernel
theorem dX10_price_18 : decode cX10_price 18 = .ok (.iload_n 3, 1) := by decide +kernel
theorem dX10_price_19 : decode cX10_price 19 = .ok (.iaload, 1) := by decide +kernel
theorem dX10_price_20 : decode cX10_price 20 = .ok (.istore 4, 2) := by decide +kernel
theorem dX10_price_22 : decode cX10_price 22 = .ok (.aload_n 0, 1) := by decide +kernel
theorem dX10_price_23 : decode cX10_price 23 = .ok (.getfield 78, 3) := by decide +kernel
theorem dX10_price_26 : decode cX10_price 26 = .ok (.iload 4, 2) := by decide +kernel
theorem dX10_price_28 : decode cX10_price 28 = .ok (.baload, 1) := by decide +kernel
theorem dX10_price_29 : decode cX10_price 29 = .ok (.ifCond .eq 34, 3) := by decide +kernel
theorem dX10_price_32 : decode cX10_price 32 = .ok (.aload_n 0, 1) := by decide +kernel
theorem dX10_price_33 : decode cX10_price 33 = .ok (.getfield 87, 3) := by decide +kernel
theorem dX10_price_36 : decode cX10_price 36 = .ok (.iload 4, 2) := by decide +kernel
theorem dX10_price_38 : decode cX10_price 38 = .ok (.baload, 1) := by decide +kernel
theorem dX10_price_39 : decode cX10_price 39 = .ok (.ifCond .ne 24, 3) := by decide +kernel
theorem dX10_price_42 : decode cX10_price 42 = .ok (.aload_n 0, 1) := by decide +kernel
theorem dX10_price_43 : decode cX10_price 43 = .ok (.getfield 54, 3) := by decide +kernel
theorem dX10_price_46 : decode cX10_price 46 = .ok (.iload 4, 2) := by decide +kernel
theorem dX10_price_48 : decode cX10_price 48 = .ok (.iaload, 1) := by decide +kernel
theorem dX10_price_49 : decode cX10_price 49 = .ok (.iload_n 2, 1) := by decide +kernel
theorem dX10_price_50 : decode cX10_price 50 = .ok (.if_icmp .le 13, 3) := by decide +kernel
theorem dX10_price_53 : decode cX10_price 53 = .ok (.aload_n 0, 1) := by decide +kernel
theorem dX10_price_54 : decode cX10_price 54 = .ok (.getfield 54, 3) := by decide +kernel
theorem dX10_price_57 : decode cX10_price 57 = .ok (.iload 4, 2) := by decide +kernel
theorem dX10_price_59 : decode cX10_price 59 = .ok (.iaload, 1) := by decide +kernel
theorem dX10_price_60 : decode cX10_price 60 = .ok (.goto 4, 3) := by decide +kernel
theorem dX10_price_63 : decode cX10_price 63 = .ok (.iload_n 2, 1) := by decide +kernel
theorem dX10_price_64 : decode cX10_price 64 = .ok (.istore_n 2, 1) := by decide +kernel
theorem dX10_price_65 : decode cX10_price 65 = .ok (.iinc 3 1, 3) := by decide +kernel
theorem dX10_price_68 : decode cX10_price 68 = .ok (.goto (-59), 3) := by decide +kernel
theorem dX10_price_71 : decode cX10_price 71 = .ok (.iload_n 2, 1) := by decide +kernel
theorem dX10_price_72 : decode cX10_price 72 = .ok (.ireturn, 1) := by decide +kernel
set_option maxRecDepth 20000 in
theorem ggX10_links_X10_cuts : GoodIn wsX10_links wsX10_cuts := goodIn_r _ [14, 2, 6, 15, 16, 17, 8, 18, 19, 20, 13, 21, 22, 23, 24, 25, 26, 27, 28, 7, 65, 66, 67, 68, 69, 70, 71, 72, 73, 74, 75, 76, 77, 78, 79, 80, 81, 82, 83, 84, 85, 86, 87, 88, 89, 90, 91, 92, 93, 94] (by decide +kernel) (by decide +kernel)
set_option maxRecDepth 20000 in
theorem gX10_links_X10_cuts : GoodIn wsX10_links (wsV RX10 138 RX10 yX10_cuts wsX10_cuts) := goodIn_app (goodIn_of _ (by decide +kernel)) ggX10_links_X10_cuts
set_option maxRecDepth 20000 in
theorem ggX10_links_X10_isFirst : GoodIn wsX10_links wsX10_isFirst := goodIn_r _ [32, 33, 34, 35, 13, 36, 37, 38, 39, 40, 8, 41, 42, 43, 44, 25, 26, 27, 28, 7, 65, 66, 67, 68, 69, 70, 71, 72, 73, 74, 75, 76, 77, 78, 79, 80, 81, 82, 83, 84, 85, 86, 87, 88, 89, 90, 91, 92, 93, 94] (by decide +kernel) (by decide +kernel)
set_option maxRecDepth 20000 in
theorem gX10_links_X10_isFirst : GoodIn wsX10_links (wsV RX10 166 RX10 yX10_isFirst wsX10_isFirst) := goodIn_app (goodIn_of _ (by decide +kernel)) ggX10_links_X10_isFirst
set_option maxRecDepth 20000 in
theorem ggX10_links_X10_isInChain : GoodIn wsX10_links wsX10_isInChain := goodIn_r _ [48, 1, 49, 50, 51, 13, 52, 9, 5, 53, 54, 55, 56, 57, 58, 59, 60, 61, 62, 63, 64, 2, 3, 33, 34, 35, 36, 37, 38, 39, 40, 8, 41, 42, 43, 44, 25, 26, 27, 28, 7, 65, 66, 67, 68, 69, 70, 71, 72, 73, 74, 75, 76, 77, 78, 79, 80, 81, 82, 83, 84, 85, 86, 87, 88, 89, 90, 91, 92, 93, 94] (by decide +kernel) (by decide +kernel)
set_option maxRecDepth 20000 in
theorem gX10_links_X10_isInChain : GoodIn wsX10_links (wsV RX10 169 RX10 yX10_isInChain wsX10_isInChain) := goodIn_app (goodIn_of _ (by decide +kernel)) ggX10_links_X10_isInChain
set_option maxRecDepth 20000 in
theorem ggX10_links_X10_latestNow : GoodIn wsX10_links wsX10_latestNow := goodIn_r _ [56, 1, 57, 58, 59, 13, 60, 9, 65, 66, 67, 68, 69, 70, 71, 72, 73, 74, 75, 76, 77, 78, 79, 80, 81, 82, 83, 84, 85, 86, 87, 88, 89, 90, 91, 92, 93, 94] (by decide +kernel) (by decide +kernel)
set_option maxRecDepth 20000 in
theorem gX10_links_X10_latestNow : GoodIn wsX10_links (wsV RX10 157 RX10 yX10_latestNow wsX10_latestNow) := goodIn_app (goodIn_of _ (by decide +kernel)) ggX10_links_X10_latestNow
theorem dX10_links_0 : decode cX10_links 0 = .ok (.aload_n 0, 1) := by decide +kernel
theorem dX10_links_1 : decode cX10_links 1 = .ok (.iload_n 1, 1) := by decide +kernel
theorem dX10_links_2 : decode cX10_links 2 = .ok (.invokevirtual 138, 3) := by decide +kernel
theorem dX10_links_5 : decode cX10_links 5 = .ok (.istore_n 2, 1) := by decide +kernel
theorem dX10_links_6 : decode cX10_links 6 = .ok (.bipush 60, 2) := by decide +kernel
theorem dX10_links_8 : decode cX10_links 8 = .ok (.iload_n 1, 1) := by decide +kernel
theorem dX10_links_9 : decode cX10_links 9 = .ok (.imul, 1) := by decide +kernel
theorem dX10_links_10 : decode cX10_links 10 = .ok (.aload_n 0, 1) := by decide +kernel
theorem dX10_links_11 : decode cX10_links 11 = .ok (.getfield 151, 3) := by decide +kernel
theorem dX10_links_14 : decode cX10_links 14 = .ok (.iadd, 1) := by decide +kernel
theorem dX10_links_15 : decode cX10_links 15 = .ok (.istore_n 3, 1) := by decide +kernel
theorem dX10_links_16 : decode cX10_links 16 = .ok (.iconst 0, 1) := by decide +kernel
theorem dX10_links_17 : decode cX10_links 17 = .ok (.istore 4, 2) := by decide +kernel
theorem dX10_links_19 : decode cX10_links 19 = .ok (.iload 4, 2) := by decide +kernel
theorem dX10_links_21 : decode cX10_links 21 = .ok (.aload_n 0, 1) := by decide +kernel
theorem dX10_links_22 : decode cX10_links 22 = .ok (.getfield 19, 3) := by decide +kernel
theorem dX10_links_25 : decode cX10_links 25 = .ok (.iload_n 2, 1) := by decide +kernel
theorem dX10_links_26 : decode cX10_links 26 = .ok (.iaload, 1) := by decide +kernel
theorem dX10_links_27 : decode cX10_links 27 = .ok (.if_icmp .ge 57, 3) := by decide +kernel
theorem dX10_links_30 : decode cX10_links 30 = .ok (.aload_n 0, 1) := by decide +kernel
theorem dX10_links_31 : decode cX10_links 31 = .ok (.getfield 28, 3) := by decide +kernel
theorem dX10_links_34 : decode cX10_links 34 = .ok (.bipush 48, 2) := by decide +kernel
theorem dX10_links_36 : decode cX10_links 36 = .ok (.iload_n 3, 1) := by decide +kernel
theorem dX10_links_37 : decode cX10_links 37 = .ok (.imul, 1) := by decide +kernel
theorem dX10_links_38 : decode cX10_links 38 = .ok (.iload 4, 2) := by decide +kernel
theorem dX10_links_40 : decode cX10_links 40 = .ok (.iadd, 1) := by decide +kernel
theorem dX10_links_41 : decode cX10_links 41 = .ok (.aload_n 0, 1) := by decide +kernel
theorem dX10_links_42 : decode cX10_links 42 = .ok (.iload_n 2, 1) := by decide +kernel
theorem dX10_links_43 : decode cX10_links 43 = .ok (.iload 4, 2) := by decide +kernel
theorem dX10_links_45 : decode cX10_links 45 = .ok (.invokevirtual 166, 3) := by decide +kernel
theorem dX10_links_48 : decode cX10_links 48 = .ok (.ifCond .eq 28, 3) := by decide +kernel
theorem dX10_links_51 : decode cX10_links 51 = .ok (.aload_n 0, 1) := by decide +kernel
theorem dX10_links_52 : decode cX10_links 52 = .ok (.getfield 81, 3) := by decide +kernel
theorem dX10_links_55 : decode cX10_links 55 = .ok (.iload_n 1, 1) := by decide +kernel
theorem dX10_links_56 : decode cX10_links 56 = .ok (.iaload, 1) := by decide +kernel
theorem dX10_links_57 : decode cX10_links 57 = .ok (.iconst 1, 1) := by decide +kernel
theorem dX10_links_58 : decode cX10_links 58 = .ok (.if_icmp .eq 14, 3) := by decide +kernel
theorem dX10_links_61 : decode cX10_links 61 = .ok (.aload_n 0, 1) := by decide +kernel
theorem dX10_links_62 : decode cX10_links 62 = .ok (.iload_n 1, 1) := by decide +kernel
theorem dX10_links_63 : decode cX10_links 63 = .ok (.iload_n 2, 1) := by decide +kernel
