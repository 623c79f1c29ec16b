theorem dX2_fingerprint_25 : decode cX2_fingerprint 25 = .ok (.goto 9, 3) := by decide +kernel
theorem dX2_fingerprint_28 : decode cX2_fingerprint 28 = .ok (.aload 4, 2) := by decide +kernel
theorem dX2_fingerprint_30 : decode cX2_fingerprint 30 = .ok (.lload_n 1, 1) := by decide +kernel
theorem dX2_fingerprint_31 : decode cX2_fingerprint 31 = .ok (.invokevirtual 37, 3) := by decide +kernel
theorem dX2_fingerprint_34 : decode cX2_fingerprint 34 = .ok (.lstore_n 1, 1) := by decide +kernel
theorem dX2_fingerprint_35 : decode cX2_fingerprint 35 = .ok (.iinc 3 1, 3) := by decide +kernel
theorem dX2_fingerprint_38 : decode cX2_fingerprint 38 = .ok (.goto (-34), 3) := by decide +kernel
theorem dX2_fingerprint_41 : decode cX2_fingerprint 41 = .ok (.lload_n 1, 1) := by decide +kernel
theorem dX2_fingerprint_42 : decode cX2_fingerprint 42 = .ok (.lreturn, 1) := by decide +kernel
set_option maxRecDepth 20000 in
theorem ggX3_init_X0_init : GoodIn wsX3_init wsX0_init := goodIn_r _ [22, 23, 2, 3, 24, 25, 26, 27, 28, 29, 30, 31, 32] (by decide +kernel) (by decide +kernel)
set_option maxRecDepth 20000 in
theorem gX3_init_X0_init_n11 : GoodIn wsX3_init (wsX0_init) := ggX3_init_X0_init
theorem dX3_init_0 : decode cX3_init 0 = .ok (.aload_n 0, 1) := by decide +kernel
theorem dX3_init_1 : decode cX3_init 1 = .ok (.invokespecial 3, 3) := by decide +kernel
theorem dX3_init_4 : decode cX3_init 4 = .ok (.aload_n 0, 1) := by decide +kernel
theorem dX3_init_5 : decode cX3_init 5 = .ok (.new 9, 3) := by decide +kernel
theorem dX3_init_8 : decode cX3_init 8 = .ok (.dup, 1) := by decide +kernel
theorem dX3_init_9 : decode cX3_init 9 = .ok (.invokespecial 11, 3) := by decide +kernel
theorem dX3_init_12 : decode cX3_init 12 = .ok (.putfield 12, 3) := by decide +kernel
theorem dX3_init_15 : decode cX3_init 15 = .ok (.aload_n 0, 1) := by decide +kernel
theorem dX3_init_16 : decode cX3_init 16 = .ok (.bipush 60, 2) := by decide +kernel
theorem dX3_init_18 : decode cX3_init 18 = .ok (.anewarray 18, 3) := by decide +kernel
theorem dX3_init_21 : decode cX3_init 21 = .ok (.putfield 20, 3) := by decide +kernel
theorem dX3_init_24 : decode cX3_init 24 = .ok (.aload_n 0, 1) := by decide +kernel
theorem dX3_init_25 : decode cX3_init 25 = .ok (.aconst_null, 1) := by decide +kernel
theorem dX3_init_26 : decode cX3_init 26 = .ok (.putfield 24, 3) := by decide +kernel
theorem dX3_init_29 : decode cX3_init 29 = .ok (.aload_n 0, 1) := by decide +kernel
theorem dX3_init_30 : decode cX3_init 30 = .ok (.iconst 0, 1) := by decide +kernel
theorem dX3_init_31 : decode cX3_init 31 = .ok (.putfield 28, 3) := by decide +kernel
theorem dX3_init_34 : decode cX3_init 34 = .ok (.aload_n 0, 1) := by decide +kernel
theorem dX3_init_35 : decode cX3_init 35 = .ok (.iconst 5, 1) := by decide +kernel
theorem dX3_init_36 : decode cX3_init 36 = .ok (.putfield 32, 3) := by decide +kernel
theorem dX3_init_39 : decode cX3_init 39 = .ok (.aload_n 0, 1) := by decide +kernel
theorem dX3_init_40 : decode cX3_init 40 = .ok (.iconst 0, 1) := by decide +kernel
theorem dX3_init_41 : decode cX3_init 41 = .ok (.putfield 35, 3) := by decide +kernel
theorem dX3_init_44 : decode cX3_init 44 = .ok (.aload_n 0, 1) := by decide +kernel
theorem dX3_init_45 : decode cX3_init 45 = .ok (.bipush 60, 2) := by decide +kernel
theorem dX3_init_47 : decode cX3_init 47 = .ok (.putfield 38, 3) := by decide +kernel
theorem dX3_init_50 : decode cX3_init 50 = .ok (.aload_n 0, 1) := by decide +kernel
theorem dX3_init_51 : decode cX3_init 51 = .ok (.iconst 0, 1) := by decide +kernel
theorem dX3_init_52 : decode cX3_init 52 = .ok (.putfield 41, 3) := by decide +kernel
theorem dX3_init_55 : decode cX3_init 55 = .ok (.aload_n 0, 1) := by decide +kernel
theorem dX3_init_56 : decode cX3_init 56 = .ok (.iconst 0, 1) := by decide +kernel
theorem dX3_init_57 : decode cX3_init 57 = .ok (.putfield 44, 3) := by decide +kernel
theorem dX3_init_60 : decode cX3_init 60 = .ok (.aload_n 0, 1) := by decide +kernel
theorem dX3_init_61 : decode cX3_init 61 = .ok (.iconst 0, 1) := by decide +kernel
theorem dX3_init_62 : decode cX3_init 62 = .ok (.putfield 47, 3) := by decide +kernel
theorem dX3_init_65 : decode cX3_init 65 = .ok (.aload_n 0, 1) := by decide +kernel
theorem dX3_init_66 : decode cX3_init 66 = .ok (.iconst 0, 1) := by decide +kernel
theorem dX3_init_67 : decode cX3_init 67 = .ok (.putfield 50, 3) := by decide +kernel
theorem dX3_init_70 : decode cX3_init 70 = .ok (.aload_n 0, 1) := by decide +kernel
theorem dX3_init_71 : decode cX3_init 71 = .ok (.iconst 0, 1) := by decide +kernel
theorem dX3_init_72 : decode cX3_init 72 = .ok (.putfield 54, 3) := by decide +kernel
theorem dX3_init_75 : decode cX3_init 75 = .ok (.aload_n 0, 1) := by decide +kernel
theorem dX3_init_76 : decode cX3_init 76 = .ok (.iconst 0, 1) := by decide +kernel
theorem dX3_init_77 : decode cX3_init 77 = .ok (.putfield 57, 3) := by decide +kernel
theorem dX3_init_80 : decode cX3_init 80 = .ok (.return_, 1) := by decide +kernel
theorem dX3_linkAt_0 : decode cX3_linkAt 0 = .ok (.iload_n 1, 1) := by decide +kernel
theorem dX3_linkAt_1 : decode cX3_linkAt 1 = .ok (.ifCond .lt 21, 3) := by decide +kernel
theorem dX3_linkAt_4 : decode cX3_linkAt 4 = .ok (.iload_n 1, 1) := by decide +kernel
theorem dX3_linkAt_5 : decode cX3_linkAt 5 = .ok (.aload_n 0, 1) := by decide +kernel
theorem dX3_linkAt_6 : decode cX3_linkAt 6 = .ok (.getfield 20, 3) := by decide +kernel
theorem dX3_linkAt_9 : decode cX3_linkAt 9 = .ok (.arraylength, 1) := by decide +kernel
theorem dX3_linkAt_10 : decode cX3_linkAt 10 = .ok (.if_icmp .ge 12, 3) := by decide +kernel
theorem dX3_linkAt_13 : decode cX3_linkAt 13 = .ok (.aload_n 0, 1) := by decide +kernel
theorem dX3_linkAt_14 : decode cX3_linkAt 14 = .ok (.getfield 20, 3) := by decide +kernel
theorem dX3_linkAt_17 : decode cX3_linkAt 17 = .ok (.iload_n 1, 1) := by decide +kernel
theorem dX3_linkAt_18 : decode cX3_linkAt 18 = .ok (.aaload, 1) := by decide +kernel
theorem dX3_linkAt_19 : decode cX3_linkAt 19 = .ok (.goto 4, 3) := by decide +kernel
theorem dX3_linkAt_22 : decode cX3_linkAt 22 = .ok (.aconst_null, 1) := by decide +kernel
theorem dX3_linkAt_23 : decode cX3_linkAt 23 = .ok (.areturn, 1) := by decide +kernel
theorem dX3_addLink_0 : decode cX3_addLink 0 = .ok (.iload_n 1, 1) := by decide +kernel
theorem dX3_addLink_1 : decode cX3_addLink 1 = .ok (.ifCond .lt 24, 3) := by decide +kernel
theorem dX3_addLink_4 : decode cX3_addLink 4 = .ok (.iload_n 1, 1) := by decide +kernel
theorem dX3_addLink_5 : decode cX3_addLink 5 = .ok (.aload_n 0, 1) := by decide +kernel
theorem dX3_addLink_6 : decode cX3_addLink 6 = .ok (.getfield 20, 3) := by decide +kernel
theorem dX3_addLink_9 : decode cX3_addLink 9 = .ok (.arraylength, 1) := by decide +kernel
theorem dX3_addLink_10 : decode cX3_addLink 10 = .ok (.if_icmp .ge 15, 3) := by decide +kernel
theorem dX3_addLink_13 : decode cX3_addLink 13 = .ok (.aload_n 0, 1) := by decide +kernel
theorem dX3_addLink_14 : decode cX3_addLink 14 = .ok (.getfield 20, 3) := by decide +kernel
theorem dX3_addLink_17 : decode cX3_addLink 17 = .ok (.iload_n 1, 1) := by decide +kernel
theorem dX3_addLink_18 : decode cX3_addLink 18 = .ok (.aload_n 2, 1) := by decide +kernel
theorem dX3_addLink_19 : decode cX3_addLink 19 = .ok (.aastore, 1) := by decide +kernel
theorem dX3_addLink_20 : decode cX3_addLink 20 = .ok (.aload_n 0, 1) := by decide +kernel
theorem dX3_addLink_21 : decode cX3_addLink 21 = .ok (.aload_n 2, 1) := by decide +kernel
theorem dX3_addLink_22 : decode cX3_addLink 22 = .ok (.putfield 24, 3) := by decide +kernel
theorem dX3_addLink_25 : decode cX3_addLink 25 = .ok (.return_, 1) := by decide +kernel
theorem dX3_latestDayUpTo_0 : decode cX3_latestDayUpTo 0 = .ok (.iload_n 1, 1) := by decide +kernel
theorem dX3_latestDayUpTo_1 : decode cX3_latestDayUpTo 1 = .ok (.aload_n 0, 1) := by decide +kernel
theorem dX3_latestDayUpTo_2 : decode cX3_latestDayUpTo 2 = .ok (.getfield 20, 3) := by decide +kernel
theorem dX3_latestDayUpTo_5 : decode cX3_latestDayUpTo 5 = .ok (.arraylength, 1) := by decide +kernel
theorem dX3_latestDayUpTo_6 : decode cX3_latestDayUpTo 6 = .ok (.iconst 1, 1) := by decide +kernel
theorem dX3_latestDayUpTo_7 : decode cX3_latestDayUpTo 7 = .ok (.isub, 1) := by decide +kernel
theorem dX3_latestDayUpTo_8 : decode cX3_latestDayUpTo 8 = .ok (.invokestatic 60, 3) := by decide +kernel
theorem dX3_latestDayUpTo_11 : decode cX3_latestDayUpTo 11 = .ok (.istore_n 2, 1) := by decide +kernel
theorem dX3_latestDayUpTo_12 : decode cX3_latestDayUpTo 12 = .ok (.iload_n 2, 1) := by decide +kernel
theorem dX3_latestDayUpTo_13 : decode cX3_latestDayUpTo 13 = .ok (.ifCond .lt 20, 3) := by decide +kernel
theorem dX3_latestDayUpTo_16 : decode cX3_latestDayUpTo 16 = .ok (.aload_n 0, 1) := by decide +kernel
theorem dX3_latestDayUpTo_17 : decode cX3_latestDayUpTo 17 = .ok (.getfield 20, 3) := by decide +kernel
theorem dX3_latestDayUpTo_20 : decode cX3_latestDayUpTo 20 = .ok (.iload_n 2, 1) := by decide +kernel
theorem dX3_latestDayUpTo_21 : decode cX3_latestDayUpTo 21 = .ok (.aaload, 1) := by decide +kernel
theorem dX3_latestDayUpTo_22 : decode cX3_latestDayUpTo 22 = .ok (.ifnull 5, 3) := by decide +kernel
theorem dX3_latestDayUpTo_25 : decode cX3_latestDayUpTo 25 = .ok (.iload_n 2, 1) := by decide +kernel
theorem dX3_latestDayUpTo_26 : decode cX3_latestDayUpTo 26 = .ok (.ireturn, 1) := by decide +kernel
theorem dX3_latestDayUpTo_27 : decode cX3_latestDayUpTo 27 = .ok (.iinc 2 (-1), 3) := by decide +kernel
theorem dX3_latestDayUpTo_30 : decode cX3_latestDayUpTo 30 = .ok (.goto (-18), 3) := by decide +kernel
theorem dX3_latestDayUpTo_33 : decode cX3_latestDayUpTo 33 = .ok (.iconst (-1), 1) := by decide +kernel
theorem dX3_latestDayUpTo_34 : decode cX3_latestDayUpTo 34 = .ok (.ireturn, 1) := by decide +kernel
set_option maxRecDepth 20000 in
theorem ggX3_wantsBase_X5_differencesUpToHere : GoodIn wsX3_wantsBase wsX5_differencesUpToHere := goodIn_r _ [8, 9, 23, 24, 25] (by decide +kernel) (by decide +kernel)
set_option maxRecDepth 20000 in
theorem gX3_wantsBase_X5_differencesUpToHere : GoodIn wsX3_wantsBase (wsV RX3 66 RX5 yX5_differencesUpToHere wsX5_differencesUpToHere) := goodIn_app (goodIn_of _ (by decide +kernel)) ggX3_wantsBase_X5_differencesUpToHere
theorem dX3_wantsBase_0 : decode cX3_wantsBase 0 = .ok (.aload_n 0, 1) := by decide +kernel
theorem dX3_wantsBase_1 : decode cX3_wantsBase 1 = .ok (.getfield 24, 3) := by decide +kernel
theorem dX3_wantsBase_4 : decode cX3_wantsBase 4 = .ok (.ifnonnull 5, 3) := by decide +kernel
theorem dX3_wantsBase_7 : decode cX3_wantsBase 7 = .ok (.iconst 1, 1) := by decide +kernel
theorem dX3_wantsBase_8 : decode cX3_wantsBase 8 = .ok (.ireturn, 1) := by decide +kernel
theorem dX3_wantsBase_9 : decode cX3_wantsBase 9 = .ok (.aload_n 0, 1) := by decide +kernel
theorem dX3_wantsBase_10 : decode cX3_wantsBase 10 = .ok (.getfield 24, 3) := by decide +kernel
theorem dX3_wantsBase_13 : decode cX3_wantsBase 13 = .ok (.invokevirtual 66, 3) := by decide +kernel
theorem dX3_wantsBase_16 : decode cX3_wantsBase 16 = .ok (.aload_n 0, 1) := by decide +kernel
theorem dX3_wantsBase_17 : decode cX3_wantsBase 17 = .ok (.getfield 32, 3) := by decide +kernel
theorem dX3_wantsBase_20 : decode cX3_wantsBase 20 = .ok (.if_icmp .lt 15, 3) := by decide +kernel
theorem dX3_wantsBase_23 : decode cX3_wantsBase 23 = .ok (.iload_n 1, 1) := by decide +kernel
theorem dX3_wantsBase_24 : decode cX3_wantsBase 24 = .ok (.aload_n 0, 1) := by decide +kernel
theorem dX3_wantsBase_25 : decode cX3_wantsBase 25 = .ok (.getfield 35, 3) := by decide +kernel
theorem dX3_wantsBase_28 : decode cX3_wantsBase 28 = .ok (.if_icmp .gt 7, 3) := by decide +kernel
theorem dX3_wantsBase_31 : decode cX3_wantsBase 31 = .ok (.iconst 1, 1) := by decide +kernel
theorem dX3_wantsBase_32 : decode cX3_wantsBase 32 = .ok (.goto 4, 3) := by decide +kernel
theorem dX3_wantsBase_35 : decode cX3_wantsBase 35 = .ok (.iconst 0, 1) := by decide +kernel
theorem dX3_wantsBase_36 : decode cX3_wantsBase 36 = .ok (.ireturn, 1) := by decide +kernel
set_option maxRecDepth 20000 in
theorem ggX3_wantsDifference_X0_isCutAs : GoodIn wsX3_wantsDifference wsX0_isCutAs := goodIn_r _ [8, 9, 10, 11, 12, 13, 7, 14, 15, 16, 17, 18, 19, 20, 21, 22, 23, 24, 25, 26, 27, 28, 29, 46, 47, 48, 49, 50, 51, 52, 53] (by decide +kernel) (by decide +kernel)
set_option maxRecDepth 20000 in
theorem gX3_wantsDifference_X0_isCutAs : GoodIn wsX3_wantsDifference (wsV RX3 74 RX0 yX0_isCutAs wsX0_isCutAs) := goodIn_app (goodIn_of _ (by decide +kernel)) ggX3_wantsDifference_X0_isCutAs
theorem dX3_wantsDifference_0 : decode cX3_wantsDifference 0 = .ok (.aload_n 0, 1) := by decide +kernel
theorem dX3_wantsDifference_1 : decode cX3_wantsDifference 1 = .ok (.getfield 24, 3) := by decide +kernel
theorem dX3_wantsDifference_4 : decode cX3_wantsDifference 4 = .ok (.ifnull 24, 3) := by decide +kernel
theorem dX3_wantsDifference_7 : decode cX3_wantsDifference 7 = .ok (.aload_n 0, 1) := by decide +kernel
theorem dX3_wantsDifference_8 : decode cX3_wantsDifference 8 = .ok (.getfield 12, 3) := by decide +kernel
theorem dX3_wantsDifference_11 : decode cX3_wantsDifference 11 = .ok (.aload_n 0, 1) := by decide +kernel
theorem dX3_wantsDifference_12 : decode cX3_wantsDifference 12 = .ok (.getfield 24, 3) := by decide +kernel
theorem dX3_wantsDifference_15 : decode cX3_wantsDifference 15 = .ok (.getfield 70, 3) := by decide +kernel
theorem dX3_wantsDifference_18 : decode cX3_wantsDifference 18 = .ok (.invokevirtual 74, 3) := by decide +kernel
theorem dX3_wantsDifference_21 : decode cX3_wantsDifference 21 = .ok (.ifCond .ne 7, 3) := by decide +kernel
theorem dX3_wantsDifference_24 : decode cX3_wantsDifference 24 = .ok (.iconst 1, 1) := by decide +kernel
theorem dX3_wantsDifference_25 : decode cX3_wantsDifference 25 = .ok (.goto 4, 3) := by decide +kernel
theorem dX3_wantsDifference_28 : decode cX3_wantsDifference 28 = .ok (.iconst 0, 1) := by decide +kernel
theorem dX3_wantsDifference_29 : decode cX3_wantsDifference 29 = .ok (.ireturn, 1) := by decide +kernel
set_option maxRecDepth 20000 in
theorem ggX3_asks_X3_wantsBase : GoodIn wsX3_asks wsX3_wantsBase := goodIn_r _ [6, 7, 8, 9, 10, 11, 12, 13, 14, 15, 48, 49, 50, 51, 52, 53, 54, 55, 56, 57, 58, 59, 60, 61, 62, 63] (by decide +kernel) (by decide +kernel)
set_option maxRecDepth 20000 in
theorem gX3_asks_X3_wantsBase : GoodIn wsX3_asks (wsV RX3 78 RX3 yX3_wantsBase wsX3_wantsBase) := goodIn_app (goodIn_of _ (by decide +kernel)) ggX3_asks_X3_wantsBase
set_option maxRecDepth 20000 in
theorem ggX3_asks_X3_wantsDifference : GoodIn wsX3_asks wsX3_wantsDifference := goodIn_r _ [19, 7, 20, 21, 22, 23, 24, 25, 26, 27, 28, 29, 30, 31, 32, 33, 34, 35, 36, 37, 38, 39, 40, 41, 42, 43, 44, 45, 46, 47, 48, 49, 50, 51, 52, 53, 54, 55, 56, 57, 58, 59, 60, 61, 62, 63, 64, 65, 66, 67, 68, 69, 70, 71] (by decide +kernel) (by decide +kernel)
set_option maxRecDepth 20000 in
theorem gX3_asks_X3_wantsDifference : GoodIn wsX3_asks (wsV RX3 82 RX3 yX3_wantsDifference wsX3_wantsDifference) := goodIn_app (goodIn_of _ (by decide +kernel)) ggX3_asks_X3_wantsDifference
theorem dX3_asks_0 : decode cX3_asks 0 = .ok (.aload_n 0, 1) := by decide +kernel
theorem dX3_asks_1 : decode cX3_asks 1 = .ok (.getfield 28, 3) := by decide +kernel
theorem dX3_asks_4 : decode cX3_asks 4 = .ok (.ifCond .le 30, 3) := by decide +kernel
theorem dX3_asks_7 : decode cX3_asks 7 = .ok (.aload_n 0, 1) := by decide +kernel
theorem dX3_asks_8 : decode cX3_asks 8 = .ok (.getfield 28, 3) := by decide +kernel
theorem dX3_asks_11 : decode cX3_asks 11 = .ok (.iload_n 1, 1) := by decide +kernel
theorem dX3_asks_12 : decode cX3_asks 12 = .ok (.if_icmp .lt 22, 3) := by decide +kernel
theorem dX3_asks_15 : decode cX3_asks 15 = .ok (.aload_n 0, 1) := by decide +kernel
theorem dX3_asks_16 : decode cX3_asks 16 = .ok (.iload_n 1, 1) := by decide +kernel
theorem dX3_asks_17 : decode cX3_asks 17 = .ok (.invokevirtual 78, 3) := by decide +kernel
theorem dX3_asks_20 : decode cX3_asks 20 = .ok (.ifCond .ne 10, 3) := by decide +kernel
theorem dX3_asks_23 : decode cX3_asks 23 = .ok (.aload_n 0, 1) := by decide +kernel
theorem dX3_asks_24 : decode cX3_asks 24 = .ok (.invokevirtual 82, 3) := by decide +kernel
theorem dX3_asks_27 : decode cX3_asks 27 = .ok (.ifCond .eq 7, 3) := by decide +kernel
theorem dX3_asks_30 : decode cX3_asks 30 = .ok (.iconst 1, 1) := by decide +kernel
theorem dX3_asks_31 : decode cX3_asks 31 = .ok (.goto 4, 3) := by decide +kernel
theorem dX3_asks_34 : decode cX3_asks 34 = .ok (.iconst 0, 1) := by decide +kernel
theorem dX3_asks_35 : decode cX3_asks 35 = .ok (.ireturn, 1) := by decide +kernel
set_option maxRecDepth 20000 in
theorem ggX3_takeTurn_X3_wantsBase : GoodIn wsX3_takeTurn wsX3_wantsBase := goodIn_r _ [8, 3, 9, 10, 11, 12, 13, 14, 15, 16, 76, 77, 78, 79, 80, 81, 82, 83, 84, 85, 86, 87, 88, 89, 90, 91] (by decide +kernel) (by decide +kernel)
set_option maxRecDepth 20000 in
theorem gX3_takeTurn_X3_wantsBase : GoodIn wsX3_takeTurn (wsV RX3 78 RX3 yX3_wantsBase wsX3_wantsBase) := goodIn_app (goodIn_of _ (by decide +kernel)) ggX3_takeTurn_X3_wantsBase
set_option maxRecDepth 20000 in
theorem ggX3_takeTurn_X0_linkBytes : GoodIn wsX3_takeTurn wsX0_linkBytes := goodIn_r _ [21, 22, 23, 24, 25, 20, 26, 27, 28, 29, 30, 14, 31, 32, 16, 33, 34, 35, 36, 37, 38, 39, 40, 41, 42, 43, 44, 45, 46, 47, 48, 49, 50, 51, 52, 53, 54, 55, 56, 57, 58, 59, 60, 61, 62, 63, 92, 93, 94, 95, 89, 90, 91, 96, 97, 98, 99] (by decide +kernel) (by decide +kernel)
set_option maxRecDepth 20000 in
theorem gX3_takeTurn_X0_linkBytes : GoodIn wsX3_takeTurn (wsV RX3 86 RX0 yX0_linkBytes wsX0_linkBytes) := goodIn_app (goodIn_of _ (by decide +kernel)) ggX3_takeTurn_X0_linkBytes
set_option maxRecDepth 20000 in
theorem ggX3_takeTurn_X3_wantsDifference : GoodIn wsX3_takeTurn wsX3_wantsDifference := goodIn_r _ [67, 3, 1, 68, 69, 70, 71, 20, 72, 73, 22, 23, 24, 25, 26, 27, 74, 40, 41, 36, 42, 38, 43, 75, 45, 46, 47, 48, 49, 50, 76, 77, 78, 79, 80, 81, 82, 83, 84, 85, 86, 87, 88, 89, 90, 91, 96, 97, 92, 93, 94, 95, 98, 99] (by decide +kernel) (by decide +kernel)
set_option maxRecDepth 20000 in
theorem gX3_takeTurn_X3_wantsDifference : GoodIn wsX3_takeTurn (wsV RX3 82 RX3 yX3_wantsDifference wsX3_wantsDifference) := goodIn_app (goodIn_of _ (by decide +kernel)) ggX3_takeTurn_X3_wantsDifference
theorem dX3_takeTurn_0 : decode cX3_takeTurn 0 = .ok (.aload_n 0, 1) := by decide +kernel
theorem dX3_takeTurn_1 : decode cX3_takeTurn 1 = .ok (.iload_n 2, 1) := by decide +kernel
theorem dX3_takeTurn_2 : decode cX3_takeTurn 2 = .ok (.invokevirtual 78, 3) := by decide +kernel
theorem dX3_takeTurn_5 : decode cX3_takeTurn 5 = .ok (.ifCond .eq 24, 3) := by decide +kernel
theorem dX3_takeTurn_8 : decode cX3_takeTurn 8 = .ok (.aload_n 0, 1) := by decide +kernel
theorem dX3_takeTurn_9 : decode cX3_takeTurn 9 = .ok (.getfield 12, 3) := by decide +kernel
theorem dX3_takeTurn_12 : decode cX3_takeTurn 12 = .ok (.aconst_null, 1) := by decide +kernel
theorem dX3_takeTurn_13 : decode cX3_takeTurn 13 = .ok (.invokevirtual 86, 3) := by decide +kernel
theorem dX3_takeTurn_16 : decode cX3_takeTurn 16 = .ok (.istore_n 3, 1) := by decide +kernel
theorem dX3_takeTurn_17 : decode cX3_takeTurn 17 = .ok (.iload_n 3, 1) := by decide +kernel
theorem dX3_takeTurn_18 : decode cX3_takeTurn 18 = .ok (.iload_n 1, 1) := by decide +kernel
theorem dX3_takeTurn_19 : decode cX3_takeTurn 19 = .ok (.if_icmp .gt 10, 3) := by decide +kernel
theorem dX3_takeTurn_22 : decode cX3_takeTurn 22 = .ok (.aload_n 0, 1) := by decide +kernel
theorem dX3_takeTurn_23 : decode cX3_takeTurn 23 = .ok (.iconst 1, 1) := by decide +kernel
theorem dX3_takeTurn_24 : decode cX3_takeTurn 24 = .ok (.putfield 54, 3) := by decide +kernel
theorem dX3_takeTurn_27 : decode cX3_takeTurn 27 = .ok (.iload_n 3, 1) := by decide +kernel
theorem dX3_takeTurn_28 : decode cX3_takeTurn 28 = .ok (.ireturn, 1) := by decide +kernel
theorem dX3_takeTurn_29 : decode cX3_takeTurn 29 = .ok (.aload_n 0, 1) := by decide +kernel
theorem dX3_takeTurn_30 : decode cX3_takeTurn 30 = .ok (.invokevirtual 82, 3) := by decide +kernel
theorem dX3_takeTurn_33 : decode cX3_takeTurn 33 = .ok (.ifCond .eq 27, 3) := by decide +kernel
theorem dX3_takeTurn_36 : decode cX3_takeTurn 36 = .ok (.aload_n 0, 1) := by decide +kernel
theorem dX3_takeTurn_37 : decode cX3_takeTurn 37 = .ok (.getfield 12, 3) := by decide +kernel
theorem dX3_takeTurn_40 : decode cX3_takeTurn 40 = .ok (.aload_n 0, 1) := by decide +kernel
theorem dX3_takeTurn_41 : decode cX3_takeTurn 41 = .ok (.getfield 24, 3) := by decide +kernel
theorem dX3_takeTurn_44 : decode cX3_takeTurn 44 = .ok (.invokevirtual 86, 3) := by decide +kernel
theorem dX3_takeTurn_47 : decode cX3_takeTurn 47 = .ok (.istore_n 3, 1) := by decide +kernel
theorem dX3_takeTurn_48 : decode cX3_takeTurn 48 = .ok (.iload_n 3, 1) := by decide +kernel
theorem dX3_takeTurn_49 : decode cX3_takeTurn 49 = .ok (.iload_n 1, 1) := by decide +kernel
theorem dX3_takeTurn_50 : decode cX3_takeTurn 50 = .ok (.if_icmp .gt 10, 3) := by decide +kernel
theorem dX3_takeTurn_53 : decode cX3_takeTurn 53 = .ok (.aload_n 0, 1) := by decide +kernel
theorem dX3_takeTurn_54 : decode cX3_takeTurn 54 = .ok (.iconst 2, 1) := by decide +kernel
theorem dX3_takeTurn_55 : decode cX3_takeTurn 55 = .ok (.putfield 54, 3) := by decide +kernel
theorem dX3_takeTurn_58 : decode cX3_takeTurn 58 = .ok (.iload_n 3, 1) := by decide +kernel
theorem dX3_takeTurn_59 : decode cX3_takeTurn 59 = .ok (.ireturn, 1) := by decide +kernel
theorem dX3_takeTurn_60 : decode cX3_takeTurn 60 = .ok (.iconst 0, 1) := by decide +kernel
theorem dX3_takeTurn_61 : decode cX3_takeTurn 61 = .ok (.ireturn, 1) := by decide +kernel
theorem dX3_payFor_0 : decode cX3_payFor 0 = .ok (.fload_n 1, 1) := by decide +kernel
theorem dX3_payFor_1 : decode cX3_payFor 1 = .ok (.f2i, 1) := by decide +kernel
theorem dX3_payFor_2 : decode cX3_payFor 2 = .ok (.istore_n 2, 1) := by decide +kernel
theorem dX3_payFor_3 : decode cX3_payFor 3 = .ok (.iload_n 2, 1) := by decide +kernel
theorem dX3_payFor_4 : decode cX3_payFor 4 = .ok (.i2f, 1) := by decide +kernel
theorem dX3_payFor_5 : decode cX3_payFor 5 = .ok (.fload_n 1, 1) := by decide +kernel
theorem dX3_payFor_6 : decode cX3_payFor 6 = .ok (.fcmp .g, 1) := by decide +kernel
theorem dX3_payFor_7 : decode cX3_payFor 7 = .ok (.ifCond .ge 6, 3) := by decide +kernel
theorem dX3_payFor_10 : decode cX3_payFor 10 = .ok (.iinc 2 1, 3) := by decide +kernel
theorem dX3_payFor_13 : decode cX3_payFor 13 = .ok (.iload_n 2, 1) := by decide +kernel
theorem dX3_payFor_14 : decode cX3_payFor 14 = .ok (.aload_n 0, 1) := by decide +kernel
theorem dX3_payFor_15 : decode cX3_payFor 15 = .ok (.getfield 38, 3) := by decide +kernel
theorem dX3_payFor_18 : decode cX3_payFor 18 = .ok (.isub, 1) := by decide +kernel
theorem dX3_payFor_19 : decode cX3_payFor 19 = .ok (.iconst 0, 1) := by decide +kernel
theorem dX3_payFor_20 : decode cX3_payFor 20 = .ok (.invokestatic 90, 3) := by decide +kernel
theorem dX3_payFor_23 : decode cX3_payFor 23 = .ok (.aload_n 0, 1) := by decide +kernel
theorem dX3_payFor_24 : decode cX3_payFor 24 = .ok (.getfield 41, 3) := by decide +kernel
theorem dX3_payFor_27 : decode cX3_payFor 27 = .ok (.imul, 1) := by decide +kernel
theorem dX3_payFor_28 : decode cX3_payFor 28 = .ok (.ireturn, 1) := by decide +kernel
theorem dX4_init_0 : decode cX4_init 0 = .ok (.aload_n 0, 1) := by decide +kernel
theorem dX4_init_1 : decode cX4_init 1 = .ok (.invokespecial 1, 3) := by decide +kernel
theorem dX4_init_4 : decode cX4_init 4 = .ok (.aload_n 0, 1) := by decide +kernel
theorem dX4_init_5 : decode cX4_init 5 = .ok (.aconst_null, 1) := by decide +kernel
theorem dX4_init_6 : decode cX4_init 6 = .ok (.putfield 7, 3) := by decide +kernel
theorem dX4_init_9 : decode cX4_init 9 = .ok (.aload_n 0, 1) := by decide +kernel
theorem dX4_init_10 : decode cX4_init 10 = .ok (.iconst 0, 1) := by decide +kernel
theorem dX4_init_11 : decode cX4_init 11 = .ok (.putfield 13, 3) := by decide +kernel
theorem dX4_init_14 : decode cX4_init 14 = .ok (.return_, 1) := by decide +kernel
set_option maxRecDepth 20000 in
theorem ggX4_linkFor_X5_init : GoodIn wsX4_linkFor wsX5_init := goodIn_r _ [7, 8, 9, 10, 11, 12, 13, 14, 15, 16, 17, 18, 19, 20, 21, 22, 89, 90, 82, 83, 84] (by decide +kernel) (by decide +kernel)
set_option maxRecDepth 20000 in
theorem gX4_linkFor_X5_init : GoodIn wsX4_linkFor (wsX5_init) := ggX4_linkFor_X5_init
set_option maxRecDepth 20000 in
theorem ggX4_linkFor_X0_partEnd : GoodIn wsX4_linkFor wsX0_partEnd := goodIn_r _ [27, 28, 29, 85, 86, 87, 88] (by decide +kernel) (by decide +kernel)
set_option maxRecDepth 20000 in
theorem gX4_linkFor_X0_partEnd : GoodIn wsX4_linkFor (wsV RX4 27 RX0 yX0_partEnd wsX0_partEnd) := goodIn_app (goodIn_of _ (by decide +kernel)) ggX4_linkFor_X0_partEnd
set_option maxRecDepth 20000 in
theorem ggX4_linkFor_X4_keep : GoodIn wsX4_linkFor wsX4_keep := goodIn_r _ [34, 35, 36, 37, 38, 39, 40, 41, 42, 43, 44, 45, 46, 47, 48, 49, 50, 9, 10, 51, 52, 53, 54, 55, 56, 57, 58, 59, 26, 60, 61, 91, 92, 93, 94, 85, 86, 87, 88] (by decide +kernel) (by decide +kernel)
set_option maxRecDepth 20000 in
theorem gX4_linkFor_X4_keep : GoodIn wsX4_linkFor (wsV RX4 31 RX4 yX4_keep wsX4_keep) := goodIn_app (goodIn_of _ (by decide +kernel)) ggX4_linkFor_X4_keep
set_option maxRecDepth 20000 in
theorem ggX4_linkFor_X5_add : GoodIn wsX4_linkFor wsX5_add := goodIn_r _ [65, 14, 15, 66, 67, 68, 13, 69, 22, 21, 70, 71, 72, 3, 73, 16, 74, 75, 76, 77, 78, 79, 80, 81, 82, 83, 84, 89, 90] (by decide +kernel) (by decide +kernel)
set_option maxRecDepth 20000 in
theorem gX4_linkFor_X5_add : GoodIn wsX4_linkFor (wsV RX4 35 RX5 yX5_add wsX5_add) := goodIn_app (goodIn_of _ (by decide +kernel)) ggX4_linkFor_X5_add
theorem dX4_linkFor_0 : decode cX4_linkFor 0 = .ok (.new 17, 3) := by decide +kernel
theorem dX4_linkFor_3 : decode cX4_linkFor 3 = .ok (.dup, 1) := by decide +kernel
theorem dX4_linkFor_4 : decode cX4_linkFor 4 = .ok (.aload_n 2, 1) := by decide +kernel
theorem dX4_linkFor_5 : decode cX4_linkFor 5 = .ok (.invokespecial 19, 3) := by decide +kernel
theorem dX4_linkFor_8 : decode cX4_linkFor 8 = .ok (.astore_n 3, 1) := by decide +kernel
theorem dX4_linkFor_9 : decode cX4_linkFor 9 = .ok (.iconst 0, 1) := by decide +kernel
theorem dX4_linkFor_10 : decode cX4_linkFor 10 = .ok (.istore 4, 2) := by decide +kernel
theorem dX4_linkFor_12 : decode cX4_linkFor 12 = .ok (.iload 4, 2) := by decide +kernel
theorem dX4_linkFor_14 : decode cX4_linkFor 14 = .ok (.aload_n 1, 1) := by decide +kernel
theorem dX4_linkFor_15 : decode cX4_linkFor 15 = .ok (.getfield 22, 3) := by decide +kernel
theorem dX4_linkFor_18 : decode cX4_linkFor 18 = .ok (.if_icmp .ge 39, 3) := by decide +kernel
theorem dX4_linkFor_21 : decode cX4_linkFor 21 = .ok (.aload_n 1, 1) := by decide +kernel
theorem dX4_linkFor_22 : decode cX4_linkFor 22 = .ok (.iload 4, 2) := by decide +kernel
theorem dX4_linkFor_24 : decode cX4_linkFor 24 = .ok (.iconst 1, 1) := by decide +kernel
theorem dX4_linkFor_25 : decode cX4_linkFor 25 = .ok (.isub, 1) := by decide +kernel
theorem dX4_linkFor_26 : decode cX4_linkFor 26 = .ok (.invokevirtual 27, 3) := by decide +kernel
theorem dX4_linkFor_29 : decode cX4_linkFor 29 = .ok (.istore 5, 2) := by decide +kernel
theorem dX4_linkFor_31 : decode cX4_linkFor 31 = .ok (.aload_n 3, 1) := by decide +kernel
theorem dX4_linkFor_32 : decode cX4_linkFor 32 = .ok (.aload_n 0, 1) := by decide +kernel
theorem dX4_linkFor_33 : decode cX4_linkFor 33 = .ok (.aload_n 1, 1) := by decide +kernel
theorem dX4_linkFor_34 : decode cX4_linkFor 34 = .ok (.iload 5, 2) := by decide +kernel
theorem dX4_linkFor_36 : decode cX4_linkFor 36 = .ok (.aload_n 1, 1) := by decide +kernel
theorem dX4_linkFor_37 : decode cX4_linkFor 37 = .ok (.iload 4, 2) := by decide +kernel
theorem dX4_linkFor_39 : decode cX4_linkFor 39 = .ok (.invokevirtual 27, 3) := by decide +kernel
theorem dX4_linkFor_42 : decode cX4_linkFor 42 = .ok (.iload 5, 2) := by decide +kernel
theorem dX4_linkFor_44 : decode cX4_linkFor 44 = .ok (.isub, 1) := by decide +kernel
theorem dX4_linkFor_45 : decode cX4_linkFor 45 = .ok (.invokevirtual 31, 3) := by decide +kernel
theorem dX4_linkFor_48 : decode cX4_linkFor 48 = .ok (.invokevirtual 35, 3) := by decide +kernel
theorem dX4_linkFor_51 : decode cX4_linkFor 51 = .ok (.iinc 4 1, 3) := by decide +kernel
theorem dX4_linkFor_54 : decode cX4_linkFor 54 = .ok (.goto (-42), 3) := by decide +kernel
theorem dX4_linkFor_57 : decode cX4_linkFor 57 = .ok (.aload_n 3, 1) := by decide +kernel
theorem dX4_linkFor_58 : decode cX4_linkFor 58 = .ok (.areturn, 1) := by decide +kernel
set_option maxRecDepth 20000 in
theorem ggX4_keep_X1_isRun : GoodIn wsX4_keep wsX1_isRun := goodIn_r _ [10, 11, 12, 33, 34, 35, 36, 37, 38] (by decide +kernel) (by decide +kernel)
set_option maxRecDepth 20000 in
theorem gX4_keep_X1_isRun : GoodIn wsX4_keep (wsV RX4 39 RX1 yX1_isRun wsX1_isRun) := goodIn_app (goodIn_of _ (by decide +kernel)) ggX4_keep_X1_isRun
set_option maxRecDepth 20000 in
theorem ggX4_keep_X1_init : GoodIn wsX4_keep wsX1_init := goodIn_r _ [15, 16, 17, 18, 19, 20, 21, 22, 23, 24, 11, 25, 26, 27, 28, 29, 30, 33, 34, 35, 36, 37, 38] (by decide +kernel) (by decide +kernel)
set_option maxRecDepth 20000 in
theorem gX4_keep_X1_init : GoodIn wsX4_keep (wsX1_init) := ggX4_keep_X1_init
theorem dX4_keep_0 : decode cX4_keep 0 = .ok (.aload_n 0, 1) := by decide +kernel
theorem dX4_keep_1 : decode cX4_keep 1 = .ok (.getfield 7, 3) := by decide +kernel
theorem dX4_keep_4 : decode cX4_keep 4 = .ok (.astore 4, 2) := by decide +kernel
theorem dX4_keep_6 : decode cX4_keep 6 = .ok (.aload 4, 2) := by decide +kernel
theorem dX4_keep_8 : decode cX4_keep 8 = .ok (.ifnull 27, 3) := by decide +kernel
theorem dX4_keep_11 : decode cX4_keep 11 = .ok (.aload 4, 2) := by decide +kernel
theorem dX4_keep_13 : decode cX4_keep 13 = .ok (.aload_n 1, 1) := by decide +kernel
theorem dX4_keep_14 : decode cX4_keep 14 = .ok (.iload_n 2, 1) := by decide +kernel
theorem dX4_keep_15 : decode cX4_keep 15 = .ok (.iload_n 3, 1) := by decide +kernel
theorem dX4_keep_16 : decode cX4_keep 16 = .ok (.invokevirtual 39, 3) := by decide +kernel
theorem dX4_keep_19 : decode cX4_keep 19 = .ok (.ifCond .eq 6, 3) := by decide +kernel
theorem dX4_keep_22 : decode cX4_keep 22 = .ok (.aload 4, 2) := by decide +kernel
theorem dX4_keep_24 : decode cX4_keep 24 = .ok (.areturn, 1) := by decide +kernel
theorem dX4_keep_25 : decode cX4_keep 25 = .ok (.aload 4, 2) := by decide +kernel
theorem dX4_keep_27 : decode cX4_keep 27 = .ok (.getfield 45, 3) := by decide +kernel
theorem dX4_keep_30 : decode cX4_keep 30 = .ok (.astore 4, 2) := by decide +kernel
theorem dX4_keep_32 : decode cX4_keep 32 = .ok (.goto (-26), 3) := by decide +kernel
theorem dX4_keep_35 : decode cX4_keep 35 = .ok (.new 40, 3) := by decide +kernel
theorem dX4_keep_38 : decode cX4_keep 38 = .ok (.dup, 1) := by decide +kernel
theorem dX4_keep_39 : decode cX4_keep 39 = .ok (.aload_n 1, 1) := by decide +kernel
theorem dX4_keep_40 : decode cX4_keep 40 = .ok (.iload_n 2, 1) := by decide +kernel
theorem dX4_keep_41 : decode cX4_keep 41 = .ok (.iload_n 3, 1) := by decide +kernel
theorem dX4_keep_42 : decode cX4_keep 42 = .ok (.aload_n 0, 1) := by decide +kernel
theorem dX4_keep_43 : decode cX4_keep 43 = .ok (.getfield 7, 3) := by decide +kernel
theorem dX4_keep_46 : decode cX4_keep 46 = .ok (.invokespecial 48, 3) := by decide +kernel
theorem dX4_keep_49 : decode cX4_keep 49 = .ok (.astore 4, 2) := by decide +kernel
theorem dX4_keep_51 : decode cX4_keep 51 = .ok (.aload_n 0, 1) := by decide +kernel
theorem dX4_keep_52 : decode cX4_keep 52 = .ok (.aload 4, 2) := by decide +kernel
theorem dX4_keep_54 : decode cX4_keep 54 = .ok (.putfield 7, 3) := by decide +kernel
theorem dX4_keep_57 : decode cX4_keep 57 = .ok (.aload_n 0, 1) := by decide +kernel
theorem dX4_keep_58 : decode cX4_keep 58 = .ok (.dup, 1) := by decide +kernel
theorem dX4_keep_59 : decode cX4_keep 59 = .ok (.getfield 13, 3) := by decide +kernel
theorem dX4_keep_62 : decode cX4_keep 62 = .ok (.iconst 1, 1) := by decide +kernel
theorem dX4_keep_63 : decode cX4_keep 63 = .ok (.iadd, 1) := by decide +kernel
theorem dX4_keep_64 : decode cX4_keep 64 = .ok (.putfield 13, 3) := by decide +kernel
theorem dX4_keep_67 : decode cX4_keep 67 = .ok (.aload 4, 2) := by decide +kernel
theorem dX4_keep_69 : decode cX4_keep 69 = .ok (.areturn, 1) := by decide +kernel
set_option maxRecDepth 20000 in
theorem ggX5_init_X2_init : GoodIn wsX5_init wsX2_init := goodIn_r _ [11, 12, 2, 3, 13, 14, 15, 16, 17] (by decide +kernel) (by decide +kernel)
set_option maxRecDepth 20000 in
theorem gX5_init_X2_init_n9 : GoodIn wsX5_init (wsX2_init) := ggX5_init_X2_init
theorem dX5_init_0 : decode cX5_init 0 = .ok (.aload_n 0, 1) := by decide +kernel
theorem dX5_init_1 : decode cX5_init 1 = .ok (.invokespecial 1, 3) := by decide +kernel
theorem dX5_init_4 : decode cX5_init 4 = .ok (.aload_n 0, 1) := by decide +kernel
theorem dX5_init_5 : decode cX5_init 5 = .ok (.new 7, 3) := by decide +kernel
theorem dX5_init_8 : decode cX5_init 8 = .ok (.dup, 1) := by decide +kernel
theorem dX5_init_9 : decode cX5_init 9 = .ok (.invokespecial 9, 3) := by decide +kernel
theorem dX5_init_12 : decode cX5_init 12 = .ok (.putfield 10, 3) := by decide +kernel
theorem dX5_init_15 : decode cX5_init 15 = .ok (.aload_n 0, 1) := by decide +kernel
theorem dX5_init_16 : decode cX5_init 16 = .ok (.new 7, 3) := by decide +kernel
theorem dX5_init_19 : decode cX5_init 19 = .ok (.dup, 1) := by decide +kernel
theorem dX5_init_20 : decode cX5_init 20 = .ok (.invokespecial 9, 3) := by decide +kernel
theorem dX5_init_23 : decode cX5_init 23 = .ok (.putfield 16, 3) := by decide +kernel
theorem dX5_init_26 : decode cX5_init 26 = .ok (.aload_n 0, 1) := by decide +kernel
theorem dX5_init_27 : decode cX5_init 27 = .ok (.aload_n 1, 1) := by decide +kernel
theorem dX5_init_28 : decode cX5_init 28 = .ok (.putfield 19, 3) := by decide +kernel
theorem dX5_init_31 : decode cX5_init 31 = .ok (.return_, 1) := by decide +kernel
set_option maxRecDepth 20000 in
theorem ggX5_add_X2_add : GoodIn wsX5_add wsX2_add := goodIn_r _ [7, 8, 9, 27, 28] (by decide +kernel) (by decide +kernel)
set_option maxRecDepth 20000 in
theorem gX5_add_X2_add : GoodIn wsX5_add (wsV RX5 23 RX2 yX2_add wsX2_add) := goodIn_app (goodIn_of _ (by decide +kernel)) ggX5_add_X2_add
set_option maxRecDepth 20000 in
theorem ggX5_add_X5_chainHolds : GoodIn wsX5_add wsX5_chainHolds := goodIn_r _ [14, 2, 15, 16, 17, 18, 6, 19, 8, 20, 21, 22, 23, 9, 24, 25, 26, 27, 28] (by decide +kernel) (by decide +kernel)
set_option maxRecDepth 20000 in
theorem gX5_add_X5_chainHolds : GoodIn wsX5_add (wsV RX5 27 RX5 yX5_chainHolds wsX5_chainHolds) := goodIn_app (goodIn_of _ (by decide +kernel)) ggX5_add_X5_chainHolds
theorem dX5_add_0 : decode cX5_add 0 = .ok (.aload_n 0, 1) := by decide +kernel
theorem dX5_add_1 : decode cX5_add 1 = .ok (.getfield 10, 3) := by decide +kernel
theorem dX5_add_4 : decode cX5_add 4 = .ok (.aload_n 1, 1) := by decide +kernel
theorem dX5_add_5 : decode cX5_add 5 = .ok (.invokevirtual 23, 3) := by decide +kernel
theorem dX5_add_8 : decode cX5_add 8 = .ok (.aload_n 0, 1) := by decide +kernel
theorem dX5_add_9 : decode cX5_add 9 = .ok (.aload_n 1, 1) := by decide +kernel
theorem dX5_add_10 : decode cX5_add 10 = .ok (.invokevirtual 27, 3) := by decide +kernel
theorem dX5_add_13 : decode cX5_add 13 = .ok (.ifCond .ne 11, 3) := by decide +kernel
theorem dX5_add_16 : decode cX5_add 16 = .ok (.aload_n 0, 1) := by decide +kernel
theorem dX5_add_17 : decode cX5_add 17 = .ok (.getfield 16, 3) := by decide +kernel
theorem dX5_add_20 : decode cX5_add 20 = .ok (.aload_n 1, 1) := by decide +kernel
theorem dX5_add_21 : decode cX5_add 21 = .ok (.invokevirtual 23, 3) := by decide +kernel
theorem dX5_add_24 : decode cX5_add 24 = .ok (.return_, 1) := by decide +kernel
set_option maxRecDepth 20000 in
theorem ggX5_chainHolds_X2_has : GoodIn wsX5_chainHolds wsX2_has := goodIn_r _ [7, 8, 9, 10, 11, 6, 12, 13, 17, 18] (by decide +kernel) (by decide +kernel)
set_option maxRecDepth 20000 in
theorem gX5_chainHolds_X2_has : GoodIn wsX5_chainHolds (wsV RX5 31 RX2 yX2_has wsX2_has) := goodIn_app (goodIn_of _ (by decide +kernel)) ggX5_chainHolds_X2_has
theorem dX5_chainHolds_0 : decode cX5_chainHolds 0 = .ok (.aload_n 0, 1) := by decide +kernel
theorem dX5_chainHolds_1 : decode cX5_chainHolds 1 = .ok (.astore_n 2, 1) := by decide +kernel
theorem dX5_chainHolds_2 : decode cX5_chainHolds 2 = .ok (.aload_n 2, 1) := by decide +kernel
theorem dX5_chainHolds_3 : decode cX5_chainHolds 3 = .ok (.ifnull 24, 3) := by decide +kernel
theorem dX5_chainHolds_6 : decode cX5_chainHolds 6 = .ok (.aload_n 2, 1) := by decide +kernel
theorem dX5_chainHolds_7 : decode cX5_chainHolds 7 = .ok (.getfield 16, 3) := by decide +kernel
theorem dX5_chainHolds_10 : decode cX5_chainHolds 10 = .ok (.aload_n 1, 1) := by decide +kernel
theorem dX5_chainHolds_11 : decode cX5_chainHolds 11 = .ok (.invokevirtual 31, 3) := by decide +kernel
theorem dX5_chainHolds_14 : decode cX5_chainHolds 14 = .ok (.ifCond .eq 5, 3) := by decide +kernel
theorem dX5_chainHolds_17 : decode cX5_chainHolds 17 = .ok (.iconst 1, 1) := by decide +kernel
theorem dX5_chainHolds_18 : decode cX5_chainHolds 18 = .ok (.ireturn, 1) := by decide +kernel
theorem dX5_chainHolds_19 : decode cX5_chainHolds 19 = .ok (.aload_n 2, 1) := by decide +kernel
theorem dX5_chainHolds_20 : decode cX5_chainHolds 20 = .ok (.getfield 19, 3) := by decide +kernel
theorem dX5_chainHolds_23 : decode cX5_chainHolds 23 = .ok (.astore_n 2, 1) := by decide +kernel
theorem dX5_chainHolds_24 : decode cX5_chainHolds 24 = .ok (.goto (-22), 3) := by decide +kernel
theorem dX5_chainHolds_27 : decode cX5_chainHolds 27 = .ok (.iconst 0, 1) := by decide +kernel
theorem dX5_chainHolds_28 : decode cX5_chainHolds 28 = .ok (.ireturn, 1) := by decide +kernel
set_option maxRecDepth 20000 in
theorem ggX5_chainHoldsRun_X2_hasRun : GoodIn wsX5_chainHoldsRun wsX2_hasRun := goodIn_r _ [7, 8, 9, 10, 11, 6, 12, 13, 14, 15, 16, 17, 18, 19, 20, 24, 25, 26, 27, 28, 29, 30, 31] (by decide +kernel) (by decide +kernel)
set_option maxRecDepth 20000 in
theorem gX5_chainHoldsRun_X2_hasRun : GoodIn wsX5_chainHoldsRun (wsV RX5 34 RX2 yX2_hasRun wsX2_hasRun) := goodIn_app (goodIn_of _ (by decide +kernel)) ggX5_chainHoldsRun_X2_hasRun
theorem dX5_chainHoldsRun_0 : decode cX5_chainHoldsRun 0 = .ok (.aload_n 0, 1) := by decide +kernel
theorem dX5_chainHoldsRun_1 : decode cX5_chainHoldsRun 1 = .ok (.astore 4, 2) := by decide +kernel
theorem dX5_chainHoldsRun_3 : decode cX5_chainHoldsRun 3 = .ok (.aload 4, 2) := by decide +kernel
theorem dX5_chainHoldsRun_5 : decode cX5_chainHoldsRun 5 = .ok (.ifnull 29, 3) := by decide +kernel
theorem dX5_chainHoldsRun_8 : decode cX5_chainHoldsRun 8 = .ok (.aload 4, 2) := by decide +kernel
theorem dX5_chainHoldsRun_10 : decode cX5_chainHoldsRun 10 = .ok (.getfield 16, 3) := by decide +kernel
theorem dX5_chainHoldsRun_13 : decode cX5_chainHoldsRun 13 = .ok (.aload_n 1, 1) := by decide +kernel
theorem dX5_chainHoldsRun_14 : decode cX5_chainHoldsRun 14 = .ok (.iload_n 2, 1) := by decide +kernel
theorem dX5_chainHoldsRun_15 : decode cX5_chainHoldsRun 15 = .ok (.iload_n 3, 1) := by decide +kernel
theorem dX5_chainHoldsRun_16 : decode cX5_chainHoldsRun 16 = .ok (.invokevirtual 34, 3) := by decide +kernel
theorem dX5_chainHoldsRun_19 : decode cX5_chainHoldsRun 19 = .ok (.ifCond .eq 5, 3) := by decide +kernel
theorem dX5_chainHoldsRun_22 : decode cX5_chainHoldsRun 22 = .ok (.iconst 1, 1) := by decide +kernel
theorem dX5_chainHoldsRun_23 : decode cX5_chainHoldsRun 23 = .ok (.ireturn, 1) := by decide +kernel
theorem dX5_chainHoldsRun_24 : decode cX5_chainHoldsRun 24 = .ok (.aload 4, 2) := by decide +kernel
theorem dX5_chainHoldsRun_26 : decode cX5_chainHoldsRun 26 = .ok (.getfield 19, 3) := by decide +kernel
theorem dX5_chainHoldsRun_29 : decode cX5_chainHoldsRun 29 = .ok (.astore 4, 2) := by decide +kernel
theorem dX5_chainHoldsRun_31 : decode cX5_chainHoldsRun 31 = .ok (.goto (-28), 3) := by decide +kernel
theorem dX5_chainHoldsRun_34 : decode cX5_chainHoldsRun 34 = .ok (.iconst 0, 1) := by decide +kernel
theorem dX5_chainHoldsRun_35 : decode cX5_chainHoldsRun 35 = .ok (.ireturn, 1) := by decide +kernel
theorem dX5_differencesUpToHere_0 : decode cX5_differencesUpToHere 0 = .ok (.iconst 0, 1) := by decide +kernel
theorem dX5_differencesUpToHere_1 : decode cX5_differencesUpToHere 1 = .ok (.istore_n 1, 1) := by decide +kernel
theorem dX5_differencesUpToHere_2 : decode cX5_differencesUpToHere 2 = .ok (.aload_n 0, 1) := by decide +kernel
theorem dX5_differencesUpToHere_3 : decode cX5_differencesUpToHere 3 = .ok (.getfield 19, 3) := by decide +kernel
theorem dX5_differencesUpToHere_6 : decode cX5_differencesUpToHere 6 = .ok (.astore_n 2, 1) := by decide +kernel
theorem dX5_differencesUpToHere_7 : decode cX5_differencesUpToHere 7 = .ok (.aload_n 2, 1) := by decide +kernel
theorem dX5_differencesUpToHere_8 : decode cX5_differencesUpToHere 8 = .ok (.ifnull 14, 3) := by decide +kernel
theorem dX5_differencesUpToHere_11 : decode cX5_differencesUpToHere 11 = .ok (.iinc 1 1, 3) := by decide +kernel
theorem dX5_differencesUpToHere_14 : decode cX5_differencesUpToHere 14 = .ok (.aload_n 2, 1) := by decide +kernel
theorem dX5_differencesUpToHere_15 : decode cX5_differencesUpToHere 15 = .ok (.getfield 19, 3) := by decide +kernel
theorem dX5_differencesUpToHere_18 : decode cX5_differencesUpToHere 18 = .ok (.astore_n 2, 1) := by decide +kernel
theorem dX5_differencesUpToHere_19 : decode cX5_differencesUpToHere 19 = .ok (.goto (-12), 3) := by decide +kernel
theorem dX5_differencesUpToHere_22 : decode cX5_differencesUpToHere 22 = .ok (.iload_n 1, 1) := by decide +kernel
theorem dX5_differencesUpToHere_23 : decode cX5_differencesUpToHere 23 = .ok (.ireturn, 1) := by decide +kernel
set_option maxRecDepth 20000 in
theorem ggX5_linkBytes_X2_byteCount : GoodIn wsX5_linkBytes wsX2_byteCount := goodIn_r _ [8, 9, 10, 11, 12, 7, 13, 14, 15, 16, 17, 18, 19, 20, 24, 25, 26, 27] (by decide +kernel) (by decide +kernel)
set_option maxRecDepth 20000 in
theorem gX5_linkBytes_X2_byteCount : GoodIn wsX5_linkBytes (wsV RX5 42 RX2 yX2_byteCount wsX2_byteCount) := goodIn_app (goodIn_of _ (by decide +kernel)) ggX5_linkBytes_X2_byteCount
theorem dX5_linkBytes_0 : decode cX5_linkBytes 0 = .ok (.aload_n 0, 1) := by decide +kernel
theorem dX5_linkBytes_1 : decode cX5_linkBytes 1 = .ok (.getfield 10, 3) := by decide +kernel
theorem dX5_linkBytes_4 : decode cX5_linkBytes 4 = .ok (.getfield 38, 3) := by decide +kernel
theorem dX5_linkBytes_7 : decode cX5_linkBytes 7 = .ok (.aload_n 0, 1) := by decide +kernel
theorem dX5_linkBytes_8 : decode cX5_linkBytes 8 = .ok (.getfield 16, 3) := by decide +kernel
theorem dX5_linkBytes_11 : decode cX5_linkBytes 11 = .ok (.invokevirtual 42, 3) := by decide +kernel
theorem dX5_linkBytes_14 : decode cX5_linkBytes 14 = .ok (.iadd, 1) := by decide +kernel
theorem dX5_linkBytes_15 : decode cX5_linkBytes 15 = .ok (.ireturn, 1) := by decide +kernel
set_option maxRecDepth 20000 in
theorem ggX5_linksToMount_X5_holdsSomeOf : GoodIn wsX5_linksToMount wsX5_holdsSomeOf := goodIn_r _ [7, 8, 9, 10, 11, 12, 13, 14, 15, 16, 17, 18, 19, 20, 21, 22, 23, 24, 28, 29, 25, 26, 27] (by decide +kernel) (by decide +kernel)
set_option maxRecDepth 20000 in
theorem gX5_linksToMount_X5_holdsSomeOf : GoodIn wsX5_linksToMount (wsV RX5 46 RX5 yX5_holdsSomeOf wsX5_holdsSomeOf) := goodIn_app (goodIn_of _ (by decide +kernel)) ggX5_linksToMount_X5_holdsSomeOf
theorem dX5_linksToMount_0 : decode cX5_linksToMount 0 = .ok (.iconst 1, 1) := by decide +kernel
theorem dX5_linksToMount_1 : decode cX5_linksToMount 1 = .ok (.istore_n 1, 1) := by decide +kernel
theorem dX5_linksToMount_2 : decode cX5_linksToMount 2 = .ok (.aload_n 0, 1) := by decide +kernel
theorem dX5_linksToMount_3 : decode cX5_linksToMount 3 = .ok (.getfield 19, 3) := by decide +kernel
theorem dX5_linksToMount_6 : decode cX5_linksToMount 6 = .ok (.astore_n 2, 1) := by decide +kernel
theorem dX5_linksToMount_7 : decode cX5_linksToMount 7 = .ok (.aload_n 2, 1) := by decide +kernel
theorem dX5_linksToMount_8 : decode cX5_linksToMount 8 = .ok (.ifnull 25, 3) := by decide +kernel
theorem dX5_linksToMount_11 : decode cX5_linksToMount 11 = .ok (.aload_n 2, 1) := by decide +kernel
theorem dX5_linksToMount_12 : decode cX5_linksToMount 12 = .ok (.aload_n 0, 1) := by decide +kernel
theorem dX5_linksToMount_13 : decode cX5_linksToMount 13 = .ok (.getfield 10, 3) := by decide +kernel
theorem dX5_linksToMount_16 : decode cX5_linksToMount 16 = .ok (.invokevirtual 46, 3) := by decide +kernel
theorem dX5_linksToMount_19 : decode cX5_linksToMount 19 = .ok (.ifCond .eq 6, 3) := by decide +kernel
theorem dX5_linksToMount_22 : decode cX5_linksToMount 22 = .ok (.iinc 1 1, 3) := by decide +kernel
theorem dX5_linksToMount_25 : decode cX5_linksToMount 25 = .ok (.aload_n 2, 1) := by decide +kernel
theorem dX5_linksToMount_26 : decode cX5_linksToMount 26 = .ok (.getfield 19, 3) := by decide +kernel
theorem dX5_linksToMount_29 : decode cX5_linksToMount 29 = .ok (.astore_n 2, 1) := by decide +kernel
theorem dX5_linksToMount_30 : decode cX5_linksToMount 30 = .ok (.goto (-23), 3) := by decide +kernel
theorem dX5_linksToMount_33 : decode cX5_linksToMount 33 = .ok (.iload_n 1, 1) := by decide +kernel
theorem dX5_linksToMount_34 : decode cX5_linksToMount 34 = .ok (.ireturn, 1) := by decide +kernel
set_option maxRecDepth 20000 in
theorem ggX5_holdsSomeOf_X2_chunkAt : GoodIn wsX5_holdsSomeOf wsX2_chunkAt := goodIn_r _ [7, 8, 9, 18, 19] (by decide +kernel) (by decide +kernel)
set_option maxRecDepth 20000 in
theorem gX5_holdsSomeOf_X2_chunkAt : GoodIn wsX5_holdsSomeOf (wsV RX5 50 RX2 yX2_chunkAt wsX2_chunkAt) := goodIn_app (goodIn_of _ (by decide +kernel)) ggX5_holdsSomeOf_X2_chunkAt
set_option maxRecDepth 20000 in
theorem ggX5_holdsSomeOf_X2_has : GoodIn wsX5_holdsSomeOf wsX2_has := goodIn_r _ [13, 8, 14, 15, 16, 6, 17, 9, 18, 19] (by decide +kernel) (by decide +kernel)
set_option maxRecDepth 20000 in
theorem gX5_holdsSomeOf_X2_has : GoodIn wsX5_holdsSomeOf (wsV RX5 31 RX2 yX2_has wsX2_has) := goodIn_app (goodIn_of _ (by decide +kernel)) ggX5_holdsSomeOf_X2_has
theorem dX5_holdsSomeOf_0 : decode cX5_holdsSomeOf 0 = .ok (.iconst 0, 1) := by decide +kernel
theorem dX5_holdsSomeOf_1 : decode cX5_holdsSomeOf 1 = .ok (.istore_n 2, 1) := by decide +kernel
theorem dX5_holdsSomeOf_2 : decode cX5_holdsSomeOf 2 = .ok (.iload_n 2, 1) := by decide +kernel
theorem dX5_holdsSomeOf_3 : decode cX5_holdsSomeOf 3 = .ok (.aload_n 1, 1) := by decide +kernel
theorem dX5_holdsSomeOf_4 : decode cX5_holdsSomeOf 4 = .ok (.getfield 38, 3) := by decide +kernel
theorem dX5_holdsSomeOf_7 : decode cX5_holdsSomeOf 7 = .ok (.if_icmp .ge 26, 3) := by decide +kernel
theorem dX5_holdsSomeOf_10 : decode cX5_holdsSomeOf 10 = .ok (.aload_n 0, 1) := by decide +kernel
theorem dX5_holdsSomeOf_11 : decode cX5_holdsSomeOf 11 = .ok (.getfield 16, 3) := by decide +kernel
theorem dX5_holdsSomeOf_14 : decode cX5_holdsSomeOf 14 = .ok (.aload_n 1, 1) := by decide +kernel
theorem dX5_holdsSomeOf_15 : decode cX5_holdsSomeOf 15 = .ok (.iload_n 2, 1) := by decide +kernel
theorem dX5_holdsSomeOf_16 : decode cX5_holdsSomeOf 16 = .ok (.invokevirtual 50, 3) := by decide +kernel
theorem dX5_holdsSomeOf_19 : decode cX5_holdsSomeOf 19 = .ok (.invokevirtual 31, 3) := by decide +kernel
theorem dX5_holdsSomeOf_22 : decode cX5_holdsSomeOf 22 = .ok (.ifCond .eq 5, 3) := by decide +kernel
theorem dX5_holdsSomeOf_25 : decode cX5_holdsSomeOf 25 = .ok (.iconst 1, 1) := by decide +kernel
theorem dX5_holdsSomeOf_26 : decode cX5_holdsSomeOf 26 = .ok (.ireturn, 1) := by decide +kernel
theorem dX5_holdsSomeOf_27 : decode cX5_holdsSomeOf 27 = .ok (.iinc 2 1, 3) := by decide +kernel
theorem dX5_holdsSomeOf_30 : decode cX5_holdsSomeOf 30 = .ok (.goto (-28), 3) := by decide +kernel
theorem dX5_holdsSomeOf_33 : decode cX5_holdsSomeOf 33 = .ok (.iconst 0, 1) := by decide +kernel
theorem dX5_holdsSomeOf_34 : decode cX5_holdsSomeOf 34 = .ok (.ireturn, 1) := by decide +kernel
set_option maxRecDepth 20000 in
theorem ggX5_bytesToRead_X2_unlikeByteCount : GoodIn wsX5_bytesToRead wsX2_unlikeByteCount := goodIn_r _ [7, 8, 9, 10, 11, 6, 12, 13, 14, 15, 16, 17, 18, 19, 20, 21, 22, 23, 27, 28, 29, 30] (by decide +kernel) (by decide +kernel)
set_option maxRecDepth 20000 in
theorem gX5_bytesToRead_X2_unlikeByteCount : GoodIn wsX5_bytesToRead (wsV RX5 54 RX2 yX2_unlikeByteCount wsX2_unlikeByteCount) := goodIn_app (goodIn_of _ (by decide +kernel)) ggX5_bytesToRead_X2_unlikeByteCount
theorem dX5_bytesToRead_0 : decode cX5_bytesToRead 0 = .ok (.aload_n 0, 1) := by decide +kernel
theorem dX5_bytesToRead_1 : decode cX5_bytesToRead 1 = .ok (.getfield 10, 3) := by decide +kernel
theorem dX5_bytesToRead_4 : decode cX5_bytesToRead 4 = .ok (.getfield 38, 3) := by decide +kernel
theorem dX5_bytesToRead_7 : decode cX5_bytesToRead 7 = .ok (.aload_n 0, 1) := by decide +kernel
theorem dX5_bytesToRead_8 : decode cX5_bytesToRead 8 = .ok (.getfield 10, 3) := by decide +kernel
theorem dX5_bytesToRead_11 : decode cX5_bytesToRead 11 = .ok (.invokevirtual 54, 3) := by decide +kernel
theorem dX5_bytesToRead_14 : decode cX5_bytesToRead 14 = .ok (.iadd, 1) := by decide +kernel
theorem dX5_bytesToRead_15 : decode cX5_bytesToRead 15 = .ok (.ireturn, 1) := by decide +kernel
set_option maxRecDepth 20000 in
theorem ggX5_fingerprintFromChain_X2_chunkAt : GoodIn wsX5_fingerprintFromChain wsX2_chunkAt := goodIn_r _ [7, 8, 9, 37, 38] (by decide +kernel) (by decide +kernel)
set_option maxRecDepth 20000 in
theorem gX5_fingerprintFromChain_X2_chunkAt : GoodIn wsX5_fingerprintFromChain (wsV RX5 50 RX2 yX2_chunkAt wsX2_chunkAt) := goodIn_app (goodIn_of _ (by decide +kernel)) ggX5_fingerprintFromChain_X2_chunkAt
set_option maxRecDepth 20000 in
theorem ggX5_fingerprintFromChain_X5_chainHolds : GoodIn wsX5_fingerprintFromChain wsX5_chainHolds := goodIn_r _ [14, 15, 16, 17, 18, 19, 6, 20, 8, 21, 22, 23, 24, 9, 34, 35, 36, 37, 38] (by decide +kernel) (by decide +kernel)
set_option maxRecDepth 20000 in
theorem gX5_fingerprintFromChain_X5_chainHolds : GoodIn wsX5_fingerprintFromChain (wsV RX5 27 RX5 yX5_chainHolds wsX5_chainHolds) := goodIn_app (goodIn_of _ (by decide +kernel)) ggX5_fingerprintFromChain_X5_chainHolds
set_option maxRecDepth 20000 in
theorem ggX5_fingerprintFromChain_X1_foldedInto : GoodIn wsX5_fingerprintFromChain wsX1_foldedInto := goodIn_r _ [29, 30, 31, 32, 33, 39, 40] (by decide +kernel) (by decide +kernel)
set_option maxRecDepth 20000 in
theorem gX5_fingerprintFromChain_X1_foldedInto : GoodIn wsX5_fingerprintFromChain (wsV RX5 57 RX1 yX1_foldedInto wsX1_foldedInto) := goodIn_app (goodIn_of _ (by decide +kernel)) ggX5_fingerprintFromChain_X1_foldedInto
theorem dX5_fingerprintFromChain_0 : decode cX5_fingerprintFromChain 0 = .ok (.lconst 0, 1) := by decide +kernel
theorem dX5_fingerprintFromChain_1 : decode cX5_fingerprintFromChain 1 = .ok (.lstore_n 1, 1) := by decide +kernel
theorem dX5_fingerprintFromChain_2 : decode cX5_fingerprintFromChain 2 = .ok (.iconst 0, 1) := by decide +kernel
theorem dX5_fingerprintFromChain_3 : decode cX5_fingerprintFromChain 3 = .ok (.istore_n 3, 1) := by decide +kernel
theorem dX5_fingerprintFromChain_4 : decode cX5_fingerprintFromChain 4 = .ok (.iload_n 3, 1) := by decide +kernel
theorem dX5_fingerprintFromChain_5 : decode cX5_fingerprintFromChain 5 = .ok (.aload_n 0, 1) := by decide +kernel
theorem dX5_fingerprintFromChain_6 : decode cX5_fingerprintFromChain 6 = .ok (.getfield 10, 3) := by decide +kernel
theorem dX5_fingerprintFromChain_9 : decode cX5_fingerprintFromChain 9 = .ok (.getfield 38, 3) := by decide +kernel
theorem dX5_fingerprintFromChain_12 : decode cX5_fingerprintFromChain 12 = .ok (.if_icmp .ge 40, 3) := by decide +kernel
theorem dX5_fingerprintFromChain_15 : decode cX5_fingerprintFromChain 15 = .ok (.aload_n 0, 1) := by decide +kernel
theorem dX5_fingerprintFromChain_16 : decode cX5_fingerprintFromChain 16 = .ok (.getfield 10, 3) := by decide +kernel
theorem dX5_fingerprintFromChain_19 : decode cX5_fingerprintFromChain 19 = .ok (.iload_n 3, 1) := by decide +kernel
theorem dX5_fingerprintFromChain_20 : decode cX5_fingerprintFromChain 20 = .ok (.invokevirtual 50, 3) := by decide +kernel
theorem dX5_fingerprintFromChain_23 : decode cX5_fingerprintFromChain 23 = .ok (.astore 4, 2) := by decide +kernel
theorem dX5_fingerprintFromChain_25 : decode cX5_fingerprintFromChain 25 = .ok (.aload 4, 2) := by decide +kernel
theorem dX5_fingerprintFromChain_27 : decode cX5_fingerprintFromChain 27 = .ok (.ifnull 19, 3) := by decide +kernel
theorem dX5_fingerprintFromChain_30 : decode cX5_fingerprintFromChain 30 = .ok (.aload_n 0, 1) := by decide +kernel
theorem dX5_fingerprintFromChain_31 : decode cX5_fingerprintFromChain 31 = .ok (.aload 4, 2) := by decide +kernel
theorem dX5_fingerprintFromChain_33 : decode cX5_fingerprintFromChain 33 = .ok (.invokevirtual 27, 3) := by decide +kernel
theorem dX5_fingerprintFromChain_36 : decode cX5_fingerprintFromChain 36 = .ok (.ifCond .eq 10, 3) := by decide +kernel
theorem dX5_fingerprintFromChain_39 : decode cX5_fingerprintFromChain 39 = .ok (.aload 4, 2) := by decide +kernel
theorem dX5_fingerprintFromChain_41 : decode cX5_fingerprintFromChain 41 = .ok (.lload_n 1, 1) := by decide +kernel
theorem dX5_fingerprintFromChain_42 : decode cX5_fingerprintFromChain 42 = .ok (.invokevirtual 57, 3) := by decide +kernel
theorem dX5_fingerprintFromChain_45 : decode cX5_fingerprintFromChain 45 = .ok (.lstore_n 1, 1) := by decide +kernel
theorem dX5_fingerprintFromChain_46 : decode cX5_fingerprintFromChain 46 = .ok (.iinc 3 1, 3) := by decide +kernel
theorem dX5_fingerprintFromChain_49 : decode cX5_fingerprintFromChain 49 = .ok (.goto (-45), 3) := by decide +kernel
theorem dX5_fingerprintFromChain_52 : decode cX5_fingerprintFromChain 52 = .ok (.lload_n 1, 1) := by decide +kernel
theorem dX5_fingerprintFromChain_53 : decode cX5_fingerprintFromChain 53 = .ok (.lreturn, 1) := by decide +kernel
theorem dX6_init_0 : decode cX6_init 0 = .ok (.aload_n 0, 1) := by decide +kernel
theorem dX6_init_1 : decode cX6_init 1 = .ok (.invokespecial 3, 3) := by decide +kernel
theorem dX6_init_4 : decode cX6_init 4 = .ok (.aload_n 0, 1) := by decide +kernel
theorem dX6_init_5 : decode cX6_init 5 = .ok (.iconst 4, 1) := by decide +kernel
theorem dX6_init_6 : decode cX6_init 6 = .ok (.anewarray 9, 3) := by decide +kernel
theorem dX6_init_9 : decode cX6_init 9 = .ok (.putfield 11, 3) := by decide +kernel
theorem dX6_init_12 : decode cX6_init 12 = .ok (.aload_n 0, 1) := by decide +kernel
theorem dX6_init_13 : decode cX6_init 13 = .ok (.sipush 200, 3) := by decide +kernel
theorem dX6_init_16 : decode cX6_init 16 = .ok (.putfield 17, 3) := by decide +kernel
theorem dX6_init_19 : decode cX6_init 19 = .ok (.aload_n 0, 1) := by decide +kernel
theorem dX6_init_20 : decode cX6_init 20 = .ok (.iconst 1, 1) := by decide +kernel
theorem dX6_init_21 : decode cX6_init 21 = .ok (.putfield 21, 3) := by decide +kernel
theorem dX6_init_24 : decode cX6_init 24 = .ok (.return_, 1) := by decide +kernel
set_option maxRecDepth 20000 in
theorem ggX6_hold_X7_cutUp : GoodIn wsX6_hold wsX7_cutUp := goodIn_r _ [11, 12, 13, 14, 15, 16, 10, 17, 18, 19, 20, 21, 22, 23, 24, 25, 26, 27, 28, 29, 30, 31, 32, 33, 34, 35, 36, 37, 38, 146, 147, 148, 149, 150, 151, 152] (by decide +kernel) (by decide +kernel)
set_option maxRecDepth 20000 in
theorem gX6_hold_X7_cutUp : GoodIn wsX6_hold (wsV RX6 28 RX7 yX7_cutUp wsX7_cutUp) := goodIn_app (goodIn_of _ (by decide +kernel)) ggX6_hold_X7_cutUp
set_option maxRecDepth 20000 in
theorem ggX6_hold_X3_asks : GoodIn wsX6_hold wsX3_asks := goodIn_r _ [43, 44, 45, 46, 47, 42, 48, 49, 50, 51, 52, 53, 54, 55, 56, 57, 58, 59, 60, 61, 62, 63, 64, 65, 66, 30, 67, 68, 37, 69, 70, 71, 72, 38, 73, 74, 75, 76, 77, 78, 79, 80, 81, 82, 83, 84, 85, 86, 130, 131, 132, 133, 134, 135, 136, 137, 138, 139, 140, 141, 142, 153, 154, 155, 156, 157, 146, 147, 148, 149, 158, 159] (by decide +kernel) (by decide +kernel)
set_option maxRecDepth 20000 in
theorem gX6_hold_X3_asks : GoodIn wsX6_hold (wsV RX6 37 RX3 yX3_asks wsX3_asks) := goodIn_app (goodIn_of _ (by decide +kernel)) ggX6_hold_X3_asks
set_option maxRecDepth 20000 in
theorem ggX6_hold_X6_nextInTurn : GoodIn wsX6_hold wsX6_nextInTurn := goodIn_r _ [90, 4, 91, 130, 131, 132, 133, 134, 135, 136, 137, 138, 139, 140, 141, 142] (by decide +kernel) (by decide +kernel)
set_option maxRecDepth 20000 in
theorem gX6_hold_X6_nextInTurn : GoodIn wsX6_hold (va_wsS RX6 45 yX6_nextInTurn wsX6_nextInTurn) := goodIn_app (goodIn_of _ (by decide +kernel)) ggX6_hold_X6_nextInTurn
set_option maxRecDepth 20000 in
theorem ggX6_hold_X3_takeTurn : GoodIn wsX6_hold wsX3_takeTurn := goodIn_r _ [95, 62, 96, 49, 45, 46, 47, 42, 48, 50, 51, 52, 53, 54, 55, 56, 57, 97, 98, 99, 30, 100, 37, 69, 70, 71, 72, 38, 101, 102, 103, 104, 105, 106, 107, 108, 76, 109, 78, 110, 74, 75, 77, 79, 111, 81, 82, 83, 84, 85, 86, 112, 113, 114, 115, 116, 117, 118, 119, 120, 28, 29, 31, 32, 58, 59, 60, 61, 63, 64, 65, 66, 67, 68, 73, 80, 130, 131, 132, 133, 134, 135, 136, 137, 138, 139, 140, 141, 142, 153, 154, 155, 146, 147, 148, 149, 156, 157, 158, 159] (by decide +kernel) (by decide +kernel)
set_option maxRecDepth 20000 in
theorem gX6_hold_X3_takeTurn : GoodIn wsX6_hold (wsV RX6 49 RX3 yX3_takeTurn wsX3_takeTurn) := goodIn_app (goodIn_of _ (by decide +kernel)) ggX6_hold_X3_takeTurn
set_option maxRecDepth 20000 in
theorem ggX6_hold_X6_setPrices : GoodIn wsX6_hold wsX6_setPrices := goodIn_r _ [124, 3, 6, 2, 91, 125, 126, 127, 128, 129, 143, 144, 145, 130, 131, 132, 133, 134, 135, 136, 137, 138, 139, 140, 141, 142] (by decide +kernel) (by decide +kernel)
set_option maxRecDepth 20000 in
theorem gX6_hold_X6_setPrices : GoodIn wsX6_hold (wsV RX6 53 RX6 yX6_setPrices wsX6_setPrices) := goodIn_app (goodIn_of _ (by decide +kernel)) ggX6_hold_X6_setPrices
theorem dX6_hold_0 : decode cX6_hold 0 = .ok (.iconst 0, 1) := by decide +kernel
theorem dX6_hold_1 : decode cX6_hold 1 = .ok (.istore_n 3, 1) := by decide +kernel
theorem dX6_hold_2 : decode cX6_hold 2 = .ok (.iload_n 3, 1) := by decide +kernel
theorem dX6_hold_3 : decode cX6_hold 3 = .ok (.aload_n 1, 1) := by decide +kernel
theorem dX6_hold_4 : decode cX6_hold 4 = .ok (.arraylength, 1) := by decide +kernel
theorem dX6_hold_5 : decode cX6_hold 5 = .ok (.if_icmp .ge 48, 3) := by decide +kernel
theorem dX6_hold_8 : decode cX6_hold 8 = .ok (.aload_n 1, 1) := by decide +kernel
theorem dX6_hold_9 : decode cX6_hold 9 = .ok (.iload_n 3, 1) := by decide +kernel
theorem dX6_hold_10 : decode cX6_hold 10 = .ok (.aaload, 1) := by decide +kernel
theorem dX6_hold_11 : decode cX6_hold 11 = .ok (.astore 4, 2) := by decide +kernel
theorem dX6_hold_13 : decode cX6_hold 13 = .ok (.aload 4, 2) := by decide +kernel
theorem dX6_hold_15 : decode cX6_hold 15 = .ok (.ifnull 32, 3) := by decide +kernel
theorem dX6_hold_18 : decode cX6_hold 18 = .ok (.aload_n 2, 1) := by decide +kernel
theorem dX6_hold_19 : decode cX6_hold 19 = .ok (.aload 4, 2) := by decide +kernel
theorem dX6_hold_21 : decode cX6_hold 21 = .ok (.getfield 24, 3) := by decide +kernel
theorem dX6_hold_24 : decode cX6_hold 24 = .ok (.invokevirtual 28, 3) := by decide +kernel
theorem dX6_hold_27 : decode cX6_hold 27 = .ok (.aload 4, 2) := by decide +kernel
theorem dX6_hold_29 : decode cX6_hold 29 = .ok (.iconst 0, 1) := by decide +kernel
theorem dX6_hold_30 : decode cX6_hold 30 = .ok (.putfield 34, 3) := by decide +kernel
theorem dX6_hold_33 : decode cX6_hold 33 = .ok (.aload 4, 2) := by decide +kernel
theorem dX6_hold_35 : decode cX6_hold 35 = .ok (.aload 4, 2) := by decide +kernel
theorem dX6_hold_37 : decode cX6_hold 37 = .ok (.aload_n 0, 1) := by decide +kernel
theorem dX6_hold_38 : decode cX6_hold 38 = .ok (.getfield 21, 3) := by decide +kernel
theorem dX6_hold_41 : decode cX6_hold 41 = .ok (.invokevirtual 37, 3) := by decide +kernel
theorem dX6_hold_44 : decode cX6_hold 44 = .ok (.putfield 41, 3) := by decide +kernel
theorem dX6_hold_47 : decode cX6_hold 47 = .ok (.iinc 3 1, 3) := by decide +kernel
theorem dX6_hold_50 : decode cX6_hold 50 = .ok (.goto (-48), 3) := by decide +kernel
theorem dX6_hold_53 : decode cX6_hold 53 = .ok (.aload_n 0, 1) := by decide +kernel
theorem dX6_hold_54 : decode cX6_hold 54 = .ok (.getfield 17, 3) := by decide +kernel
theorem dX6_hold_57 : decode cX6_hold 57 = .ok (.istore_n 3, 1) := by decide +kernel
theorem dX6_hold_58 : decode cX6_hold 58 = .ok (.iconst 0, 1) := by decide +kernel
theorem dX6_hold_59 : decode cX6_hold 59 = .ok (.istore 4, 2) := by decide +kernel
theorem dX6_hold_61 : decode cX6_hold 61 = .ok (.iload 4, 2) := by decide +kernel
theorem dX6_hold_63 : decode cX6_hold 63 = .ok (.aload_n 0, 1) := by decide +kernel
theorem dX6_hold_64 : decode cX6_hold 64 = .ok (.getfield 11, 3) := by decide +kernel
theorem dX6_hold_67 : decode cX6_hold 67 = .ok (.arraylength, 1) := by decide +kernel
theorem dX6_hold_68 : decode cX6_hold 68 = .ok (.if_icmp .ge 48, 3) := by decide +kernel
theorem dX6_hold_71 : decode cX6_hold 71 = .ok (.aload_n 1, 1) := by decide +kernel
theorem dX6_hold_72 : decode cX6_hold 72 = .ok (.invokestatic 45, 3) := by decide +kernel
theorem dX6_hold_75 : decode cX6_hold 75 = .ok (.astore 5, 2) := by decide +kernel
theorem dX6_hold_77 : decode cX6_hold 77 = .ok (.aload_n 0, 1) := by decide +kernel
theorem dX6_hold_78 : decode cX6_hold 78 = .ok (.getfield 11, 3) := by decide +kernel
theorem dX6_hold_81 : decode cX6_hold 81 = .ok (.iload 4, 2) := by decide +kernel
theorem dX6_hold_83 : decode cX6_hold 83 = .ok (.aload 5, 2) := by decide +kernel
theorem dX6_hold_85 : decode cX6_hold 85 = .ok (.aastore, 1) := by decide +kernel
theorem dX6_hold_86 : decode cX6_hold 86 = .ok (.aload 5, 2) := by decide +kernel
theorem dX6_hold_88 : decode cX6_hold 88 = .ok (.ifnull 22, 3) := by decide +kernel
theorem dX6_hold_91 : decode cX6_hold 91 = .ok (.aload 5, 2) := by decide +kernel
theorem dX6_hold_93 : decode cX6_hold 93 = .ok (.iconst 0, 1) := by decide +kernel
theorem dX6_hold_94 : decode cX6_hold 94 = .ok (.putfield 41, 3) := by decide +kernel
theorem dX6_hold_97 : decode cX6_hold 97 = .ok (.iload_n 3, 1) := by decide +kernel
theorem dX6_hold_98 : decode cX6_hold 98 = .ok (.aload 5, 2) := by decide +kernel
theorem dX6_hold_100 : decode cX6_hold 100 = .ok (.iload_n 3, 1) := by decide +kernel
theorem dX6_hold_101 : decode cX6_hold 101 = .ok (.aload_n 0, 1) := by decide +kernel
theorem dX6_hold_102 : decode cX6_hold 102 = .ok (.getfield 21, 3) := by decide +kernel
theorem dX6_hold_105 : decode cX6_hold 105 = .ok (.invokevirtual 49, 3) := by decide +kernel
theorem dX6_hold_108 : decode cX6_hold 108 = .ok (.isub, 1) := by decide +kernel
theorem dX6_hold_109 : decode cX6_hold 109 = .ok (.istore_n 3, 1) := by decide +kernel
theorem dX6_hold_110 : decode cX6_hold 110 = .ok (.iinc 4 1, 3) := by decide +kernel
theorem dX6_hold_113 : decode cX6_hold 113 = .ok (.goto (-52), 3) := by decide +kernel
theorem dX6_hold_116 : decode cX6_hold 116 = .ok (.aload_n 0, 1) := by decide +kernel
theorem dX6_hold_117 : decode cX6_hold 117 = .ok (.invokevirtual 53, 3) := by decide +kernel
theorem dX6_hold_120 : decode cX6_hold 120 = .ok (.return_, 1) := by decide +kernel
theorem dX6_nextInTurn_0 : decode cX6_nextInTurn 0 = .ok (.aconst_null, 1) := by decide +kernel
theorem dX6_nextInTurn_1 : decode cX6_nextInTurn 1 = .ok (.astore_n 1, 1) := by decide +kernel
theorem dX6_nextInTurn_2 : decode cX6_nextInTurn 2 = .ok (.iconst 0, 1) := by decide +kernel
theorem dX6_nextInTurn_3 : decode cX6_nextInTurn 3 = .ok (.istore_n 2, 1) := by decide +kernel
theorem dX6_nextInTurn_4 : decode cX6_nextInTurn 4 = .ok (.iload_n 2, 1) := by decide +kernel
theorem dX6_nextInTurn_5 : decode cX6_nextInTurn 5 = .ok (.aload_n 0, 1) := by decide +kernel
theorem dX6_nextInTurn_6 : decode cX6_nextInTurn 6 = .ok (.arraylength, 1) := by decide +kernel
theorem dX6_nextInTurn_7 : decode cX6_nextInTurn 7 = .ok (.if_icmp .ge 41, 3) := by decide +kernel
theorem dX6_nextInTurn_10 : decode cX6_nextInTurn 10 = .ok (.aload_n 0, 1) := by decide +kernel
theorem dX6_nextInTurn_11 : decode cX6_nextInTurn 11 = .ok (.iload_n 2, 1) := by decide +kernel
theorem dX6_nextInTurn_12 : decode cX6_nextInTurn 12 = .ok (.aaload, 1) := by decide +kernel
theorem dX6_nextInTurn_13 : decode cX6_nextInTurn 13 = .ok (.astore_n 3, 1) := by decide +kernel
theorem dX6_nextInTurn_14 : decode cX6_nextInTurn 14 = .ok (.aload_n 3, 1) := by decide +kernel
theorem dX6_nextInTurn_15 : decode cX6_nextInTurn 15 = .ok (.ifnull 27, 3) := by decide +kernel
theorem dX6_nextInTurn_18 : decode cX6_nextInTurn 18 = .ok (.aload_n 3, 1) := by decide +kernel
theorem dX6_nextInTurn_19 : decode cX6_nextInTurn 19 = .ok (.getfield 41, 3) := by decide +kernel
theorem dX6_nextInTurn_22 : decode cX6_nextInTurn 22 = .ok (.ifCond .eq 20, 3) := by decide +kernel
theorem dX6_nextInTurn_25 : decode cX6_nextInTurn 25 = .ok (.aload_n 1, 1) := by decide +kernel
theorem dX6_nextInTurn_26 : decode cX6_nextInTurn 26 = .ok (.ifnull 14, 3) := by decide +kernel
theorem dX6_nextInTurn_29 : decode cX6_nextInTurn 29 = .ok (.aload_n 3, 1) := by decide +kernel
theorem dX6_nextInTurn_30 : decode cX6_nextInTurn 30 = .ok (.getfield 56, 3) := by decide +kernel
theorem dX6_nextInTurn_33 : decode cX6_nextInTurn 33 = .ok (.aload_n 1, 1) := by decide +kernel
theorem dX6_nextInTurn_34 : decode cX6_nextInTurn 34 = .ok (.getfield 56, 3) := by decide +kernel
theorem dX6_nextInTurn_37 : decode cX6_nextInTurn 37 = .ok (.if_icmp .le 5, 3) := by decide +kernel
theorem dX6_nextInTurn_40 : decode cX6_nextInTurn 40 = .ok (.aload_n 3, 1) := by decide +kernel
theorem dX6_nextInTurn_41 : decode cX6_nextInTurn 41 = .ok (.astore_n 1, 1) := by decide +kernel
theorem dX6_nextInTurn_42 : decode cX6_nextInTurn 42 = .ok (.iinc 2 1, 3) := by decide +kernel
theorem dX6_nextInTurn_45 : decode cX6_nextInTurn 45 = .ok (.goto (-41), 3) := by decide +kernel
theorem dX6_nextInTurn_48 : decode cX6_nextInTurn 48 = .ok (.aload_n 1, 1) := by decide +kernel
theorem dX6_nextInTurn_49 : decode cX6_nextInTurn 49 = .ok (.areturn, 1) := by decide +kernel
theorem dX6_setPrices_0 : decode cX6_setPrices 0 = .ok (.aload_n 0, 1) := by decide +kernel
theorem dX6_setPrices_1 : decode cX6_setPrices 1 = .ok (.getfield 21, 3) := by decide +kernel
theorem dX6_setPrices_4 : decode cX6_setPrices 4 = .ok (.istore_n 1, 1) := by decide +kernel
theorem dX6_setPrices_5 : decode cX6_setPrices 5 = .ok (.aload_n 0, 1) := by decide +kernel
theorem dX6_setPrices_6 : decode cX6_setPrices 6 = .ok (.getfield 11, 3) := by decide +kernel
theorem dX6_setPrices_9 : decode cX6_setPrices 9 = .ok (.arraylength, 1) := by decide +kernel
theorem dX6_setPrices_10 : decode cX6_setPrices 10 = .ok (.iconst 1, 1) := by decide +kernel
theorem dX6_setPrices_11 : decode cX6_setPrices 11 = .ok (.isub, 1) := by decide +kernel
theorem dX6_setPrices_12 : decode cX6_setPrices 12 = .ok (.istore_n 2, 1) := by decide +kernel
theorem dX6_setPrices_13 : decode cX6_setPrices 13 = .ok (.iload_n 2, 1) := by decide +kernel
theorem dX6_setPrices_14 : decode cX6_setPrices 14 = .ok (.ifCond .lt 47, 3) := by decide +kernel
theorem dX6_setPrices_17 : decode cX6_setPrices 17 = .ok (.aload_n 0, 1) := by decide +kernel
theorem dX6_setPrices_18 : decode cX6_setPrices 18 = .ok (.getfield 11, 3) := by decide +kernel
theorem dX6_setPrices_21 : decode cX6_setPrices 21 = .ok (.iload_n 2, 1) := by decide +kernel
theorem dX6_setPrices_22 : decode cX6_setPrices 22 = .ok (.aaload, 1) := by decide +kernel
theorem dX6_setPrices_23 : decode cX6_setPrices 23 = .ok (.astore_n 3, 1) := by decide +kernel
theorem dX6_setPrices_24 : decode cX6_setPrices 24 = .ok (.aload_n 3, 1) := by decide +kernel
theorem dX6_setPrices_25 : decode cX6_setPrices 25 = .ok (.ifnonnull 6, 3) := by decide +kernel
theorem dX6_setPrices_28 : decode cX6_setPrices 28 = .ok (.goto 27, 3) := by decide +kernel
theorem dX6_setPrices_31 : decode cX6_setPrices 31 = .ok (.aload_n 3, 1) := by decide +kernel
theorem dX6_setPrices_32 : decode cX6_setPrices 32 = .ok (.getfield 34, 3) := by decide +kernel
theorem dX6_setPrices_35 : decode cX6_setPrices 35 = .ok (.ifCond .ne 15, 3) := by decide +kernel
theorem dX6_setPrices_38 : decode cX6_setPrices 38 = .ok (.iload_n 1, 1) := by decide +kernel
theorem dX6_setPrices_39 : decode cX6_setPrices 39 = .ok (.aload_n 3, 1) := by decide +kernel
theorem dX6_setPrices_40 : decode cX6_setPrices 40 = .ok (.getfield 56, 3) := by decide +kernel
theorem dX6_setPrices_43 : decode cX6_setPrices 43 = .ok (.invokestatic 59, 3) := by decide +kernel
theorem dX6_setPrices_46 : decode cX6_setPrices 46 = .ok (.istore_n 1, 1) := by decide +kernel
theorem dX6_setPrices_47 : decode cX6_setPrices 47 = .ok (.goto 8, 3) := by decide +kernel
theorem dX6_setPrices_50 : decode cX6_setPrices 50 = .ok (.aload_n 3, 1) := by decide +kernel
theorem dX6_setPrices_51 : decode cX6_setPrices 51 = .ok (.iload_n 1, 1) := by decide +kernel
theorem dX6_setPrices_52 : decode cX6_setPrices 52 = .ok (.putfield 64, 3) := by decide +kernel
theorem dX6_setPrices_55 : decode cX6_setPrices 55 = .ok (.iinc 2 (-1), 3) := by decide +kernel
theorem dX6_setPrices_58 : decode cX6_setPrices 58 = .ok (.goto (-45), 3) := by decide +kernel
theorem dX6_setPrices_61 : decode cX6_setPrices 61 = .ok (.return_, 1) := by decide +kernel
theorem dX7_init_0 : decode cX7_init 0 = .ok (.aload_n 0, 1) := by decide +kernel
theorem dX7_init_1 : decode cX7_init 1 = .ok (.invokespecial 1, 3) := by decide +kernel
theorem dX7_init_4 : decode cX7_init 4 = .ok (.aload_n 0, 1) := by decide +kernel
theorem dX7_init_5 : decode cX7_init 5 = .ok (.iconst 2, 1) := by decide +kernel
theorem dX7_init_6 : decode cX7_init 6 = .ok (.putfield 7, 3) := by decide +kernel
theorem dX7_init_9 : decode cX7_init 9 = .ok (.aload_n 0, 1) := by decide +kernel
theorem dX7_init_10 : decode cX7_init 10 = .ok (.iconst 3, 1) := by decide +kernel
theorem dX7_init_11 : decode cX7_init 11 = .ok (.putfield 13, 3) := by decide +kernel
theorem dX7_init_14 : decode cX7_init 14 = .ok (.aload_n 0, 1) := by decide +kernel
theorem dX7_init_15 : decode cX7_init 15 = .ok (.bipush 12, 2) := by decide +kernel
theorem dX7_init_17 : decode cX7_init 17 = .ok (.putfield 16, 3) := by decide +kernel
theorem dX7_init_20 : decode cX7_init 20 = .ok (.return_, 1) := by decide +kernel
set_option maxRecDepth 20000 in
theorem ggX7_markAt_X0_byteAt : GoodIn wsX7_markAt wsX0_byteAt := goodIn_r _ [7, 8, 9, 10, 11, 12] (by decide +kernel) (by decide +kernel)
set_option maxRecDepth 20000 in
theorem gX7_markAt_X0_byteAt : GoodIn wsX7_markAt (wsV RX7 21 RX0 yX0_byteAt wsX0_byteAt) := goodIn_app (goodIn_of _ (by decide +kernel)) ggX7_markAt_X0_byteAt
theorem dX7_markAt_0 : decode cX7_markAt 0 = .ok (.iconst 0, 1) := by decide +kernel
theorem dX7_markAt_1 : decode cX7_markAt 1 = .ok (.istore_n 3, 1) := by decide +kernel
theorem dX7_markAt_2 : decode cX7_markAt 2 = .ok (.iconst 3, 1) := by decide +kernel
theorem dX7_markAt_3 : decode cX7_markAt 3 = .ok (.istore 4, 2) := by decide +kernel
theorem dX7_markAt_5 : decode cX7_markAt 5 = .ok (.iload 4, 2) := by decide +kernel
theorem dX7_markAt_7 : decode cX7_markAt 7 = .ok (.ifCond .lt 44, 3) := by decide +kernel
theorem dX7_markAt_10 : decode cX7_markAt 10 = .ok (.iload 4, 2) := by decide +kernel
theorem dX7_markAt_12 : decode cX7_markAt 12 = .ok (.iload_n 2, 1) := by decide +kernel
theorem dX7_markAt_13 : decode cX7_markAt 13 = .ok (.if_icmp .gt 32, 3) := by decide +kernel
theorem dX7_markAt_16 : decode cX7_markAt 16 = .ok (.iload_n 3, 1) := by decide +kernel
theorem dX7_markAt_17 : decode cX7_markAt 17 = .ok (.iconst 3, 1) := by decide +kernel
theorem dX7_markAt_18 : decode cX7_markAt 18 = .ok (.ishl, 1) := by decide +kernel
theorem dX7_markAt_19 : decode cX7_markAt 19 = .ok (.iload_n 3, 1) := by decide +kernel
theorem dX7_markAt_20 : decode cX7_markAt 20 = .ok (.bipush 13, 2) := by decide +kernel
theorem dX7_markAt_22 : decode cX7_markAt 22 = .ok (.iushr, 1) := by decide +kernel
theorem dX7_markAt_23 : decode cX7_markAt 23 = .ok (.ior, 1) := by decide +kernel
theorem dX7_markAt_24 : decode cX7_markAt 24 = .ok (.ldc 19, 2) := by decide +kernel
theorem dX7_markAt_26 : decode cX7_markAt 26 = .ok (.iand, 1) := by decide +kernel
theorem dX7_markAt_27 : decode cX7_markAt 27 = .ok (.istore_n 3, 1) := by decide +kernel
theorem dX7_markAt_28 : decode cX7_markAt 28 = .ok (.iload_n 3, 1) := by decide +kernel
theorem dX7_markAt_29 : decode cX7_markAt 29 = .ok (.ldc 20, 2) := by decide +kernel
theorem dX7_markAt_31 : decode cX7_markAt 31 = .ok (.aload_n 1, 1) := by decide +kernel
theorem dX7_markAt_32 : decode cX7_markAt 32 = .ok (.iload_n 2, 1) := by decide +kernel
theorem dX7_markAt_33 : decode cX7_markAt 33 = .ok (.iload 4, 2) := by decide +kernel
theorem dX7_markAt_35 : decode cX7_markAt 35 = .ok (.isub, 1) := by decide +kernel
theorem dX7_markAt_36 : decode cX7_markAt 36 = .ok (.invokevirtual 21, 3) := by decide +kernel
theorem dX7_markAt_39 : decode cX7_markAt 39 = .ok (.imul, 1) := by decide +kernel
theorem dX7_markAt_40 : decode cX7_markAt 40 = .ok (.ldc 19, 2) := by decide +kernel
theorem dX7_markAt_42 : decode cX7_markAt 42 = .ok (.iand, 1) := by decide +kernel
theorem dX7_markAt_43 : decode cX7_markAt 43 = .ok (.ixor, 1) := by decide +kernel
theorem dX7_markAt_44 : decode cX7_markAt 44 = .ok (.istore_n 3, 1) := by decide +kernel
theorem dX7_markAt_45 : decode cX7_markAt 45 = .ok (.iinc 4 (-1), 3) := by decide +kernel
theorem dX7_markAt_48 : decode cX7_markAt 48 = .ok (.goto (-43), 3) := by decide +kernel
theorem dX7_markAt_51 : decode cX7_markAt 51 = .ok (.iload_n 3, 1) := by decide +kernel
theorem dX7_markAt_52 : decode cX7_markAt 52 = .ok (.ireturn, 1) := by decide +kernel
set_option maxRecDepth 20000 in
theorem ggX7_cutUp_X7_endsBehind : GoodIn wsX7_cutUp wsX7_endsBehind := goodIn_r _ [7, 2, 8, 9, 10, 11, 12, 13, 6, 14, 15, 16, 17, 18, 19, 20, 21, 22, 29, 30, 31, 32, 33, 34, 35] (by decide +kernel) (by decide +kernel)
set_option maxRecDepth 20000 in
theorem gX7_cutUp_X7_endsBehind : GoodIn wsX7_cutUp (wsV RX7 33 RX7 yX7_endsBehind wsX7_endsBehind) := goodIn_app (goodIn_of _ (by decide +kernel)) ggX7_cutUp_X7_endsBehind
set_option maxRecDepth 20000 in
theorem ggX7_cutUp_X0_endPart : GoodIn wsX7_cutUp wsX0_endPart := goodIn_r _ [26, 27, 28, 29, 30, 31, 32] (by decide +kernel) (by decide +kernel)
set_option maxRecDepth 20000 in
theorem gX7_cutUp_X0_endPart : GoodIn wsX7_cutUp (wsV RX7 37 RX0 yX0_endPart wsX0_endPart) := goodIn_app (goodIn_of _ (by decide +kernel)) ggX7_cutUp_X0_endPart
theorem dX7_cutUp_0 : decode cX7_cutUp 0 = .ok (.aload_n 1, 1) := by decide +kernel
theorem dX7_cutUp_1 : decode cX7_cutUp 1 = .ok (.iconst 0, 1) := by decide +kernel
theorem dX7_cutUp_2 : decode cX7_cutUp 2 = .ok (.putfield 27, 3) := by decide +kernel
theorem dX7_cutUp_5 : decode cX7_cutUp 5 = .ok (.iconst 0, 1) := by decide +kernel
theorem dX7_cutUp_6 : decode cX7_cutUp 6 = .ok (.istore_n 2, 1) := by decide +kernel
theorem dX7_cutUp_7 : decode cX7_cutUp 7 = .ok (.iconst 0, 1) := by decide +kernel
theorem dX7_cutUp_8 : decode cX7_cutUp 8 = .ok (.istore_n 3, 1) := by decide +kernel
theorem dX7_cutUp_9 : decode cX7_cutUp 9 = .ok (.iload_n 3, 1) := by decide +kernel
theorem dX7_cutUp_10 : decode cX7_cutUp 10 = .ok (.aload_n 1, 1) := by decide +kernel
theorem dX7_cutUp_11 : decode cX7_cutUp 11 = .ok (.getfield 30, 3) := by decide +kernel
theorem dX7_cutUp_14 : decode cX7_cutUp 14 = .ok (.if_icmp .ge 32, 3) := by decide +kernel
theorem dX7_cutUp_17 : decode cX7_cutUp 17 = .ok (.aload_n 0, 1) := by decide +kernel
theorem dX7_cutUp_18 : decode cX7_cutUp 18 = .ok (.aload_n 1, 1) := by decide +kernel
theorem dX7_cutUp_19 : decode cX7_cutUp 19 = .ok (.iload_n 3, 1) := by decide +kernel
theorem dX7_cutUp_20 : decode cX7_cutUp 20 = .ok (.iload_n 3, 1) := by decide +kernel
theorem dX7_cutUp_21 : decode cX7_cutUp 21 = .ok (.iconst 1, 1) := by decide +kernel
theorem dX7_cutUp_22 : decode cX7_cutUp 22 = .ok (.iadd, 1) := by decide +kernel
theorem dX7_cutUp_23 : decode cX7_cutUp 23 = .ok (.iload_n 2, 1) := by decide +kernel
theorem dX7_cutUp_24 : decode cX7_cutUp 24 = .ok (.isub, 1) := by decide +kernel
theorem dX7_cutUp_25 : decode cX7_cutUp 25 = .ok (.invokevirtual 33, 3) := by decide +kernel
theorem dX7_cutUp_28 : decode cX7_cutUp 28 = .ok (.ifCond .eq 12, 3) := by decide +kernel
theorem dX7_cutUp_31 : decode cX7_cutUp 31 = .ok (.iload_n 3, 1) := by decide +kernel
theorem dX7_cutUp_32 : decode cX7_cutUp 32 = .ok (.iconst 1, 1) := by decide +kernel
theorem dX7_cutUp_33 : decode cX7_cutUp 33 = .ok (.iadd, 1) := by decide +kernel
theorem dX7_cutUp_34 : decode cX7_cutUp 34 = .ok (.istore_n 2, 1) := by decide +kernel
theorem dX7_cutUp_35 : decode cX7_cutUp 35 = .ok (.aload_n 1, 1) := by decide +kernel
theorem dX7_cutUp_36 : decode cX7_cutUp 36 = .ok (.iload_n 2, 1) := by decide +kernel
theorem dX7_cutUp_37 : decode cX7_cutUp 37 = .ok (.invokevirtual 37, 3) := by decide +kernel
theorem dX7_cutUp_40 : decode cX7_cutUp 40 = .ok (.iinc 3 1, 3) := by decide +kernel
theorem dX7_cutUp_43 : decode cX7_cutUp 43 = .ok (.goto (-34), 3) := by decide +kernel
theorem dX7_cutUp_46 : decode cX7_cutUp 46 = .ok (.return_, 1) := by decide +kernel
set_option maxRecDepth 20000 in
theorem ggX7_endsBehind_X7_markAt : GoodIn wsX7_endsBehind wsX7_markAt := goodIn_r _ [9, 10, 11, 12, 13, 14, 15, 16, 17, 18, 19, 20, 21] (by decide +kernel) (by decide +kernel)
set_option maxRecDepth 20000 in
theorem gX7_endsBehind_X7_markAt : GoodIn wsX7_endsBehind (wsV RX7 41 RX7 yX7_markAt wsX7_markAt) := goodIn_app (goodIn_of _ (by decide +kernel)) ggX7_endsBehind_X7_markAt
theorem dX7_endsBehind_0 : decode cX7_endsBehind 0 = .ok (.iload_n 2, 1) := by decide +kernel
theorem dX7_endsBehind_1 : decode cX7_endsBehind 1 = .ok (.iconst 1, 1) := by decide +kernel
theorem dX7_endsBehind_2 : decode cX7_endsBehind 2 = .ok (.iadd, 1) := by decide +kernel
theorem dX7_endsBehind_3 : decode cX7_endsBehind 3 = .ok (.aload_n 1, 1) := by decide +kernel
theorem dX7_endsBehind_4 : decode cX7_endsBehind 4 = .ok (.getfield 30, 3) := by decide +kernel
theorem dX7_endsBehind_7 : decode cX7_endsBehind 7 = .ok (.if_icmp .ge 11, 3) := by decide +kernel
theorem dX7_endsBehind_10 : decode cX7_endsBehind 10 = .ok (.iload_n 3, 1) := by decide +kernel
theorem dX7_endsBehind_11 : decode cX7_endsBehind 11 = .ok (.aload_n 0, 1) := by decide +kernel
theorem dX7_endsBehind_12 : decode cX7_endsBehind 12 = .ok (.getfield 16, 3) := by decide +kernel
theorem dX7_endsBehind_15 : decode cX7_endsBehind 15 = .ok (.if_icmp .lt 5, 3) := by decide +kernel
theorem dX7_endsBehind_18 : decode cX7_endsBehind 18 = .ok (.iconst 1, 1) := by decide +kernel
theorem dX7_endsBehind_19 : decode cX7_endsBehind 19 = .ok (.ireturn, 1) := by decide +kernel
theorem dX7_endsBehind_20 : decode cX7_endsBehind 20 = .ok (.iconst 1, 1) := by decide +kernel
theorem dX7_endsBehind_21 : decode cX7_endsBehind 21 = .ok (.aload_n 0, 1) := by decide +kernel
theorem dX7_endsBehind_22 : decode cX7_endsBehind 22 = .ok (.getfield 7, 3) := by decide +kernel
theorem dX7_endsBehind_25 : decode cX7_endsBehind 25 = .ok (.ishl, 1) := by decide +kernel
theorem dX7_endsBehind_26 : decode cX7_endsBehind 26 = .ok (.iconst 1, 1) := by decide +kernel
theorem dX7_endsBehind_27 : decode cX7_endsBehind 27 = .ok (.isub, 1) := by decide +kernel
theorem dX7_endsBehind_28 : decode cX7_endsBehind 28 = .ok (.istore 4, 2) := by decide +kernel
theorem dX7_endsBehind_30 : decode cX7_endsBehind 30 = .ok (.iload_n 3, 1) := by decide +kernel
theorem dX7_endsBehind_31 : decode cX7_endsBehind 31 = .ok (.aload_n 0, 1) := by decide +kernel
theorem dX7_endsBehind_32 : decode cX7_endsBehind 32 = .ok (.getfield 13, 3) := by decide +kernel
theorem dX7_endsBehind_35 : decode cX7_endsBehind 35 = .ok (.if_icmp .lt 19, 3) := by decide +kernel
theorem dX7_endsBehind_38 : decode cX7_endsBehind 38 = .ok (.aload_n 0, 1) := by decide +kernel
theorem dX7_endsBehind_39 : decode cX7_endsBehind 39 = .ok (.aload_n 1, 1) := by decide +kernel
theorem dX7_endsBehind_40 : decode cX7_endsBehind 40 = .ok (.iload_n 2, 1) := by decide +kernel
theorem dX7_endsBehind_41 : decode cX7_endsBehind 41 = .ok (.invokevirtual 41, 3) := by decide +kernel
theorem dX7_endsBehind_44 : decode cX7_endsBehind 44 = .ok (.iload 4, 2) := by decide +kernel
theorem dX7_endsBehind_46 : decode cX7_endsBehind 46 = .ok (.iand, 1) := by decide +kernel
theorem dX7_endsBehind_47 : decode cX7_endsBehind 47 = .ok (.ifCond .ne 7, 3) := by decide +kernel
theorem dX7_endsBehind_50 : decode cX7_endsBehind 50 = .ok (.iconst 1, 1) := by decide +kernel
theorem dX7_endsBehind_51 : decode cX7_endsBehind 51 = .ok (.goto 4, 3) := by decide +kernel
theorem dX7_endsBehind_54 : decode cX7_endsBehind 54 = .ok (.iconst 0, 1) := by decide +kernel
theorem dX7_endsBehind_55 : decode cX7_endsBehind 55 = .ok (.ireturn, 1) := by decide +kernel
theorem dX8_init_0 : decode cX8_init 0 = .ok (.aload_n 0, 1) := by decide +kernel
theorem dX8_init_1 : decode cX8_init 1 = .ok (.invokespecial 1, 3) := by decide +kernel
theorem dX8_init_4 : decode cX8_init 4 = .ok (.aload_n 0, 1) := by decide +kernel
theorem dX8_init_5 : decode cX8_init 5 = .ok (.iconst 5, 1) := by decide +kernel
theorem dX8_init_6 : decode cX8_init 6 = .ok (.putfield 7, 3) := by decide +kernel
theorem dX8_init_9 : decode cX8_init 9 = .ok (.aload_n 0, 1) := by decide +kernel
theorem dX8_init_10 : decode cX8_init 10 = .ok (.iconst 4, 1) := by decide +kernel
theorem dX8_init_11 : decode cX8_init 11 = .ok (.putfield 13, 3) := by decide +kernel
theorem dX8_init_14 : decode cX8_init 14 = .ok (.return_, 1) := by decide +kernel
set_option maxRecDepth 20000 in
theorem ggX8_minutesFor_X5_linksToMount : GoodIn wsX8_minutesFor wsX5_linksToMount := goodIn_r _ [11, 12, 13, 14, 15, 16, 10, 17, 18, 19, 20, 21, 22, 23, 24, 25, 26, 27, 28, 29, 30, 31, 32, 33, 34, 52, 53, 54, 55, 56] (by decide +kernel) (by decide +kernel)
set_option maxRecDepth 20000 in
theorem gX8_minutesFor_X5_linksToMount : GoodIn wsX8_minutesFor (wsV RX8 16 RX5 yX5_linksToMount wsX5_linksToMount) := goodIn_app (goodIn_of _ (by decide +kernel)) ggX8_minutesFor_X5_linksToMount
set_option maxRecDepth 20000 in
theorem ggX8_minutesFor_X5_bytesToRead : GoodIn wsX8_minutesFor wsX5_bytesToRead := goodIn_r _ [38, 13, 18, 39, 40, 41, 23, 42, 25, 43, 21, 22, 24, 26, 31, 32, 33, 34, 44, 45, 46, 47, 48, 49, 52, 53, 54, 55, 56, 57, 58] (by decide +kernel) (by decide +kernel)
set_option maxRecDepth 20000 in
theorem gX8_minutesFor_X5_bytesToRead : GoodIn wsX8_minutesFor (wsV RX8 22 RX5 yX5_bytesToRead wsX5_bytesToRead) := goodIn_app (goodIn_of _ (by decide +kernel)) ggX8_minutesFor_X5_bytesToRead
theorem dX8_minutesFor_0 : decode cX8_minutesFor 0 = .ok (.aload_n 0, 1) := by decide +kernel
theorem dX8_minutesFor_1 : decode cX8_minutesFor 1 = .ok (.getfield 7, 3) := by decide +kernel
theorem dX8_minutesFor_4 : decode cX8_minutesFor 4 = .ok (.aload_n 1, 1) := by decide +kernel
theorem dX8_minutesFor_5 : decode cX8_minutesFor 5 = .ok (.invokevirtual 16, 3) := by decide +kernel
theorem dX8_minutesFor_8 : decode cX8_minutesFor 8 = .ok (.imul, 1) := by decide +kernel
theorem dX8_minutesFor_9 : decode cX8_minutesFor 9 = .ok (.i2f, 1) := by decide +kernel
theorem dX8_minutesFor_10 : decode cX8_minutesFor 10 = .ok (.fstore_n 2, 1) := by decide +kernel
theorem dX8_minutesFor_11 : decode cX8_minutesFor 11 = .ok (.fload_n 2, 1) := by decide +kernel
theorem dX8_minutesFor_12 : decode cX8_minutesFor 12 = .ok (.aload_n 1, 1) := by decide +kernel
theorem dX8_minutesFor_13 : decode cX8_minutesFor 13 = .ok (.invokevirtual 22, 3) := by decide +kernel
theorem dX8_minutesFor_16 : decode cX8_minutesFor 16 = .ok (.i2f, 1) := by decide +kernel
theorem dX8_minutesFor_17 : decode cX8_minutesFor 17 = .ok (.aload_n 0, 1) := by decide +kernel
theorem dX8_minutesFor_18 : decode cX8_minutesFor 18 = .ok (.getfield 13, 3) := by decide +kernel

