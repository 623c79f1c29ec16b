theorem dX9_needNight_16 : decode cX9_needNight 16 = .ok (.ldc_w 278, 3) := by decide +kernel
theorem dX9_needNight_19 : decode cX9_needNight 19 = .ok (.invokespecial 69, 3) := by decide +kernel
theorem dX9_needNight_22 : decode cX9_needNight 22 = .ok (.athrow, 1) := by decide +kernel
theorem dX9_needNight_23 : decode cX9_needNight 23 = .ok (.return_, 1) := by decide +kernel
set_option maxRecDepth 20000 in
theorem ggX9_linkOf_X9_clientOf : GoodIn wsX9_linkOf wsX9_clientOf := goodIn_ca (goodIn_r _ [7, 8, 9, 10, 24, 25, 26, 27, 28, 29] (by decide +kernel) (by decide +kernel)) (goodIn_sub (fun _ h => List.mem_cons_of_mem _ (List.mem_append_left _ (List.mem_append_right _ h))) (by decide +kernel))
set_option maxRecDepth 20000 in
theorem gX9_linkOf_X9_clientOf : GoodIn wsX9_linkOf (wsV RX9 48 RX9 yX9_clientOf wsX9_clientOf) := goodIn_app (goodIn_of _ (by decide +kernel)) ggX9_linkOf_X9_clientOf
set_option maxRecDepth 20000 in
theorem ggX9_linkOf_X9_needNight : GoodIn wsX9_linkOf wsX9_needNight := goodIn_ca (goodIn_r _ [14, 15, 16, 17, 24, 25, 26, 27, 28, 29] (by decide +kernel) (by decide +kernel)) (goodIn_sub (fun _ h => List.mem_cons_of_mem _ (List.mem_append_right _ h)) (by decide +kernel))
set_option maxRecDepth 20000 in
theorem gX9_linkOf_X9_needNight : GoodIn wsX9_linkOf (wsV RX9 179 RX9 yX9_needNight wsX9_needNight) := goodIn_app (goodIn_of _ (by decide +kernel)) ggX9_linkOf_X9_needNight
set_option maxRecDepth 20000 in
theorem ggX9_linkOf_X3_linkAt : GoodIn wsX9_linkOf wsX3_linkAt := goodIn_r _ [22, 23, 30, 31, 32, 33, 34, 35, 36, 37, 38, 39, 40, 41, 42] (by decide +kernel) (by decide +kernel)
set_option maxRecDepth 20000 in
theorem gX9_linkOf_X3_linkAt : GoodIn wsX9_linkOf (wsV RX9 183 RX3 yX3_linkAt wsX3_linkAt) := goodIn_app (goodIn_of _ (by decide +kernel)) ggX9_linkOf_X3_linkAt
theorem dX9_linkOf_0 : decode cX9_linkOf 0 = .ok (.aload_n 0, 1) := by decide +kernel
theorem dX9_linkOf_1 : decode cX9_linkOf 1 = .ok (.iload_n 1, 1) := by decide +kernel
theorem dX9_linkOf_2 : decode cX9_linkOf 2 = .ok (.invokevirtual 48, 3) := by decide +kernel
theorem dX9_linkOf_5 : decode cX9_linkOf 5 = .ok (.astore_n 3, 1) := by decide +kernel
theorem dX9_linkOf_6 : decode cX9_linkOf 6 = .ok (.aload_n 0, 1) := by decide +kernel
theorem dX9_linkOf_7 : decode cX9_linkOf 7 = .ok (.iload_n 2, 1) := by decide +kernel
theorem dX9_linkOf_8 : decode cX9_linkOf 8 = .ok (.invokevirtual 179, 3) := by decide +kernel
theorem dX9_linkOf_11 : decode cX9_linkOf 11 = .ok (.aload_n 3, 1) := by decide +kernel
theorem dX9_linkOf_12 : decode cX9_linkOf 12 = .ok (.iload_n 2, 1) := by decide +kernel
theorem dX9_linkOf_13 : decode cX9_linkOf 13 = .ok (.invokevirtual 183, 3) := by decide +kernel
theorem dX9_linkOf_16 : decode cX9_linkOf 16 = .ok (.astore 4, 2) := by decide +kernel
theorem dX9_linkOf_18 : decode cX9_linkOf 18 = .ok (.aload 4, 2) := by decide +kernel
theorem dX9_linkOf_20 : decode cX9_linkOf 20 = .ok (.ifnonnull 14, 3) := by decide +kernel
theorem dX9_linkOf_23 : decode cX9_linkOf 23 = .ok (.new 76, 3) := by decide +kernel
theorem dX9_linkOf_26 : decode cX9_linkOf 26 = .ok (.dup, 1) := by decide +kernel
theorem dX9_linkOf_27 : decode cX9_linkOf 27 = .ok (.ldc_w 280, 3) := by decide +kernel
theorem dX9_linkOf_30 : decode cX9_linkOf 30 = .ok (.invokespecial 80, 3) := by decide +kernel
theorem dX9_linkOf_33 : decode cX9_linkOf 33 = .ok (.athrow, 1) := by decide +kernel
theorem dX9_linkOf_34 : decode cX9_linkOf 34 = .ok (.aload 4, 2) := by decide +kernel
theorem dX9_linkOf_36 : decode cX9_linkOf 36 = .ok (.areturn, 1) := by decide +kernel
set_option maxRecDepth 20000 in
theorem ggX9_freshlyCut_X9_clientOf : GoodIn wsX9_freshlyCut wsX9_clientOf := goodIn_ca (goodIn_r _ [7, 8, 9, 10, 56, 57, 58, 59, 60, 61] (by decide +kernel) (by decide +kernel)) (goodIn_sub (fun _ h => List.mem_cons_of_mem _ (List.mem_append_right _ h)) (by decide +kernel))
set_option maxRecDepth 20000 in
theorem gX9_freshlyCut_X9_clientOf : GoodIn wsX9_freshlyCut (wsV RX9 48 RX9 yX9_clientOf wsX9_clientOf) := goodIn_app (goodIn_of _ (by decide +kernel)) ggX9_freshlyCut_X9_clientOf
set_option maxRecDepth 20000 in
theorem ggX9_freshlyCut_X7_cutUp : GoodIn wsX9_freshlyCut wsX7_cutUp := goodIn_r _ [15, 16, 17, 18, 19, 20, 14, 21, 22, 23, 24, 25, 26, 27, 28, 29, 30, 31, 32, 33, 34, 35, 36, 37, 38, 39, 40, 41, 42, 62, 63, 64, 65, 66, 67, 68] (by decide +kernel) (by decide +kernel)
set_option maxRecDepth 20000 in
theorem gX9_freshlyCut_X7_cutUp : GoodIn wsX9_freshlyCut (wsV RX9 282 RX7 yX7_cutUp wsX7_cutUp) := goodIn_app (goodIn_of _ (by decide +kernel)) ggX9_freshlyCut_X7_cutUp
theorem dX9_freshlyCut_0 : decode cX9_freshlyCut 0 = .ok (.aload_n 0, 1) := by decide +kernel
theorem dX9_freshlyCut_1 : decode cX9_freshlyCut 1 = .ok (.iload_n 1, 1) := by decide +kernel
theorem dX9_freshlyCut_2 : decode cX9_freshlyCut 2 = .ok (.invokevirtual 48, 3) := by decide +kernel
theorem dX9_freshlyCut_5 : decode cX9_freshlyCut 5 = .ok (.getfield 52, 3) := by decide +kernel
theorem dX9_freshlyCut_8 : decode cX9_freshlyCut 8 = .ok (.astore_n 2, 1) := by decide +kernel
theorem dX9_freshlyCut_9 : decode cX9_freshlyCut 9 = .ok (.aload_n 0, 1) := by decide +kernel
theorem dX9_freshlyCut_10 : decode cX9_freshlyCut 10 = .ok (.getfield 18, 3) := by decide +kernel
theorem dX9_freshlyCut_13 : decode cX9_freshlyCut 13 = .ok (.aload_n 2, 1) := by decide +kernel
theorem dX9_freshlyCut_14 : decode cX9_freshlyCut 14 = .ok (.invokevirtual 282, 3) := by decide +kernel
theorem dX9_freshlyCut_17 : decode cX9_freshlyCut 17 = .ok (.aload_n 2, 1) := by decide +kernel
theorem dX9_freshlyCut_18 : decode cX9_freshlyCut 18 = .ok (.areturn, 1) := by decide +kernel
set_option maxRecDepth 20000 in
theorem ggX9_serve_X4_linkFor : GoodIn wsX9_serve wsX4_linkFor := goodIn_r _ [12, 13, 14, 15, 16, 17, 18, 19, 20, 21, 22, 23, 24, 25, 26, 27, 28, 29, 30, 31, 32, 33, 34, 35, 36, 37, 38, 39, 40, 41, 42, 43, 44, 11, 45, 46, 47, 48, 49, 50, 51, 52, 53, 54, 55, 56, 57, 58, 59, 60, 61, 62, 63, 64, 65, 66, 67, 68, 69, 70, 71, 72, 73, 74, 75, 76, 77, 78, 79, 80, 81, 82, 83, 84, 85, 86, 87, 88, 89, 90, 91, 92, 136, 137, 138, 139, 140, 141, 142, 143, 144, 145, 146, 147, 148] (by decide +kernel) (by decide +kernel)
set_option maxRecDepth 20000 in
theorem gX9_serve_X4_linkFor : GoodIn wsX9_serve (wsV RX9 286 RX4 yX4_linkFor wsX4_linkFor) := goodIn_app (goodIn_of _ (by decide +kernel)) ggX9_serve_X4_linkFor
set_option maxRecDepth 20000 in
theorem ggX9_serve_X3_addLink : GoodIn wsX9_serve wsX3_addLink := goodIn_r _ [97, 98, 99, 123, 124, 125, 126, 127, 128, 129, 130, 131, 132, 133, 134, 135] (by decide +kernel) (by decide +kernel)
set_option maxRecDepth 20000 in
theorem gX9_serve_X3_addLink : GoodIn wsX9_serve (wsV RX9 290 RX3 yX3_addLink wsX3_addLink) := goodIn_app (goodIn_of _ (by decide +kernel)) ggX9_serve_X3_addLink
set_option maxRecDepth 20000 in
theorem ggX9_serve_X5_linkBytes : GoodIn wsX9_serve wsX5_linkBytes := goodIn_r _ [103, 26, 104, 27, 105, 106, 107, 25, 108, 34, 109, 110, 111, 112, 33, 113, 114, 115, 50, 116, 56, 136, 137, 138, 143, 144, 147, 148] (by decide +kernel) (by decide +kernel)
set_option maxRecDepth 20000 in
theorem gX9_serve_X5_linkBytes : GoodIn wsX9_serve (wsV RX9 203 RX5 yX5_linkBytes wsX5_linkBytes) := goodIn_app (goodIn_of _ (by decide +kernel)) ggX9_serve_X5_linkBytes
theorem dX9_serve_0 : decode cX9_serve 0 = .ok (.aload_n 0, 1) := by decide +kernel
theorem dX9_serve_1 : decode cX9_serve 1 = .ok (.getfield 25, 3) := by decide +kernel
theorem dX9_serve_4 : decode cX9_serve 4 = .ok (.aload_n 1, 1) := by decide +kernel
theorem dX9_serve_5 : decode cX9_serve 5 = .ok (.getfield 52, 3) := by decide +kernel
theorem dX9_serve_8 : decode cX9_serve 8 = .ok (.aload_n 1, 1) := by decide +kernel
theorem dX9_serve_9 : decode cX9_serve 9 = .ok (.getfield 170, 3) := by decide +kernel
theorem dX9_serve_12 : decode cX9_serve 12 = .ok (.iconst 1, 1) := by decide +kernel
theorem dX9_serve_13 : decode cX9_serve 13 = .ok (.if_icmp .ne 7, 3) := by decide +kernel
theorem dX9_serve_16 : decode cX9_serve 16 = .ok (.aconst_null, 1) := by decide +kernel
theorem dX9_serve_17 : decode cX9_serve 17 = .ok (.goto 7, 3) := by decide +kernel
theorem dX9_serve_20 : decode cX9_serve 20 = .ok (.aload_n 1, 1) := by decide +kernel
theorem dX9_serve_21 : decode cX9_serve 21 = .ok (.getfield 160, 3) := by decide +kernel
theorem dX9_serve_24 : decode cX9_serve 24 = .ok (.invokevirtual 286, 3) := by decide +kernel
theorem dX9_serve_27 : decode cX9_serve 27 = .ok (.astore_n 2, 1) := by decide +kernel
theorem dX9_serve_28 : decode cX9_serve 28 = .ok (.aload_n 1, 1) := by decide +kernel
theorem dX9_serve_29 : decode cX9_serve 29 = .ok (.aload_n 0, 1) := by decide +kernel
theorem dX9_serve_30 : decode cX9_serve 30 = .ok (.getfield 43, 3) := by decide +kernel
theorem dX9_serve_33 : decode cX9_serve 33 = .ok (.aload_n 2, 1) := by decide +kernel
theorem dX9_serve_34 : decode cX9_serve 34 = .ok (.invokevirtual 290, 3) := by decide +kernel
theorem dX9_serve_37 : decode cX9_serve 37 = .ok (.aload_n 1, 1) := by decide +kernel
theorem dX9_serve_38 : decode cX9_serve 38 = .ok (.dup, 1) := by decide +kernel
theorem dX9_serve_39 : decode cX9_serve 39 = .ok (.getfield 260, 3) := by decide +kernel
theorem dX9_serve_42 : decode cX9_serve 42 = .ok (.aload_n 2, 1) := by decide +kernel
theorem dX9_serve_43 : decode cX9_serve 43 = .ok (.invokevirtual 203, 3) := by decide +kernel
theorem dX9_serve_46 : decode cX9_serve 46 = .ok (.aload_n 1, 1) := by decide +kernel
theorem dX9_serve_47 : decode cX9_serve 47 = .ok (.getfield 294, 3) := by decide +kernel
theorem dX9_serve_50 : decode cX9_serve 50 = .ok (.imul, 1) := by decide +kernel
theorem dX9_serve_51 : decode cX9_serve 51 = .ok (.iadd, 1) := by decide +kernel
theorem dX9_serve_52 : decode cX9_serve 52 = .ok (.putfield 260, 3) := by decide +kernel
theorem dX9_serve_55 : decode cX9_serve 55 = .ok (.return_, 1) := by decide +kernel
theorem dX9_foldIn_0 : decode cX9_foldIn 0 = .ok (.lload_n 0, 1) := by decide +kernel
theorem dX9_foldIn_1 : decode cX9_foldIn 1 = .ok (.iconst 5, 1) := by decide +kernel
theorem dX9_foldIn_2 : decode cX9_foldIn 2 = .ok (.lshl, 1) := by decide +kernel
theorem dX9_foldIn_3 : decode cX9_foldIn 3 = .ok (.lload_n 0, 1) := by decide +kernel
theorem dX9_foldIn_4 : decode cX9_foldIn 4 = .ok (.bipush 59, 2) := by decide +kernel
theorem dX9_foldIn_6 : decode cX9_foldIn 6 = .ok (.lushr, 1) := by decide +kernel
theorem dX9_foldIn_7 : decode cX9_foldIn 7 = .ok (.lor, 1) := by decide +kernel
theorem dX9_foldIn_8 : decode cX9_foldIn 8 = .ok (.iload_n 2, 1) := by decide +kernel
theorem dX9_foldIn_9 : decode cX9_foldIn 9 = .ok (.i2l, 1) := by decide +kernel
theorem dX9_foldIn_10 : decode cX9_foldIn 10 = .ok (.lxor, 1) := by decide +kernel
theorem dX9_foldIn_11 : decode cX9_foldIn 11 = .ok (.lreturn, 1) := by decide +kernel
theorem dJ9_max_7cf53_0 : decode cJ9_max_7cf53 0 = .ok (.iload_n 0, 1) := by decide +kernel
theorem dJ9_max_7cf53_1 : decode cJ9_max_7cf53 1 = .ok (.iload_n 1, 1) := by decide +kernel
theorem dJ9_max_7cf53_2 : decode cJ9_max_7cf53 2 = .ok (.if_icmp .lt 7, 3) := by decide +kernel
theorem dJ9_max_7cf53_5 : decode cJ9_max_7cf53 5 = .ok (.iload_n 0, 1) := by decide +kernel
theorem dJ9_max_7cf53_6 : decode cJ9_max_7cf53 6 = .ok (.goto 4, 3) := by decide +kernel
theorem dJ9_max_7cf53_9 : decode cJ9_max_7cf53 9 = .ok (.iload_n 1, 1) := by decide +kernel
theorem dJ9_max_7cf53_10 : decode cJ9_max_7cf53 10 = .ok (.ireturn, 1) := by decide +kernel
theorem dJ9_min_7cf53_0 : decode cJ9_min_7cf53 0 = .ok (.iload_n 0, 1) := by decide +kernel
theorem dJ9_min_7cf53_1 : decode cJ9_min_7cf53 1 = .ok (.iload_n 1, 1) := by decide +kernel
theorem dJ9_min_7cf53_2 : decode cJ9_min_7cf53 2 = .ok (.if_icmp .gt 7, 3) := by decide +kernel
theorem dJ9_min_7cf53_5 : decode cJ9_min_7cf53 5 = .ok (.iload_n 0, 1) := by decide +kernel
theorem dJ9_min_7cf53_6 : decode cJ9_min_7cf53 6 = .ok (.goto 4, 3) := by decide +kernel
theorem dJ9_min_7cf53_9 : decode cJ9_min_7cf53 9 = .ok (.iload_n 1, 1) := by decide +kernel
theorem dJ9_min_7cf53_10 : decode cJ9_min_7cf53 10 = .ok (.ireturn, 1) := by decide +kernel
