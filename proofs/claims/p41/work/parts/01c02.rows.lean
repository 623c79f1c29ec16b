theorem dX8_minutesFor_21 : decode cX8_minutesFor 21 = .ok (.iconst 1, 1) := by decide +kernel
theorem dX8_minutesFor_22 : decode cX8_minutesFor 22 = .ok (.invokestatic 25, 3) := by decide +kernel
theorem dX8_minutesFor_25 : decode cX8_minutesFor 25 = .ok (.i2f, 1) := by decide +kernel
theorem dX8_minutesFor_26 : decode cX8_minutesFor 26 = .ok (.fdiv, 1) := by decide +kernel
theorem dX8_minutesFor_27 : decode cX8_minutesFor 27 = .ok (.fadd, 1) := by decide +kernel
theorem dX8_minutesFor_28 : decode cX8_minutesFor 28 = .ok (.freturn, 1) := by decide +kernel
set_option maxRecDepth 20000 in
theorem ggX9_init_X7_init : GoodIn wsX9_init wsX7_init := goodIn_r _ [26, 27, 2, 3, 28, 29, 30, 82, 83, 84] (by decide +kernel) (by decide +kernel)
set_option maxRecDepth 20000 in
theorem gX9_init_X7_init_n17 : GoodIn wsX9_init (wsX7_init) := ggX9_init_X7_init
set_option maxRecDepth 20000 in
theorem ggX9_init_X4_init : GoodIn wsX9_init wsX4_init := goodIn_r _ [32, 33, 2, 3, 34, 35, 85, 86] (by decide +kernel) (by decide +kernel)
set_option maxRecDepth 20000 in
theorem gX9_init_X4_init_n24 : GoodIn wsX9_init (wsX4_init) := ggX9_init_X4_init
set_option maxRecDepth 20000 in
theorem ggX9_init_X6_init : GoodIn wsX9_init wsX6_init := goodIn_r _ [37, 38, 2, 3, 39, 40, 41, 42, 87, 88, 89] (by decide +kernel) (by decide +kernel)
set_option maxRecDepth 20000 in
theorem gX9_init_X6_init_n31 : GoodIn wsX9_init (wsX6_init) := ggX9_init_X6_init
set_option maxRecDepth 20000 in
theorem ggX9_init_X8_init : GoodIn wsX9_init wsX8_init := goodIn_r _ [44, 45, 2, 3, 46, 47, 90, 91] (by decide +kernel) (by decide +kernel)
set_option maxRecDepth 20000 in
theorem gX9_init_X8_init_n38 : GoodIn wsX9_init (wsX8_init) := ggX9_init_X8_init
set_option maxRecDepth 20000 in
theorem ggX9_init_X3_init : GoodIn wsX9_init wsX3_init := goodIn_r _ [49, 50, 2, 3, 51, 52, 53, 54, 55, 56, 57, 58, 59, 60, 61, 62, 63, 64, 65, 66, 67, 68, 69, 70, 71, 72, 73, 74, 75, 105, 106, 107, 108, 92, 93, 94, 95, 96, 97, 98, 99, 100, 101, 102, 103, 104] (by decide +kernel) (by decide +kernel)
set_option maxRecDepth 20000 in
theorem gX9_init_X3_init_n47 : GoodIn wsX9_init (wsX3_init) := ggX9_init_X3_init
theorem dX9_init_0 : decode cX9_init 0 = .ok (.aload_n 0, 1) := by decide +kernel
theorem dX9_init_1 : decode cX9_init 1 = .ok (.invokespecial 1, 3) := by decide +kernel
theorem dX9_init_4 : decode cX9_init 4 = .ok (.aload_n 0, 1) := by decide +kernel
theorem dX9_init_5 : decode cX9_init 5 = .ok (.iconst 4, 1) := by decide +kernel
theorem dX9_init_6 : decode cX9_init 6 = .ok (.anewarray 9, 3) := by decide +kernel
theorem dX9_init_9 : decode cX9_init 9 = .ok (.putfield 11, 3) := by decide +kernel
theorem dX9_init_12 : decode cX9_init 12 = .ok (.aload_n 0, 1) := by decide +kernel
theorem dX9_init_13 : decode cX9_init 13 = .ok (.new 15, 3) := by decide +kernel
theorem dX9_init_16 : decode cX9_init 16 = .ok (.dup, 1) := by decide +kernel
theorem dX9_init_17 : decode cX9_init 17 = .ok (.invokespecial 17, 3) := by decide +kernel
theorem dX9_init_20 : decode cX9_init 20 = .ok (.putfield 18, 3) := by decide +kernel
theorem dX9_init_23 : decode cX9_init 23 = .ok (.aload_n 0, 1) := by decide +kernel
theorem dX9_init_24 : decode cX9_init 24 = .ok (.new 22, 3) := by decide +kernel
theorem dX9_init_27 : decode cX9_init 27 = .ok (.dup, 1) := by decide +kernel
theorem dX9_init_28 : decode cX9_init 28 = .ok (.invokespecial 24, 3) := by decide +kernel
theorem dX9_init_31 : decode cX9_init 31 = .ok (.putfield 25, 3) := by decide +kernel
theorem dX9_init_34 : decode cX9_init 34 = .ok (.aload_n 0, 1) := by decide +kernel
theorem dX9_init_35 : decode cX9_init 35 = .ok (.new 29, 3) := by decide +kernel
theorem dX9_init_38 : decode cX9_init 38 = .ok (.dup, 1) := by decide +kernel
theorem dX9_init_39 : decode cX9_init 39 = .ok (.invokespecial 31, 3) := by decide +kernel
theorem dX9_init_42 : decode cX9_init 42 = .ok (.putfield 32, 3) := by decide +kernel
theorem dX9_init_45 : decode cX9_init 45 = .ok (.aload_n 0, 1) := by decide +kernel
theorem dX9_init_46 : decode cX9_init 46 = .ok (.new 36, 3) := by decide +kernel
theorem dX9_init_49 : decode cX9_init 49 = .ok (.dup, 1) := by decide +kernel
theorem dX9_init_50 : decode cX9_init 50 = .ok (.invokespecial 38, 3) := by decide +kernel
theorem dX9_init_53 : decode cX9_init 53 = .ok (.putfield 39, 3) := by decide +kernel
theorem dX9_init_56 : decode cX9_init 56 = .ok (.aload_n 0, 1) := by decide +kernel
theorem dX9_init_57 : decode cX9_init 57 = .ok (.iconst 0, 1) := by decide +kernel
theorem dX9_init_58 : decode cX9_init 58 = .ok (.putfield 43, 3) := by decide +kernel
theorem dX9_init_61 : decode cX9_init 61 = .ok (.iconst 0, 1) := by decide +kernel
theorem dX9_init_62 : decode cX9_init 62 = .ok (.istore_n 1, 1) := by decide +kernel
theorem dX9_init_63 : decode cX9_init 63 = .ok (.iload_n 1, 1) := by decide +kernel
theorem dX9_init_64 : decode cX9_init 64 = .ok (.aload_n 0, 1) := by decide +kernel
theorem dX9_init_65 : decode cX9_init 65 = .ok (.getfield 11, 3) := by decide +kernel
theorem dX9_init_68 : decode cX9_init 68 = .ok (.arraylength, 1) := by decide +kernel
theorem dX9_init_69 : decode cX9_init 69 = .ok (.if_icmp .ge 22, 3) := by decide +kernel
theorem dX9_init_72 : decode cX9_init 72 = .ok (.aload_n 0, 1) := by decide +kernel
theorem dX9_init_73 : decode cX9_init 73 = .ok (.getfield 11, 3) := by decide +kernel
theorem dX9_init_76 : decode cX9_init 76 = .ok (.iload_n 1, 1) := by decide +kernel
theorem dX9_init_77 : decode cX9_init 77 = .ok (.new 9, 3) := by decide +kernel
theorem dX9_init_80 : decode cX9_init 80 = .ok (.dup, 1) := by decide +kernel
theorem dX9_init_81 : decode cX9_init 81 = .ok (.invokespecial 47, 3) := by decide +kernel
theorem dX9_init_84 : decode cX9_init 84 = .ok (.aastore, 1) := by decide +kernel
theorem dX9_init_85 : decode cX9_init 85 = .ok (.iinc 1 1, 3) := by decide +kernel
theorem dX9_init_88 : decode cX9_init 88 = .ok (.goto (-25), 3) := by decide +kernel
theorem dX9_init_91 : decode cX9_init 91 = .ok (.return_, 1) := by decide +kernel
set_option maxRecDepth 20000 in
theorem ggX9_put_X9_clientOf : GoodIn wsX9_put wsX9_clientOf := goodIn_ca (goodIn_r _ [11, 12, 13, 14, 46, 47, 48, 49, 50, 51] (by decide +kernel) (by decide +kernel)) (goodIn_sub (fun _ h => List.mem_cons_of_mem _ (List.mem_append_right _ h)) (by decide +kernel))
set_option maxRecDepth 20000 in
theorem gX9_put_X9_clientOf : GoodIn wsX9_put (wsV RX9 48 RX9 yX9_clientOf wsX9_clientOf) := goodIn_app (goodIn_of _ (by decide +kernel)) ggX9_put_X9_clientOf
set_option maxRecDepth 20000 in
theorem ggX9_put_X9_needRange : GoodIn wsX9_put wsX9_needRange := goodIn_ca (goodIn_r _ [17, 12, 13] (by decide +kernel) (by decide +kernel)) (goodIn_sub (fun _ h => List.mem_cons_of_mem _ (List.mem_append_right _ h)) (by decide +kernel))
set_option maxRecDepth 20000 in
theorem gX9_put_X9_needRange : GoodIn wsX9_put (va_wsS RX9 56 yX9_needRange wsX9_needRange) := goodIn_app (goodIn_of _ (by decide +kernel)) ggX9_put_X9_needRange
set_option maxRecDepth 20000 in
theorem ggX9_put_X0_hasSpaceFor : GoodIn wsX9_put wsX0_hasSpaceFor := goodIn_r _ [22, 23, 24, 42, 43, 44, 45] (by decide +kernel) (by decide +kernel)
set_option maxRecDepth 20000 in
theorem gX9_put_X0_hasSpaceFor : GoodIn wsX9_put (wsV RX9 72 RX0 yX0_hasSpaceFor wsX0_hasSpaceFor) := goodIn_app (goodIn_of _ (by decide +kernel)) ggX9_put_X0_hasSpaceFor
set_option maxRecDepth 20000 in
theorem ggX9_put_X0_insert : GoodIn wsX9_put wsX0_insert := goodIn_r _ [28, 24, 23, 42, 43, 44, 45] (by decide +kernel) (by decide +kernel)
set_option maxRecDepth 20000 in
theorem gX9_put_X0_insert : GoodIn wsX9_put (wsV RX9 81 RX0 yX0_insert wsX0_insert) := goodIn_app (goodIn_of _ (by decide +kernel)) ggX9_put_X0_insert
theorem dX9_put_0 : decode cX9_put 0 = .ok (.aload_n 0, 1) := by decide +kernel
theorem dX9_put_1 : decode cX9_put 1 = .ok (.iload_n 1, 1) := by decide +kernel
theorem dX9_put_2 : decode cX9_put 2 = .ok (.invokevirtual 48, 3) := by decide +kernel
theorem dX9_put_5 : decode cX9_put 5 = .ok (.getfield 52, 3) := by decide +kernel
theorem dX9_put_8 : decode cX9_put 8 = .ok (.astore 4, 2) := by decide +kernel
theorem dX9_put_10 : decode cX9_put 10 = .ok (.iload_n 3, 1) := by decide +kernel
theorem dX9_put_11 : decode cX9_put 11 = .ok (.iconst 0, 1) := by decide +kernel
theorem dX9_put_12 : decode cX9_put 12 = .ok (.sipush 255, 3) := by decide +kernel
theorem dX9_put_15 : decode cX9_put 15 = .ok (.invokestatic 56, 3) := by decide +kernel
theorem dX9_put_18 : decode cX9_put 18 = .ok (.iload_n 2, 1) := by decide +kernel
theorem dX9_put_19 : decode cX9_put 19 = .ok (.ifCond .lt 12, 3) := by decide +kernel
theorem dX9_put_22 : decode cX9_put 22 = .ok (.iload_n 2, 1) := by decide +kernel
theorem dX9_put_23 : decode cX9_put 23 = .ok (.aload 4, 2) := by decide +kernel
theorem dX9_put_25 : decode cX9_put 25 = .ok (.getfield 60, 3) := by decide +kernel
theorem dX9_put_28 : decode cX9_put 28 = .ok (.if_icmp .le 13, 3) := by decide +kernel
theorem dX9_put_31 : decode cX9_put 31 = .ok (.new 65, 3) := by decide +kernel
theorem dX9_put_34 : decode cX9_put 34 = .ok (.dup, 1) := by decide +kernel
theorem dX9_put_35 : decode cX9_put 35 = .ok (.ldc 67, 2) := by decide +kernel
theorem dX9_put_37 : decode cX9_put 37 = .ok (.invokespecial 69, 3) := by decide +kernel
theorem dX9_put_40 : decode cX9_put 40 = .ok (.athrow, 1) := by decide +kernel
theorem dX9_put_41 : decode cX9_put 41 = .ok (.aload 4, 2) := by decide +kernel
theorem dX9_put_43 : decode cX9_put 43 = .ok (.iconst 1, 1) := by decide +kernel
theorem dX9_put_44 : decode cX9_put 44 = .ok (.invokevirtual 72, 3) := by decide +kernel
theorem dX9_put_47 : decode cX9_put 47 = .ok (.ifCond .ne 13, 3) := by decide +kernel
theorem dX9_put_50 : decode cX9_put 50 = .ok (.new 76, 3) := by decide +kernel
theorem dX9_put_53 : decode cX9_put 53 = .ok (.dup, 1) := by decide +kernel
theorem dX9_put_54 : decode cX9_put 54 = .ok (.ldc 78, 2) := by decide +kernel
theorem dX9_put_56 : decode cX9_put 56 = .ok (.invokespecial 80, 3) := by decide +kernel
theorem dX9_put_59 : decode cX9_put 59 = .ok (.athrow, 1) := by decide +kernel
theorem dX9_put_60 : decode cX9_put 60 = .ok (.aload 4, 2) := by decide +kernel
theorem dX9_put_62 : decode cX9_put 62 = .ok (.iload_n 2, 1) := by decide +kernel
theorem dX9_put_63 : decode cX9_put 63 = .ok (.iload_n 3, 1) := by decide +kernel
theorem dX9_put_64 : decode cX9_put 64 = .ok (.invokevirtual 81, 3) := by decide +kernel
theorem dX9_put_67 : decode cX9_put 67 = .ok (.aload 4, 2) := by decide +kernel
theorem dX9_put_69 : decode cX9_put 69 = .ok (.getfield 60, 3) := by decide +kernel
theorem dX9_put_72 : decode cX9_put 72 = .ok (.ireturn, 1) := by decide +kernel
set_option maxRecDepth 20000 in
theorem ggX9_set_X9_clientOf : GoodIn wsX9_set wsX9_clientOf := goodIn_ca (goodIn_r _ [6, 7, 8, 9, 42, 43, 44, 45, 46, 47] (by decide +kernel) (by decide +kernel)) (goodIn_sub (fun _ h => List.mem_cons_of_mem _ (List.mem_append_left _ (List.mem_append_right _ h))) (by decide +kernel))
set_option maxRecDepth 20000 in
theorem gX9_set_X9_clientOf : GoodIn wsX9_set (wsV RX9 48 RX9 yX9_clientOf wsX9_clientOf) := goodIn_app (goodIn_of _ (by decide +kernel)) ggX9_set_X9_clientOf
set_option maxRecDepth 20000 in
theorem ggX9_set_X9_needRange : GoodIn wsX9_set wsX9_needRange := goodIn_ca (goodIn_r _ [12, 7, 8] (by decide +kernel) (by decide +kernel)) (goodIn_sub (fun _ h => List.mem_cons_of_mem _ (List.mem_append_left _ (List.mem_append_right _ h))) (by decide +kernel))
set_option maxRecDepth 20000 in
theorem gX9_set_X9_needRange : GoodIn wsX9_set (va_wsS RX9 56 yX9_needRange wsX9_needRange) := goodIn_app (goodIn_of _ (by decide +kernel)) ggX9_set_X9_needRange
set_option maxRecDepth 20000 in
theorem ggX9_set_X9_needByte : GoodIn wsX9_set wsX9_needByte := goodIn_ca (goodIn_r _ [15, 16, 17, 18, 48, 49, 50, 51] (by decide +kernel) (by decide +kernel)) (goodIn_sub (fun _ h => List.mem_cons_of_mem _ (List.mem_append_right _ h)) (by decide +kernel))
set_option maxRecDepth 20000 in
theorem gX9_set_X9_needByte : GoodIn wsX9_set (va_wsS RX9 85 yX9_needByte wsX9_needByte) := goodIn_app (goodIn_of _ (by decide +kernel)) ggX9_set_X9_needByte
set_option maxRecDepth 20000 in
theorem ggX9_set_X0_replace : GoodIn wsX9_set wsX0_replace := goodIn_r _ [23, 24, 25, 26, 27, 22, 28, 48, 49, 50, 51] (by decide +kernel) (by decide +kernel)
set_option maxRecDepth 20000 in
theorem gX9_set_X0_replace : GoodIn wsX9_set (wsV RX9 89 RX0 yX0_replace wsX0_replace) := goodIn_app (goodIn_of _ (by decide +kernel)) ggX9_set_X0_replace
theorem dX9_set_0 : decode cX9_set 0 = .ok (.aload_n 0, 1) := by decide +kernel
theorem dX9_set_1 : decode cX9_set 1 = .ok (.iload_n 1, 1) := by decide +kernel
theorem dX9_set_2 : decode cX9_set 2 = .ok (.invokevirtual 48, 3) := by decide +kernel
theorem dX9_set_5 : decode cX9_set 5 = .ok (.getfield 52, 3) := by decide +kernel
theorem dX9_set_8 : decode cX9_set 8 = .ok (.astore 4, 2) := by decide +kernel
theorem dX9_set_10 : decode cX9_set 10 = .ok (.iload_n 3, 1) := by decide +kernel
theorem dX9_set_11 : decode cX9_set 11 = .ok (.iconst 0, 1) := by decide +kernel
theorem dX9_set_12 : decode cX9_set 12 = .ok (.sipush 255, 3) := by decide +kernel
theorem dX9_set_15 : decode cX9_set 15 = .ok (.invokestatic 56, 3) := by decide +kernel
theorem dX9_set_18 : decode cX9_set 18 = .ok (.aload 4, 2) := by decide +kernel
theorem dX9_set_20 : decode cX9_set 20 = .ok (.iload_n 2, 1) := by decide +kernel
theorem dX9_set_21 : decode cX9_set 21 = .ok (.invokestatic 85, 3) := by decide +kernel
theorem dX9_set_24 : decode cX9_set 24 = .ok (.aload 4, 2) := by decide +kernel
theorem dX9_set_26 : decode cX9_set 26 = .ok (.iload_n 2, 1) := by decide +kernel
theorem dX9_set_27 : decode cX9_set 27 = .ok (.iload_n 3, 1) := by decide +kernel
theorem dX9_set_28 : decode cX9_set 28 = .ok (.invokevirtual 89, 3) := by decide +kernel
theorem dX9_set_31 : decode cX9_set 31 = .ok (.ireturn, 1) := by decide +kernel
set_option maxRecDepth 20000 in
theorem ggX9_cut_X9_clientOf : GoodIn wsX9_cut wsX9_clientOf := goodIn_ca (goodIn_r _ [7, 8, 9, 10, 49, 50, 51, 52, 53, 54] (by decide +kernel) (by decide +kernel)) (goodIn_sub (fun _ h => List.mem_cons_of_mem _ (List.mem_append_left _ (List.mem_append_right _ h))) (by decide +kernel))
set_option maxRecDepth 20000 in
theorem gX9_cut_X9_clientOf : GoodIn wsX9_cut (wsV RX9 48 RX9 yX9_clientOf wsX9_clientOf) := goodIn_app (goodIn_of _ (by decide +kernel)) ggX9_cut_X9_clientOf
set_option maxRecDepth 20000 in
theorem ggX9_cut_X9_needRun : GoodIn wsX9_cut wsX9_needRun := goodIn_ca (goodIn_r _ [13, 14, 15, 16, 17, 18, 19, 20, 21, 45, 46, 47, 48] (by decide +kernel) (by decide +kernel)) (goodIn_sub (fun _ h => List.mem_cons_of_mem _ (List.mem_append_right _ h)) (by decide +kernel))
set_option maxRecDepth 20000 in
theorem gX9_cut_X9_needRun : GoodIn wsX9_cut (va_wsS RX9 93 yX9_needRun wsX9_needRun) := goodIn_app (goodIn_of _ (by decide +kernel)) ggX9_cut_X9_needRun
set_option maxRecDepth 20000 in
theorem ggX9_cut_X0_remove : GoodIn wsX9_cut wsX0_remove := goodIn_r _ [25, 21, 26, 27, 17, 18, 19, 20, 28, 29, 30, 31, 45, 46, 47, 48] (by decide +kernel) (by decide +kernel)
set_option maxRecDepth 20000 in
theorem gX9_cut_X0_remove : GoodIn wsX9_cut (wsV RX9 97 RX0 yX0_remove wsX0_remove) := goodIn_app (goodIn_of _ (by decide +kernel)) ggX9_cut_X0_remove
theorem dX9_cut_0 : decode cX9_cut 0 = .ok (.aload_n 0, 1) := by decide +kernel
theorem dX9_cut_1 : decode cX9_cut 1 = .ok (.iload_n 1, 1) := by decide +kernel
theorem dX9_cut_2 : decode cX9_cut 2 = .ok (.invokevirtual 48, 3) := by decide +kernel
theorem dX9_cut_5 : decode cX9_cut 5 = .ok (.getfield 52, 3) := by decide +kernel
theorem dX9_cut_8 : decode cX9_cut 8 = .ok (.astore 4, 2) := by decide +kernel
theorem dX9_cut_10 : decode cX9_cut 10 = .ok (.aload 4, 2) := by decide +kernel
theorem dX9_cut_12 : decode cX9_cut 12 = .ok (.iload_n 2, 1) := by decide +kernel
theorem dX9_cut_13 : decode cX9_cut 13 = .ok (.iload_n 3, 1) := by decide +kernel
theorem dX9_cut_14 : decode cX9_cut 14 = .ok (.invokestatic 93, 3) := by decide +kernel
theorem dX9_cut_17 : decode cX9_cut 17 = .ok (.aload 4, 2) := by decide +kernel
theorem dX9_cut_19 : decode cX9_cut 19 = .ok (.iload_n 2, 1) := by decide +kernel
theorem dX9_cut_20 : decode cX9_cut 20 = .ok (.iload_n 3, 1) := by decide +kernel
theorem dX9_cut_21 : decode cX9_cut 21 = .ok (.invokevirtual 97, 3) := by decide +kernel
theorem dX9_cut_24 : decode cX9_cut 24 = .ok (.aload 4, 2) := by decide +kernel
theorem dX9_cut_26 : decode cX9_cut 26 = .ok (.getfield 60, 3) := by decide +kernel
theorem dX9_cut_29 : decode cX9_cut 29 = .ok (.ireturn, 1) := by decide +kernel
set_option maxRecDepth 20000 in
theorem ggX9_copy_X9_clientOf : GoodIn wsX9_copy wsX9_clientOf := goodIn_ca (goodIn_r _ [9, 10, 11, 12, 54, 55, 56, 57, 58, 59] (by decide +kernel) (by decide +kernel)) (goodIn_sub (fun _ h => List.mem_cons_of_mem _ (List.mem_append_left _ (List.mem_append_right _ h))) (by decide +kernel))
set_option maxRecDepth 20000 in
theorem gX9_copy_X9_clientOf : GoodIn wsX9_copy (wsV RX9 48 RX9 yX9_clientOf wsX9_clientOf) := goodIn_app (goodIn_of _ (by decide +kernel)) ggX9_copy_X9_clientOf
set_option maxRecDepth 20000 in
theorem ggX9_copy_X9_needRun : GoodIn wsX9_copy wsX9_needRun := goodIn_ca (goodIn_r _ [15, 16, 17, 18, 19, 20, 21, 22, 23, 50, 51, 52, 53] (by decide +kernel) (by decide +kernel)) (goodIn_sub (fun _ h => List.mem_cons_of_mem _ (List.mem_append_right _ h)) (by decide +kernel))
set_option maxRecDepth 20000 in
theorem gX9_copy_X9_needRun : GoodIn wsX9_copy (va_wsS RX9 93 yX9_needRun wsX9_needRun) := goodIn_app (goodIn_of _ (by decide +kernel)) ggX9_copy_X9_needRun
set_option maxRecDepth 20000 in
theorem ggX9_copy_X0_hasSpaceFor : GoodIn wsX9_copy wsX0_hasSpaceFor := goodIn_r _ [27, 28, 23, 50, 51, 52, 53] (by decide +kernel) (by decide +kernel)
set_option maxRecDepth 20000 in
theorem gX9_copy_X0_hasSpaceFor : GoodIn wsX9_copy (wsV RX9 72 RX0 yX0_hasSpaceFor wsX0_hasSpaceFor) := goodIn_app (goodIn_of _ (by decide +kernel)) ggX9_copy_X0_hasSpaceFor
set_option maxRecDepth 20000 in
theorem ggX9_copy_X0_append : GoodIn wsX9_copy wsX0_append := goodIn_r _ [32, 23, 28, 33, 34, 35, 21, 36, 50, 51, 52, 53] (by decide +kernel) (by decide +kernel)
set_option maxRecDepth 20000 in
theorem gX9_copy_X0_append : GoodIn wsX9_copy (wsV RX9 102 RX0 yX0_append wsX0_append) := goodIn_app (goodIn_of _ (by decide +kernel)) ggX9_copy_X0_append
theorem dX9_copy_0 : decode cX9_copy 0 = .ok (.aload_n 0, 1) := by decide +kernel
theorem dX9_copy_1 : decode cX9_copy 1 = .ok (.iload_n 1, 1) := by decide +kernel
theorem dX9_copy_2 : decode cX9_copy 2 = .ok (.invokevirtual 48, 3) := by decide +kernel
theorem dX9_copy_5 : decode cX9_copy 5 = .ok (.getfield 52, 3) := by decide +kernel
theorem dX9_copy_8 : decode cX9_copy 8 = .ok (.astore 5, 2) := by decide +kernel
theorem dX9_copy_10 : decode cX9_copy 10 = .ok (.aload_n 0, 1) := by decide +kernel
theorem dX9_copy_11 : decode cX9_copy 11 = .ok (.iload 4, 2) := by decide +kernel
theorem dX9_copy_13 : decode cX9_copy 13 = .ok (.invokevirtual 48, 3) := by decide +kernel
theorem dX9_copy_16 : decode cX9_copy 16 = .ok (.getfield 52, 3) := by decide +kernel
theorem dX9_copy_19 : decode cX9_copy 19 = .ok (.astore 6, 2) := by decide +kernel
theorem dX9_copy_21 : decode cX9_copy 21 = .ok (.aload 5, 2) := by decide +kernel
theorem dX9_copy_23 : decode cX9_copy 23 = .ok (.iload_n 2, 1) := by decide +kernel
theorem dX9_copy_24 : decode cX9_copy 24 = .ok (.iload_n 3, 1) := by decide +kernel
theorem dX9_copy_25 : decode cX9_copy 25 = .ok (.invokestatic 93, 3) := by decide +kernel
theorem dX9_copy_28 : decode cX9_copy 28 = .ok (.aload 6, 2) := by decide +kernel
theorem dX9_copy_30 : decode cX9_copy 30 = .ok (.iload_n 3, 1) := by decide +kernel
theorem dX9_copy_31 : decode cX9_copy 31 = .ok (.invokevirtual 72, 3) := by decide +kernel
theorem dX9_copy_34 : decode cX9_copy 34 = .ok (.ifCond .ne 13, 3) := by decide +kernel
theorem dX9_copy_37 : decode cX9_copy 37 = .ok (.new 76, 3) := by decide +kernel
theorem dX9_copy_40 : decode cX9_copy 40 = .ok (.dup, 1) := by decide +kernel
theorem dX9_copy_41 : decode cX9_copy 41 = .ok (.ldc 100, 2) := by decide +kernel
theorem dX9_copy_43 : decode cX9_copy 43 = .ok (.invokespecial 80, 3) := by decide +kernel
theorem dX9_copy_46 : decode cX9_copy 46 = .ok (.athrow, 1) := by decide +kernel
theorem dX9_copy_47 : decode cX9_copy 47 = .ok (.aload 6, 2) := by decide +kernel
theorem dX9_copy_49 : decode cX9_copy 49 = .ok (.aload 5, 2) := by decide +kernel
theorem dX9_copy_51 : decode cX9_copy 51 = .ok (.iload_n 2, 1) := by decide +kernel
theorem dX9_copy_52 : decode cX9_copy 52 = .ok (.iload_n 3, 1) := by decide +kernel
theorem dX9_copy_53 : decode cX9_copy 53 = .ok (.invokevirtual 102, 3) := by decide +kernel
theorem dX9_copy_56 : decode cX9_copy 56 = .ok (.aload 6, 2) := by decide +kernel
theorem dX9_copy_58 : decode cX9_copy 58 = .ok (.getfield 60, 3) := by decide +kernel
theorem dX9_copy_61 : decode cX9_copy 61 = .ok (.ireturn, 1) := by decide +kernel
set_option maxRecDepth 20000 in
theorem ggX9_length_X9_clientOf : GoodIn wsX9_length wsX9_clientOf := goodIn_ca (goodIn_r _ [7, 8, 9, 10, 28, 29, 30, 31, 32, 33] (by decide +kernel) (by decide +kernel)) (goodIn_sub (fun _ h => List.mem_cons_of_mem _ (List.mem_append_right _ h)) (by decide +kernel))
set_option maxRecDepth 20000 in
theorem gX9_length_X9_clientOf : GoodIn wsX9_length (wsV RX9 48 RX9 yX9_clientOf wsX9_clientOf) := goodIn_app (goodIn_of _ (by decide +kernel)) ggX9_length_X9_clientOf
theorem dX9_length_0 : decode cX9_length 0 = .ok (.aload_n 0, 1) := by decide +kernel
theorem dX9_length_1 : decode cX9_length 1 = .ok (.iload_n 1, 1) := by decide +kernel
theorem dX9_length_2 : decode cX9_length 2 = .ok (.invokevirtual 48, 3) := by decide +kernel
theorem dX9_length_5 : decode cX9_length 5 = .ok (.getfield 52, 3) := by decide +kernel
theorem dX9_length_8 : decode cX9_length 8 = .ok (.getfield 60, 3) := by decide +kernel
theorem dX9_length_11 : decode cX9_length 11 = .ok (.ireturn, 1) := by decide +kernel
set_option maxRecDepth 20000 in
theorem ggX9_at_X9_clientOf : GoodIn wsX9_at wsX9_clientOf := goodIn_ca (goodIn_r _ [6, 7, 8, 9, 35, 36, 37, 38, 39, 40] (by decide +kernel) (by decide +kernel)) (goodIn_sub (fun _ h => List.mem_cons_of_mem _ (List.mem_append_left _ (List.mem_append_right _ h))) (by decide +kernel))
set_option maxRecDepth 20000 in
theorem gX9_at_X9_clientOf : GoodIn wsX9_at (wsV RX9 48 RX9 yX9_clientOf wsX9_clientOf) := goodIn_app (goodIn_of _ (by decide +kernel)) ggX9_at_X9_clientOf
set_option maxRecDepth 20000 in
theorem ggX9_at_X9_needByte : GoodIn wsX9_at wsX9_needByte := goodIn_ca (goodIn_r _ [12, 13, 14, 15, 41, 42, 43, 44] (by decide +kernel) (by decide +kernel)) (goodIn_sub (fun _ h => List.mem_cons_of_mem _ (List.mem_append_right _ h)) (by decide +kernel))
set_option maxRecDepth 20000 in
theorem gX9_at_X9_needByte : GoodIn wsX9_at (va_wsS RX9 85 yX9_needByte wsX9_needByte) := goodIn_app (goodIn_of _ (by decide +kernel)) ggX9_at_X9_needByte
set_option maxRecDepth 20000 in
theorem ggX9_at_X0_byteAt : GoodIn wsX9_at wsX0_byteAt := goodIn_r _ [20, 21, 41, 42, 43, 44] (by decide +kernel) (by decide +kernel)
set_option maxRecDepth 20000 in
theorem gX9_at_X0_byteAt : GoodIn wsX9_at (wsV RX9 105 RX0 yX0_byteAt wsX0_byteAt) := goodIn_app (goodIn_of _ (by decide +kernel)) ggX9_at_X0_byteAt
theorem dX9_at_0 : decode cX9_at 0 = .ok (.aload_n 0, 1) := by decide +kernel
theorem dX9_at_1 : decode cX9_at 1 = .ok (.iload_n 1, 1) := by decide +kernel
theorem dX9_at_2 : decode cX9_at 2 = .ok (.invokevirtual 48, 3) := by decide +kernel
theorem dX9_at_5 : decode cX9_at 5 = .ok (.getfield 52, 3) := by decide +kernel
theorem dX9_at_8 : decode cX9_at 8 = .ok (.astore_n 3, 1) := by decide +kernel
theorem dX9_at_9 : decode cX9_at 9 = .ok (.aload_n 3, 1) := by decide +kernel
theorem dX9_at_10 : decode cX9_at 10 = .ok (.iload_n 2, 1) := by decide +kernel
theorem dX9_at_11 : decode cX9_at 11 = .ok (.invokestatic 85, 3) := by decide +kernel
theorem dX9_at_14 : decode cX9_at 14 = .ok (.aload_n 3, 1) := by decide +kernel
theorem dX9_at_15 : decode cX9_at 15 = .ok (.iload_n 2, 1) := by decide +kernel
theorem dX9_at_16 : decode cX9_at 16 = .ok (.invokevirtual 105, 3) := by decide +kernel
theorem dX9_at_19 : decode cX9_at 19 = .ok (.ireturn, 1) := by decide +kernel
set_option maxRecDepth 20000 in
theorem ggX9_digest_X9_clientOf : GoodIn wsX9_digest wsX9_clientOf := goodIn_ca (goodIn_r _ [6, 7, 8, 9, 36, 37, 38, 39, 40, 41] (by decide +kernel) (by decide +kernel)) (goodIn_sub (fun _ h => List.mem_cons_of_mem _ (List.mem_append_right _ h)) (by decide +kernel))
set_option maxRecDepth 20000 in
theorem gX9_digest_X9_clientOf : GoodIn wsX9_digest (wsV RX9 48 RX9 yX9_clientOf wsX9_clientOf) := goodIn_app (goodIn_of _ (by decide +kernel)) ggX9_digest_X9_clientOf
set_option maxRecDepth 20000 in
theorem ggX9_digest_X0_fingerprint : GoodIn wsX9_digest wsX0_fingerprint := goodIn_r _ [14, 15, 16, 17, 18, 13, 19, 20, 21, 5, 22, 42, 43, 44, 45] (by decide +kernel) (by decide +kernel)
set_option maxRecDepth 20000 in
theorem gX9_digest_X0_fingerprint : GoodIn wsX9_digest (wsV RX9 109 RX0 yX0_fingerprint wsX0_fingerprint) := goodIn_app (goodIn_of _ (by decide +kernel)) ggX9_digest_X0_fingerprint
theorem dX9_digest_0 : decode cX9_digest 0 = .ok (.aload_n 0, 1) := by decide +kernel
theorem dX9_digest_1 : decode cX9_digest 1 = .ok (.iload_n 1, 1) := by decide +kernel
theorem dX9_digest_2 : decode cX9_digest 2 = .ok (.invokevirtual 48, 3) := by decide +kernel
theorem dX9_digest_5 : decode cX9_digest 5 = .ok (.getfield 52, 3) := by decide +kernel
theorem dX9_digest_8 : decode cX9_digest 8 = .ok (.invokevirtual 109, 3) := by decide +kernel
theorem dX9_digest_11 : decode cX9_digest 11 = .ok (.lreturn, 1) := by decide +kernel
set_option maxRecDepth 20000 in
theorem ggX9_setMarks_X9_needRange : GoodIn wsX9_setMarks wsX9_needRange := goodIn_ca (goodIn_r _ [8, 9, 10] (by decide +kernel) (by decide +kernel)) (goodIn_sub (fun _ h => List.mem_cons_of_mem _ (List.mem_append_right _ h)) (by decide +kernel))
set_option maxRecDepth 20000 in
theorem gX9_setMarks_X9_needRange : GoodIn wsX9_setMarks (va_wsS RX9 56 yX9_needRange wsX9_needRange) := goodIn_app (goodIn_of _ (by decide +kernel)) ggX9_setMarks_X9_needRange
theorem dX9_setMarks_0 : decode cX9_setMarks 0 = .ok (.iload_n 1, 1) := by decide +kernel
theorem dX9_setMarks_1 : decode cX9_setMarks 1 = .ok (.iconst 0, 1) := by decide +kernel
theorem dX9_setMarks_2 : decode cX9_setMarks 2 = .ok (.bipush 8, 2) := by decide +kernel
theorem dX9_setMarks_4 : decode cX9_setMarks 4 = .ok (.invokestatic 56, 3) := by decide +kernel
theorem dX9_setMarks_7 : decode cX9_setMarks 7 = .ok (.iload_n 2, 1) := by decide +kernel
theorem dX9_setMarks_8 : decode cX9_setMarks 8 = .ok (.iconst 1, 1) := by decide +kernel
theorem dX9_setMarks_9 : decode cX9_setMarks 9 = .ok (.bipush 16, 2) := by decide +kernel
theorem dX9_setMarks_11 : decode cX9_setMarks 11 = .ok (.invokestatic 56, 3) := by decide +kernel
theorem dX9_setMarks_14 : decode cX9_setMarks 14 = .ok (.iload_n 3, 1) := by decide +kernel
theorem dX9_setMarks_15 : decode cX9_setMarks 15 = .ok (.iload_n 2, 1) := by decide +kernel
theorem dX9_setMarks_16 : decode cX9_setMarks 16 = .ok (.bipush 24, 2) := by decide +kernel
theorem dX9_setMarks_18 : decode cX9_setMarks 18 = .ok (.invokestatic 56, 3) := by decide +kernel
theorem dX9_setMarks_21 : decode cX9_setMarks 21 = .ok (.aload_n 0, 1) := by decide +kernel
theorem dX9_setMarks_22 : decode cX9_setMarks 22 = .ok (.getfield 18, 3) := by decide +kernel
theorem dX9_setMarks_25 : decode cX9_setMarks 25 = .ok (.iload_n 1, 1) := by decide +kernel
theorem dX9_setMarks_26 : decode cX9_setMarks 26 = .ok (.putfield 113, 3) := by decide +kernel
theorem dX9_setMarks_29 : decode cX9_setMarks 29 = .ok (.aload_n 0, 1) := by decide +kernel
theorem dX9_setMarks_30 : decode cX9_setMarks 30 = .ok (.getfield 18, 3) := by decide +kernel
theorem dX9_setMarks_33 : decode cX9_setMarks 33 = .ok (.iload_n 2, 1) := by decide +kernel
theorem dX9_setMarks_34 : decode cX9_setMarks 34 = .ok (.putfield 116, 3) := by decide +kernel
theorem dX9_setMarks_37 : decode cX9_setMarks 37 = .ok (.aload_n 0, 1) := by decide +kernel
theorem dX9_setMarks_38 : decode cX9_setMarks 38 = .ok (.getfield 18, 3) := by decide +kernel
theorem dX9_setMarks_41 : decode cX9_setMarks 41 = .ok (.iload_n 3, 1) := by decide +kernel
theorem dX9_setMarks_42 : decode cX9_setMarks 42 = .ok (.putfield 119, 3) := by decide +kernel
theorem dX9_setMarks_45 : decode cX9_setMarks 45 = .ok (.return_, 1) := by decide +kernel
set_option maxRecDepth 20000 in
theorem ggX9_chunks_X9_freshlyCut : GoodIn wsX9_chunks wsX9_freshlyCut := goodIn_ca (goodIn_r _ [6, 7, 8, 9, 10, 11, 5, 12, 13, 14, 15, 16, 17, 18, 19, 20, 21, 22, 23, 24, 25, 26, 27, 28, 29, 30, 31, 32, 33, 34, 35, 36, 37, 38, 39, 40, 41, 42, 43, 44, 45, 46, 47, 52, 53, 54, 55, 56, 57, 58, 59, 60, 61, 62, 63, 64, 65, 66, 67, 68, 69, 70, 48, 49, 50, 51, 71, 72, 73] (by decide +kernel) (by decide +kernel)) (goodIn_sub (fun _ h => List.mem_cons_of_mem _ (List.mem_append_right _ h)) (by decide +kernel))
set_option maxRecDepth 20000 in
theorem gX9_chunks_X9_freshlyCut : GoodIn wsX9_chunks (wsV RX9 126 RX9 yX9_freshlyCut wsX9_freshlyCut) := goodIn_app (goodIn_of _ (by decide +kernel)) ggX9_chunks_X9_freshlyCut
theorem dX9_chunks_0 : decode cX9_chunks 0 = .ok (.aload_n 0, 1) := by decide +kernel
theorem dX9_chunks_1 : decode cX9_chunks 1 = .ok (.iload_n 1, 1) := by decide +kernel
theorem dX9_chunks_2 : decode cX9_chunks 2 = .ok (.invokevirtual 126, 3) := by decide +kernel
theorem dX9_chunks_5 : decode cX9_chunks 5 = .ok (.getfield 130, 3) := by decide +kernel
theorem dX9_chunks_8 : decode cX9_chunks 8 = .ok (.ireturn, 1) := by decide +kernel
set_option maxRecDepth 20000 in
theorem ggX9_end_X9_freshlyCut : GoodIn wsX9_end wsX9_freshlyCut := goodIn_ca (goodIn_r _ [8, 9, 10, 11, 12, 13, 7, 14, 15, 16, 17, 18, 19, 20, 21, 22, 23, 24, 25, 26, 27, 28, 29, 30, 31, 32, 33, 34, 35, 36, 37, 38, 39, 40, 41, 42, 43, 44, 45, 46, 47, 48, 49, 58, 59, 60, 61, 62, 63, 64, 65, 66, 67, 68, 69, 70, 71, 72, 73, 74, 75, 76, 54, 55, 56, 57, 77, 78, 79] (by decide +kernel) (by decide +kernel)) (goodIn_sub (fun _ h => List.mem_cons_of_mem _ (List.mem_append_right _ h)) (by decide +kernel))
set_option maxRecDepth 20000 in
theorem gX9_end_X9_freshlyCut : GoodIn wsX9_end (wsV RX9 126 RX9 yX9_freshlyCut wsX9_freshlyCut) := goodIn_app (goodIn_of _ (by decide +kernel)) ggX9_end_X9_freshlyCut
set_option maxRecDepth 20000 in
theorem ggX9_end_X0_partEnd : GoodIn wsX9_end wsX0_partEnd := goodIn_r _ [53, 48, 49, 54, 55, 56, 57] (by decide +kernel) (by decide +kernel)
set_option maxRecDepth 20000 in
theorem gX9_end_X0_partEnd : GoodIn wsX9_end (wsV RX9 135 RX0 yX0_partEnd wsX0_partEnd) := goodIn_app (goodIn_of _ (by decide +kernel)) ggX9_end_X0_partEnd
theorem dX9_end_0 : decode cX9_end 0 = .ok (.aload_n 0, 1) := by decide +kernel
theorem dX9_end_1 : decode cX9_end 1 = .ok (.iload_n 1, 1) := by decide +kernel
theorem dX9_end_2 : decode cX9_end 2 = .ok (.invokevirtual 126, 3) := by decide +kernel
theorem dX9_end_5 : decode cX9_end 5 = .ok (.astore_n 3, 1) := by decide +kernel
theorem dX9_end_6 : decode cX9_end 6 = .ok (.iload_n 2, 1) := by decide +kernel
theorem dX9_end_7 : decode cX9_end 7 = .ok (.ifCond .lt 11, 3) := by decide +kernel
theorem dX9_end_10 : decode cX9_end 10 = .ok (.iload_n 2, 1) := by decide +kernel
theorem dX9_end_11 : decode cX9_end 11 = .ok (.aload_n 3, 1) := by decide +kernel
theorem dX9_end_12 : decode cX9_end 12 = .ok (.getfield 130, 3) := by decide +kernel
theorem dX9_end_15 : decode cX9_end 15 = .ok (.if_icmp .lt 13, 3) := by decide +kernel
theorem dX9_end_18 : decode cX9_end 18 = .ok (.new 65, 3) := by decide +kernel
theorem dX9_end_21 : decode cX9_end 21 = .ok (.dup, 1) := by decide +kernel
theorem dX9_end_22 : decode cX9_end 22 = .ok (.ldc 133, 2) := by decide +kernel
theorem dX9_end_24 : decode cX9_end 24 = .ok (.invokespecial 69, 3) := by decide +kernel
theorem dX9_end_27 : decode cX9_end 27 = .ok (.athrow, 1) := by decide +kernel
theorem dX9_end_28 : decode cX9_end 28 = .ok (.aload_n 3, 1) := by decide +kernel
theorem dX9_end_29 : decode cX9_end 29 = .ok (.iload_n 2, 1) := by decide +kernel
theorem dX9_end_30 : decode cX9_end 30 = .ok (.invokevirtual 135, 3) := by decide +kernel
theorem dX9_end_33 : decode cX9_end 33 = .ok (.ireturn, 1) := by decide +kernel
theorem dX9_store_0 : decode cX9_store 0 = .ok (.aload_n 0, 1) := by decide +kernel
theorem dX9_store_1 : decode cX9_store 1 = .ok (.getfield 25, 3) := by decide +kernel
theorem dX9_store_4 : decode cX9_store 4 = .ok (.getfield 138, 3) := by decide +kernel
theorem dX9_store_7 : decode cX9_store 7 = .ok (.ireturn, 1) := by decide +kernel
set_option maxRecDepth 20000 in
theorem ggX9_setNight_X9_needRange : GoodIn wsX9_setNight wsX9_needRange := goodIn_ca (goodIn_r _ [7, 8, 9] (by decide +kernel) (by decide +kernel)) (goodIn_sub (fun _ h => List.mem_cons_of_mem _ (List.mem_append_right _ h)) (by decide +kernel))
set_option maxRecDepth 20000 in
theorem gX9_setNight_X9_needRange : GoodIn wsX9_setNight (va_wsS RX9 56 yX9_needRange wsX9_needRange) := goodIn_app (goodIn_of _ (by decide +kernel)) ggX9_setNight_X9_needRange
theorem dX9_setNight_0 : decode cX9_setNight 0 = .ok (.iload_n 1, 1) := by decide +kernel
theorem dX9_setNight_1 : decode cX9_setNight 1 = .ok (.iconst 0, 1) := by decide +kernel
theorem dX9_setNight_2 : decode cX9_setNight 2 = .ok (.sipush 500, 3) := by decide +kernel
theorem dX9_setNight_5 : decode cX9_setNight 5 = .ok (.invokestatic 56, 3) := by decide +kernel
theorem dX9_setNight_8 : decode cX9_setNight 8 = .ok (.iload_n 2, 1) := by decide +kernel
theorem dX9_setNight_9 : decode cX9_setNight 9 = .ok (.iconst 0, 1) := by decide +kernel
theorem dX9_setNight_10 : decode cX9_setNight 10 = .ok (.bipush 50, 2) := by decide +kernel
theorem dX9_setNight_12 : decode cX9_setNight 12 = .ok (.invokestatic 56, 3) := by decide +kernel
theorem dX9_setNight_15 : decode cX9_setNight 15 = .ok (.aload_n 0, 1) := by decide +kernel
theorem dX9_setNight_16 : decode cX9_setNight 16 = .ok (.getfield 32, 3) := by decide +kernel
theorem dX9_setNight_19 : decode cX9_setNight 19 = .ok (.iload_n 1, 1) := by decide +kernel
theorem dX9_setNight_20 : decode cX9_setNight 20 = .ok (.putfield 141, 3) := by decide +kernel
theorem dX9_setNight_23 : decode cX9_setNight 23 = .ok (.aload_n 0, 1) := by decide +kernel
theorem dX9_setNight_24 : decode cX9_setNight 24 = .ok (.getfield 32, 3) := by decide +kernel
theorem dX9_setNight_27 : decode cX9_setNight 27 = .ok (.iload_n 2, 1) := by decide +kernel
theorem dX9_setNight_28 : decode cX9_setNight 28 = .ok (.putfield 144, 3) := by decide +kernel
theorem dX9_setNight_31 : decode cX9_setNight 31 = .ok (.return_, 1) := by decide +kernel
set_option maxRecDepth 20000 in
theorem ggX9_bid_X9_clientOf : GoodIn wsX9_bid wsX9_clientOf := goodIn_ca (goodIn_r _ [6, 7, 8, 9, 26, 27, 28, 29, 30, 31] (by decide +kernel) (by decide +kernel)) (goodIn_sub (fun _ h => List.mem_cons_of_mem _ (List.mem_append_right _ h)) (by decide +kernel))
set_option maxRecDepth 20000 in
theorem gX9_bid_X9_clientOf : GoodIn wsX9_bid (wsV RX9 48 RX9 yX9_clientOf wsX9_clientOf) := goodIn_app (goodIn_of _ (by decide +kernel)) ggX9_bid_X9_clientOf
set_option maxRecDepth 20000 in
theorem ggX9_bid_X9_needRange : GoodIn wsX9_bid wsX9_needRange := goodIn_ca (goodIn_r _ [12, 7, 8] (by decide +kernel) (by decide +kernel)) (goodIn_sub (fun _ h => List.mem_cons_of_mem _ (List.mem_append_right _ h)) (by decide +kernel))
set_option maxRecDepth 20000 in
theorem gX9_bid_X9_needRange : GoodIn wsX9_bid (va_wsS RX9 56 yX9_needRange wsX9_needRange) := goodIn_app (goodIn_of _ (by decide +kernel)) ggX9_bid_X9_needRange
theorem dX9_bid_0 : decode cX9_bid 0 = .ok (.aload_n 0, 1) := by decide +kernel
theorem dX9_bid_1 : decode cX9_bid 1 = .ok (.iload_n 1, 1) := by decide +kernel
theorem dX9_bid_2 : decode cX9_bid 2 = .ok (.invokevirtual 48, 3) := by decide +kernel
theorem dX9_bid_5 : decode cX9_bid 5 = .ok (.astore_n 3, 1) := by decide +kernel
theorem dX9_bid_6 : decode cX9_bid 6 = .ok (.iload_n 2, 1) := by decide +kernel
theorem dX9_bid_7 : decode cX9_bid 7 = .ok (.iconst 0, 1) := by decide +kernel
theorem dX9_bid_8 : decode cX9_bid 8 = .ok (.bipush 100, 2) := by decide +kernel
theorem dX9_bid_10 : decode cX9_bid 10 = .ok (.invokestatic 56, 3) := by decide +kernel
theorem dX9_bid_13 : decode cX9_bid 13 = .ok (.aload_n 3, 1) := by decide +kernel
theorem dX9_bid_14 : decode cX9_bid 14 = .ok (.getfield 147, 3) := by decide +kernel
theorem dX9_bid_17 : decode cX9_bid 17 = .ok (.istore 4, 2) := by decide +kernel
theorem dX9_bid_19 : decode cX9_bid 19 = .ok (.aload_n 3, 1) := by decide +kernel
theorem dX9_bid_20 : decode cX9_bid 20 = .ok (.iload_n 2, 1) := by decide +kernel
theorem dX9_bid_21 : decode cX9_bid 21 = .ok (.putfield 147, 3) := by decide +kernel
theorem dX9_bid_24 : decode cX9_bid 24 = .ok (.iload 4, 2) := by decide +kernel
theorem dX9_bid_26 : decode cX9_bid 26 = .ok (.ireturn, 1) := by decide +kernel
set_option maxRecDepth 20000 in
theorem ggX9_setChain_X9_clientOf : GoodIn wsX9_setChain wsX9_clientOf := goodIn_ca (goodIn_r _ [7, 8, 9, 10, 27, 28, 29, 30, 31, 32] (by decide +kernel) (by decide +kernel)) (goodIn_sub (fun _ h => List.mem_cons_of_mem _ (List.mem_append_right _ h)) (by decide +kernel))
set_option maxRecDepth 20000 in
theorem gX9_setChain_X9_clientOf : GoodIn wsX9_setChain (wsV RX9 48 RX9 yX9_clientOf wsX9_clientOf) := goodIn_app (goodIn_of _ (by decide +kernel)) ggX9_setChain_X9_clientOf
set_option maxRecDepth 20000 in
theorem ggX9_setChain_X9_needRange : GoodIn wsX9_setChain wsX9_needRange := goodIn_ca (goodIn_r _ [13, 8, 9] (by decide +kernel) (by decide +kernel)) (goodIn_sub (fun _ h => List.mem_cons_of_mem _ (List.mem_append_right _ h)) (by decide +kernel))
set_option maxRecDepth 20000 in
theorem gX9_setChain_X9_needRange : GoodIn wsX9_setChain (va_wsS RX9 56 yX9_needRange wsX9_needRange) := goodIn_app (goodIn_of _ (by decide +kernel)) ggX9_setChain_X9_needRange
theorem dX9_setChain_0 : decode cX9_setChain 0 = .ok (.aload_n 0, 1) := by decide +kernel
theorem dX9_setChain_1 : decode cX9_setChain 1 = .ok (.iload_n 1, 1) := by decide +kernel
theorem dX9_setChain_2 : decode cX9_setChain 2 = .ok (.invokevirtual 48, 3) := by decide +kernel
theorem dX9_setChain_5 : decode cX9_setChain 5 = .ok (.astore 4, 2) := by decide +kernel
theorem dX9_setChain_7 : decode cX9_setChain 7 = .ok (.iload_n 2, 1) := by decide +kernel
theorem dX9_setChain_8 : decode cX9_setChain 8 = .ok (.iconst 0, 1) := by decide +kernel
theorem dX9_setChain_9 : decode cX9_setChain 9 = .ok (.bipush 30, 2) := by decide +kernel
theorem dX9_setChain_11 : decode cX9_setChain 11 = .ok (.invokestatic 56, 3) := by decide +kernel
theorem dX9_setChain_14 : decode cX9_setChain 14 = .ok (.iload_n 3, 1) := by decide +kernel
theorem dX9_setChain_15 : decode cX9_setChain 15 = .ok (.iconst 0, 1) := by decide +kernel
theorem dX9_setChain_16 : decode cX9_setChain 16 = .ok (.bipush 50, 2) := by decide +kernel
theorem dX9_setChain_18 : decode cX9_setChain 18 = .ok (.invokestatic 56, 3) := by decide +kernel
theorem dX9_setChain_21 : decode cX9_setChain 21 = .ok (.aload 4, 2) := by decide +kernel
theorem dX9_setChain_23 : decode cX9_setChain 23 = .ok (.iload_n 2, 1) := by decide +kernel
theorem dX9_setChain_24 : decode cX9_setChain 24 = .ok (.putfield 150, 3) := by decide +kernel
theorem dX9_setChain_27 : decode cX9_setChain 27 = .ok (.aload 4, 2) := by decide +kernel
theorem dX9_setChain_29 : decode cX9_setChain 29 = .ok (.iload_n 3, 1) := by decide +kernel
theorem dX9_setChain_30 : decode cX9_setChain 30 = .ok (.putfield 153, 3) := by decide +kernel
theorem dX9_setChain_33 : decode cX9_setChain 33 = .ok (.return_, 1) := by decide +kernel
set_option maxRecDepth 20000 in
theorem ggX9_forBase_X9_freshlyCut : GoodIn wsX9_forBase wsX9_freshlyCut := goodIn_ca (goodIn_r _ [5, 6, 7, 8, 9, 10, 4, 11, 12, 13, 14, 15, 16, 17, 18, 19, 20, 21, 22, 23, 24, 25, 26, 27, 28, 29, 30, 31, 32, 33, 34, 35, 36, 37, 38, 39, 40, 41, 42, 43, 44, 45, 46, 89, 90, 91, 92, 93, 94, 95, 96, 97, 98, 99, 100, 101, 102, 103, 104, 105, 106, 107, 108, 109, 110, 111, 112, 113, 114] (by decide +kernel) (by decide +kernel)) (goodIn_sub (fun _ h => List.mem_cons_of_mem _ (List.mem_append_right _ h)) (by decide +kernel))
set_option maxRecDepth 20000 in
theorem gX9_forBase_X9_freshlyCut : GoodIn wsX9_forBase (wsV RX9 126 RX9 yX9_freshlyCut wsX9_freshlyCut) := goodIn_app (goodIn_of _ (by decide +kernel)) ggX9_forBase_X9_freshlyCut
set_option maxRecDepth 20000 in
theorem ggX9_forBase_X0_linkBytes : GoodIn wsX9_forBase wsX0_linkBytes := goodIn_r _ [50, 45, 51, 52, 53, 38, 54, 46, 55, 56, 57, 58, 59, 60, 61, 62, 63, 64, 65, 66, 67, 68, 69, 70, 71, 72, 73, 74, 75, 76, 77, 78, 79, 80, 81, 82, 83, 84, 85, 86, 87, 88, 36, 37, 39, 40, 108, 109, 110, 111, 115, 116, 117, 118, 119, 120, 121] (by decide +kernel) (by decide +kernel)
set_option maxRecDepth 20000 in
theorem gX9_forBase_X0_linkBytes : GoodIn wsX9_forBase (wsV RX9 156 RX0 yX0_linkBytes wsX0_linkBytes) := goodIn_app (goodIn_of _ (by decide +kernel)) ggX9_forBase_X0_linkBytes
theorem dX9_forBase_0 : decode cX9_forBase 0 = .ok (.aload_n 0, 1) := by decide +kernel
theorem dX9_forBase_1 : decode cX9_forBase 1 = .ok (.iload_n 1, 1) := by decide +kernel
theorem dX9_forBase_2 : decode cX9_forBase 2 = .ok (.invokevirtual 126, 3) := by decide +kernel
theorem dX9_forBase_5 : decode cX9_forBase 5 = .ok (.aconst_null, 1) := by decide +kernel
theorem dX9_forBase_6 : decode cX9_forBase 6 = .ok (.invokevirtual 156, 3) := by decide +kernel
theorem dX9_forBase_9 : decode cX9_forBase 9 = .ok (.ireturn, 1) := by decide +kernel
set_option maxRecDepth 20000 in
theorem ggX9_forDifference_X9_freshlyCut : GoodIn wsX9_forDifference wsX9_freshlyCut := goodIn_ca (goodIn_r _ [8, 9, 10, 11, 12, 13, 7, 14, 15, 16, 17, 18, 19, 20, 21, 22, 23, 24, 25, 26, 27, 28, 29, 30, 31, 32, 33, 34, 35, 36, 37, 38, 39, 40, 41, 42, 43, 44, 45, 46, 47, 48, 49, 92, 93, 94, 95, 96, 97, 98, 99, 100, 101, 102, 103, 104, 105, 106, 107, 108, 109, 110, 111, 112, 113, 114, 115, 116, 117] (by decide +kernel) (by decide +kernel)) (goodIn_sub (fun _ h => List.mem_cons_of_mem _ (List.mem_append_right _ h)) (by decide +kernel))
set_option maxRecDepth 20000 in
theorem gX9_forDifference_X9_freshlyCut : GoodIn wsX9_forDifference (wsV RX9 126 RX9 yX9_freshlyCut wsX9_freshlyCut) := goodIn_app (goodIn_of _ (by decide +kernel)) ggX9_forDifference_X9_freshlyCut
set_option maxRecDepth 20000 in
theorem ggX9_forDifference_X9_clientOf : GoodIn wsX9_forDifference wsX9_clientOf := goodIn_ca (goodIn_r _ [14, 15, 16, 17, 105, 106, 107, 108, 109, 110] (by decide +kernel) (by decide +kernel)) (goodIn_sub (fun _ h => List.mem_cons_of_mem _ (List.mem_append_right _ h)) (by decide +kernel))
set_option maxRecDepth 20000 in
theorem gX9_forDifference_X9_clientOf : GoodIn wsX9_forDifference (wsV RX9 48 RX9 yX9_clientOf wsX9_clientOf) := goodIn_app (goodIn_of _ (by decide +kernel)) ggX9_forDifference_X9_clientOf
set_option maxRecDepth 20000 in
theorem ggX9_forDifference_X0_linkBytes : GoodIn wsX9_forDifference wsX0_linkBytes := goodIn_r _ [53, 48, 54, 55, 56, 41, 57, 49, 58, 59, 60, 61, 62, 63, 64, 65, 66, 67, 68, 69, 70, 71, 72, 73, 74, 75, 76, 77, 78, 79, 80, 81, 82, 83, 84, 85, 86, 87, 88, 89, 90, 91, 39, 40, 42, 43, 111, 112, 113, 114, 118, 119, 120, 121, 122, 123, 124] (by decide +kernel) (by decide +kernel)
set_option maxRecDepth 20000 in
theorem gX9_forDifference_X0_linkBytes : GoodIn wsX9_forDifference (wsV RX9 156 RX0 yX0_linkBytes wsX0_linkBytes) := goodIn_app (goodIn_of _ (by decide +kernel)) ggX9_forDifference_X0_linkBytes
theorem dX9_forDifference_0 : decode cX9_forDifference 0 = .ok (.aload_n 0, 1) := by decide +kernel
theorem dX9_forDifference_1 : decode cX9_forDifference 1 = .ok (.iload_n 1, 1) := by decide +kernel
theorem dX9_forDifference_2 : decode cX9_forDifference 2 = .ok (.invokevirtual 126, 3) := by decide +kernel
theorem dX9_forDifference_5 : decode cX9_forDifference 5 = .ok (.astore_n 2, 1) := by decide +kernel
theorem dX9_forDifference_6 : decode cX9_forDifference 6 = .ok (.aload_n 0, 1) := by decide +kernel
theorem dX9_forDifference_7 : decode cX9_forDifference 7 = .ok (.iload_n 1, 1) := by decide +kernel
theorem dX9_forDifference_8 : decode cX9_forDifference 8 = .ok (.invokevirtual 48, 3) := by decide +kernel
theorem dX9_forDifference_11 : decode cX9_forDifference 11 = .ok (.getfield 160, 3) := by decide +kernel
theorem dX9_forDifference_14 : decode cX9_forDifference 14 = .ok (.astore_n 3, 1) := by decide +kernel
theorem dX9_forDifference_15 : decode cX9_forDifference 15 = .ok (.aload_n 3, 1) := by decide +kernel
theorem dX9_forDifference_16 : decode cX9_forDifference 16 = .ok (.ifnonnull 13, 3) := by decide +kernel
theorem dX9_forDifference_19 : decode cX9_forDifference 19 = .ok (.new 76, 3) := by decide +kernel
theorem dX9_forDifference_22 : decode cX9_forDifference 22 = .ok (.dup, 1) := by decide +kernel
theorem dX9_forDifference_23 : decode cX9_forDifference 23 = .ok (.ldc 164, 2) := by decide +kernel
theorem dX9_forDifference_25 : decode cX9_forDifference 25 = .ok (.invokespecial 80, 3) := by decide +kernel
theorem dX9_forDifference_28 : decode cX9_forDifference 28 = .ok (.athrow, 1) := by decide +kernel
theorem dX9_forDifference_29 : decode cX9_forDifference 29 = .ok (.aload_n 2, 1) := by decide +kernel
theorem dX9_forDifference_30 : decode cX9_forDifference 30 = .ok (.aload_n 3, 1) := by decide +kernel
theorem dX9_forDifference_31 : decode cX9_forDifference 31 = .ok (.invokevirtual 156, 3) := by decide +kernel
theorem dX9_forDifference_34 : decode cX9_forDifference 34 = .ok (.ireturn, 1) := by decide +kernel
set_option maxRecDepth 20000 in
theorem ggX9_would_X9_clientOf : GoodIn wsX9_would wsX9_clientOf := goodIn_ca (goodIn_r _ [9, 10, 11, 2, 145, 146, 147, 148, 149, 150] (by decide +kernel) (by decide +kernel)) (goodIn_sub (fun _ h => List.mem_cons_of_mem _ (List.mem_append_right _ h)) (by decide +kernel))
set_option maxRecDepth 20000 in
theorem gX9_would_X9_clientOf : GoodIn wsX9_would (wsV RX9 48 RX9 yX9_clientOf wsX9_clientOf) := goodIn_app (goodIn_of _ (by decide +kernel)) ggX9_would_X9_clientOf
set_option maxRecDepth 20000 in
theorem ggX9_would_X6_hold : GoodIn wsX9_would wsX6_hold := goodIn_r _ [16, 17, 18, 19, 20, 21, 22, 23, 24, 25, 26, 27, 28, 29, 30, 31, 32, 33, 34, 35, 36, 37, 38, 39, 40, 41, 42, 43, 44, 45, 46, 47, 48, 49, 50, 51, 52, 53, 54, 55, 56, 57, 58, 59, 60, 61, 62, 63, 64, 65, 66, 67, 68, 69, 70, 71, 72, 73, 74, 75, 76, 77, 78, 79, 80, 81, 82, 83, 84, 85, 86, 87, 88, 89, 90, 91, 92, 93, 94, 95, 96, 97, 98, 99, 100, 101, 102, 103, 104, 15, 105, 106, 107, 108, 109, 110, 111, 112, 113, 114, 115, 116, 117, 118, 119, 120, 121, 122, 123, 124, 125, 126, 127, 128, 129, 130, 131, 132, 133, 134, 135, 136, 137, 138, 139, 140, 141, 142, 143, 144, 151, 152, 153, 154, 155, 156, 157, 158, 159, 160, 161, 162, 163, 164, 165, 166, 167, 168, 169, 170, 171, 172, 173, 174, 175, 176, 177, 178, 179, 180] (by decide +kernel) (by decide +kernel)
set_option maxRecDepth 20000 in
theorem gX9_would_X6_hold : GoodIn wsX9_would (wsV RX9 166 RX6 yX6_hold wsX6_hold) := goodIn_app (goodIn_of _ (by decide +kernel)) ggX9_would_X6_hold
theorem dX9_would_0 : decode cX9_would 0 = .ok (.aload_n 0, 1) := by decide +kernel
theorem dX9_would_1 : decode cX9_would 1 = .ok (.iload_n 1, 1) := by decide +kernel
theorem dX9_would_2 : decode cX9_would 2 = .ok (.invokevirtual 48, 3) := by decide +kernel
theorem dX9_would_5 : decode cX9_would 5 = .ok (.astore_n 2, 1) := by decide +kernel
theorem dX9_would_6 : decode cX9_would 6 = .ok (.aload_n 0, 1) := by decide +kernel
theorem dX9_would_7 : decode cX9_would 7 = .ok (.getfield 32, 3) := by decide +kernel
theorem dX9_would_10 : decode cX9_would 10 = .ok (.aload_n 0, 1) := by decide +kernel
theorem dX9_would_11 : decode cX9_would 11 = .ok (.getfield 11, 3) := by decide +kernel
theorem dX9_would_14 : decode cX9_would 14 = .ok (.aload_n 0, 1) := by decide +kernel
theorem dX9_would_15 : decode cX9_would 15 = .ok (.getfield 18, 3) := by decide +kernel
theorem dX9_would_18 : decode cX9_would 18 = .ok (.invokevirtual 166, 3) := by decide +kernel
theorem dX9_would_21 : decode cX9_would 21 = .ok (.aload_n 2, 1) := by decide +kernel
theorem dX9_would_22 : decode cX9_would 22 = .ok (.getfield 170, 3) := by decide +kernel
theorem dX9_would_25 : decode cX9_would 25 = .ok (.ireturn, 1) := by decide +kernel
set_option maxRecDepth 20000 in
theorem ggX9_night_X6_hold : GoodIn wsX9_night wsX6_hold := goodIn_r _ [12, 13, 14, 15, 16, 17, 18, 19, 20, 21, 22, 23, 24, 25, 26, 27, 28, 29, 30, 31, 32, 33, 34, 35, 36, 37, 38, 39, 40, 41, 42, 43, 44, 45, 46, 47, 48, 49, 50, 51, 52, 53, 54, 55, 56, 57, 58, 59, 60, 61, 62, 63, 64, 65, 66, 67, 68, 69, 70, 71, 72, 73, 74, 75, 76, 77, 78, 79, 80, 81, 82, 83, 84, 85, 86, 87, 88, 89, 90, 91, 92, 93, 94, 95, 96, 97, 98, 99, 100, 11, 101, 102, 103, 104, 105, 106, 107, 108, 109, 110, 111, 112, 113, 114, 115, 116, 117, 118, 119, 120, 121, 122, 123, 124, 125, 126, 127, 128, 129, 130, 131, 132, 133, 134, 135, 136, 137, 138, 139, 140, 235, 236, 237, 238, 239, 240, 241, 242, 243, 244, 245, 246, 247, 248, 249, 250, 251, 252, 253, 254, 255, 256, 257, 258, 259, 260, 261, 262, 263, 264] (by decide +kernel) (by decide +kernel)
set_option maxRecDepth 20000 in
theorem gX9_night_X6_hold : GoodIn wsX9_night (wsV RX9 166 RX6 yX6_hold wsX6_hold) := goodIn_app (goodIn_of _ (by decide +kernel)) ggX9_night_X6_hold
set_option maxRecDepth 20000 in
theorem ggX9_night_X9_serve : GoodIn wsX9_night wsX9_serve := goodIn_r _ [145, 146, 147, 7, 148, 3, 149, 150, 151, 152, 153, 154, 155, 156, 157, 67, 158, 159, 160, 161, 162, 163, 164, 165, 166, 88, 167, 116, 69, 168, 169, 170, 171, 91, 90, 172, 82, 83, 42, 84, 49, 50, 173, 174, 175, 176, 177, 178, 179, 180, 95, 181, 182, 93, 94, 96, 97, 98, 183, 184, 185, 186, 187, 188, 137, 138, 139, 189, 190, 40, 41, 43, 44, 191, 192, 193, 194, 195, 196, 197, 198, 199, 200, 201, 202, 203, 204, 205, 206, 207, 208, 209, 210, 211, 212, 213, 54, 214, 215, 61, 216, 217, 218, 219, 220, 221, 222, 223, 224, 121, 86, 87, 89, 225, 226, 227, 228, 229, 230, 231, 232, 233, 234, 235, 236, 237, 238, 239, 240, 241, 242, 243, 244, 245, 246, 247, 258, 259, 260, 251, 252, 253, 254, 261, 262, 265, 266, 263, 264] (by decide +kernel) (by decide +kernel)
set_option maxRecDepth 20000 in
theorem gX9_night_X9_serve : GoodIn wsX9_night (wsV RX9 175 RX9 yX9_serve wsX9_serve) := goodIn_app (goodIn_of _ (by decide +kernel)) ggX9_night_X9_serve
theorem dX9_night_0 : decode cX9_night 0 = .ok (.aload_n 0, 1) := by decide +kernel
theorem dX9_night_1 : decode cX9_night 1 = .ok (.getfield 43, 3) := by decide +kernel
theorem dX9_night_4 : decode cX9_night 4 = .ok (.bipush 60, 2) := by decide +kernel
theorem dX9_night_6 : decode cX9_night 6 = .ok (.if_icmp .lt 13, 3) := by decide +kernel
theorem dX9_night_9 : decode cX9_night 9 = .ok (.new 76, 3) := by decide +kernel
theorem dX9_night_12 : decode cX9_night 12 = .ok (.dup, 1) := by decide +kernel
theorem dX9_night_13 : decode cX9_night 13 = .ok (.ldc 173, 2) := by decide +kernel
theorem dX9_night_15 : decode cX9_night 15 = .ok (.invokespecial 80, 3) := by decide +kernel
theorem dX9_night_18 : decode cX9_night 18 = .ok (.athrow, 1) := by decide +kernel
theorem dX9_night_19 : decode cX9_night 19 = .ok (.aload_n 0, 1) := by decide +kernel
theorem dX9_night_20 : decode cX9_night 20 = .ok (.getfield 32, 3) := by decide +kernel
theorem dX9_night_23 : decode cX9_night 23 = .ok (.aload_n 0, 1) := by decide +kernel
theorem dX9_night_24 : decode cX9_night 24 = .ok (.getfield 11, 3) := by decide +kernel
theorem dX9_night_27 : decode cX9_night 27 = .ok (.aload_n 0, 1) := by decide +kernel
theorem dX9_night_28 : decode cX9_night 28 = .ok (.getfield 18, 3) := by decide +kernel
theorem dX9_night_31 : decode cX9_night 31 = .ok (.invokevirtual 166, 3) := by decide +kernel
theorem dX9_night_34 : decode cX9_night 34 = .ok (.iconst 0, 1) := by decide +kernel
theorem dX9_night_35 : decode cX9_night 35 = .ok (.istore_n 1, 1) := by decide +kernel
theorem dX9_night_36 : decode cX9_night 36 = .ok (.iconst 0, 1) := by decide +kernel
theorem dX9_night_37 : decode cX9_night 37 = .ok (.istore_n 2, 1) := by decide +kernel
theorem dX9_night_38 : decode cX9_night 38 = .ok (.iload_n 2, 1) := by decide +kernel
theorem dX9_night_39 : decode cX9_night 39 = .ok (.aload_n 0, 1) := by decide +kernel
theorem dX9_night_40 : decode cX9_night 40 = .ok (.getfield 11, 3) := by decide +kernel
theorem dX9_night_43 : decode cX9_night 43 = .ok (.arraylength, 1) := by decide +kernel
theorem dX9_night_44 : decode cX9_night 44 = .ok (.if_icmp .ge 35, 3) := by decide +kernel
theorem dX9_night_47 : decode cX9_night 47 = .ok (.aload_n 0, 1) := by decide +kernel
theorem dX9_night_48 : decode cX9_night 48 = .ok (.getfield 11, 3) := by decide +kernel
theorem dX9_night_51 : decode cX9_night 51 = .ok (.iload_n 2, 1) := by decide +kernel
theorem dX9_night_52 : decode cX9_night 52 = .ok (.aaload, 1) := by decide +kernel
theorem dX9_night_53 : decode cX9_night 53 = .ok (.astore_n 3, 1) := by decide +kernel
theorem dX9_night_54 : decode cX9_night 54 = .ok (.aload_n 3, 1) := by decide +kernel
theorem dX9_night_55 : decode cX9_night 55 = .ok (.ifnull 18, 3) := by decide +kernel
theorem dX9_night_58 : decode cX9_night 58 = .ok (.aload_n 3, 1) := by decide +kernel
theorem dX9_night_59 : decode cX9_night 59 = .ok (.getfield 170, 3) := by decide +kernel
theorem dX9_night_62 : decode cX9_night 62 = .ok (.ifCond .eq 11, 3) := by decide +kernel
theorem dX9_night_65 : decode cX9_night 65 = .ok (.aload_n 0, 1) := by decide +kernel
theorem dX9_night_66 : decode cX9_night 66 = .ok (.aload_n 3, 1) := by decide +kernel
theorem dX9_night_67 : decode cX9_night 67 = .ok (.invokevirtual 175, 3) := by decide +kernel
theorem dX9_night_70 : decode cX9_night 70 = .ok (.iinc 1 1, 3) := by decide +kernel
theorem dX9_night_73 : decode cX9_night 73 = .ok (.iinc 2 1, 3) := by decide +kernel
theorem dX9_night_76 : decode cX9_night 76 = .ok (.goto (-38), 3) := by decide +kernel
theorem dX9_night_79 : decode cX9_night 79 = .ok (.aload_n 0, 1) := by decide +kernel
theorem dX9_night_80 : decode cX9_night 80 = .ok (.dup, 1) := by decide +kernel
theorem dX9_night_81 : decode cX9_night 81 = .ok (.getfield 43, 3) := by decide +kernel
theorem dX9_night_84 : decode cX9_night 84 = .ok (.iconst 1, 1) := by decide +kernel
theorem dX9_night_85 : decode cX9_night 85 = .ok (.iadd, 1) := by decide +kernel
theorem dX9_night_86 : decode cX9_night 86 = .ok (.putfield 43, 3) := by decide +kernel
theorem dX9_night_89 : decode cX9_night 89 = .ok (.iload_n 1, 1) := by decide +kernel
theorem dX9_night_90 : decode cX9_night 90 = .ok (.ireturn, 1) := by decide +kernel
theorem dX9_nights_0 : decode cX9_nights 0 = .ok (.aload_n 0, 1) := by decide +kernel
theorem dX9_nights_1 : decode cX9_nights 1 = .ok (.getfield 43, 3) := by decide +kernel
theorem dX9_nights_4 : decode cX9_nights 4 = .ok (.ireturn, 1) := by decide +kernel
set_option maxRecDepth 20000 in
theorem ggX9_got_X9_clientOf : GoodIn wsX9_got wsX9_clientOf := goodIn_ca (goodIn_r _ [6, 7, 8, 9, 26, 27, 28, 29, 30, 31] (by decide +kernel) (by decide +kernel)) (goodIn_sub (fun _ h => List.mem_cons_of_mem _ (List.mem_append_left _ (List.mem_append_right _ h))) (by decide +kernel))
set_option maxRecDepth 20000 in
theorem gX9_got_X9_clientOf : GoodIn wsX9_got (wsV RX9 48 RX9 yX9_clientOf wsX9_clientOf) := goodIn_app (goodIn_of _ (by decide +kernel)) ggX9_got_X9_clientOf
set_option maxRecDepth 20000 in
theorem ggX9_got_X9_needNight : GoodIn wsX9_got wsX9_needNight := goodIn_ca (goodIn_r _ [13, 14, 15, 16, 26, 27, 28, 29, 30, 31] (by decide +kernel) (by decide +kernel)) (goodIn_sub (fun _ h => List.mem_cons_of_mem _ (List.mem_append_right _ h)) (by decide +kernel))
set_option maxRecDepth 20000 in
theorem gX9_got_X9_needNight : GoodIn wsX9_got (wsV RX9 179 RX9 yX9_needNight wsX9_needNight) := goodIn_app (goodIn_of _ (by decide +kernel)) ggX9_got_X9_needNight
set_option maxRecDepth 20000 in
theorem ggX9_got_X3_linkAt : GoodIn wsX9_got wsX3_linkAt := goodIn_r _ [21, 22, 32, 33, 34, 35, 36, 37, 38, 39, 40, 41, 42, 43, 44] (by decide +kernel) (by decide +kernel)
set_option maxRecDepth 20000 in
theorem gX9_got_X3_linkAt : GoodIn wsX9_got (wsV RX9 183 RX3 yX3_linkAt wsX3_linkAt) := goodIn_app (goodIn_of _ (by decide +kernel)) ggX9_got_X3_linkAt
theorem dX9_got_0 : decode cX9_got 0 = .ok (.aload_n 0, 1) := by decide +kernel
theorem dX9_got_1 : decode cX9_got 1 = .ok (.iload_n 1, 1) := by decide +kernel
theorem dX9_got_2 : decode cX9_got 2 = .ok (.invokevirtual 48, 3) := by decide +kernel
theorem dX9_got_5 : decode cX9_got 5 = .ok (.astore_n 3, 1) := by decide +kernel
theorem dX9_got_6 : decode cX9_got 6 = .ok (.aload_n 0, 1) := by decide +kernel
theorem dX9_got_7 : decode cX9_got 7 = .ok (.iload_n 2, 1) := by decide +kernel
theorem dX9_got_8 : decode cX9_got 8 = .ok (.invokevirtual 179, 3) := by decide +kernel
theorem dX9_got_11 : decode cX9_got 11 = .ok (.aload_n 3, 1) := by decide +kernel
theorem dX9_got_12 : decode cX9_got 12 = .ok (.iload_n 2, 1) := by decide +kernel
theorem dX9_got_13 : decode cX9_got 13 = .ok (.invokevirtual 183, 3) := by decide +kernel
theorem dX9_got_16 : decode cX9_got 16 = .ok (.astore 4, 2) := by decide +kernel
theorem dX9_got_18 : decode cX9_got 18 = .ok (.aload 4, 2) := by decide +kernel
theorem dX9_got_20 : decode cX9_got 20 = .ok (.ifnonnull 5, 3) := by decide +kernel
theorem dX9_got_23 : decode cX9_got 23 = .ok (.iconst 0, 1) := by decide +kernel
theorem dX9_got_24 : decode cX9_got 24 = .ok (.ireturn, 1) := by decide +kernel
theorem dX9_got_25 : decode cX9_got 25 = .ok (.aload 4, 2) := by decide +kernel
theorem dX9_got_27 : decode cX9_got 27 = .ok (.getfield 187, 3) := by decide +kernel
theorem dX9_got_30 : decode cX9_got 30 = .ok (.ifnonnull 7, 3) := by decide +kernel
theorem dX9_got_33 : decode cX9_got 33 = .ok (.iconst 1, 1) := by decide +kernel
theorem dX9_got_34 : decode cX9_got 34 = .ok (.goto 4, 3) := by decide +kernel
theorem dX9_got_37 : decode cX9_got 37 = .ok (.iconst 2, 1) := by decide +kernel
theorem dX9_got_38 : decode cX9_got 38 = .ok (.ireturn, 1) := by decide +kernel
set_option maxRecDepth 20000 in
theorem ggX9_dayOf_X9_clientOf : GoodIn wsX9_dayOf wsX9_clientOf := goodIn_ca (goodIn_r _ [5, 6, 7, 8, 26, 27, 28, 29, 30, 31] (by decide +kernel) (by decide +kernel)) (goodIn_sub (fun _ h => List.mem_cons_of_mem _ (List.mem_append_left _ (List.mem_append_right _ h))) (by decide +kernel))
set_option maxRecDepth 20000 in
theorem gX9_dayOf_X9_clientOf : GoodIn wsX9_dayOf (wsV RX9 48 RX9 yX9_clientOf wsX9_clientOf) := goodIn_app (goodIn_of _ (by decide +kernel)) ggX9_dayOf_X9_clientOf
set_option maxRecDepth 20000 in
theorem ggX9_dayOf_X9_needNight : GoodIn wsX9_dayOf wsX9_needNight := goodIn_ca (goodIn_r _ [12, 13, 14, 15, 26, 27, 28, 29, 30, 31] (by decide +kernel) (by decide +kernel)) (goodIn_sub (fun _ h => List.mem_cons_of_mem _ (List.mem_append_right _ h)) (by decide +kernel))
set_option maxRecDepth 20000 in
theorem gX9_dayOf_X9_needNight : GoodIn wsX9_dayOf (wsV RX9 179 RX9 yX9_needNight wsX9_needNight) := goodIn_app (goodIn_of _ (by decide +kernel)) ggX9_dayOf_X9_needNight
set_option maxRecDepth 20000 in
theorem ggX9_dayOf_X3_latestDayUpTo : GoodIn wsX9_dayOf wsX3_latestDayUpTo := goodIn_r _ [20, 21, 22, 23, 24, 25, 32, 33, 34, 35, 36, 37, 38, 39, 40, 41, 42, 43, 44] (by decide +kernel) (by decide +kernel)
set_option maxRecDepth 20000 in
theorem gX9_dayOf_X3_latestDayUpTo : GoodIn wsX9_dayOf (wsV RX9 192 RX3 yX3_latestDayUpTo wsX3_latestDayUpTo) := goodIn_app (goodIn_of _ (by decide +kernel)) ggX9_dayOf_X3_latestDayUpTo
theorem dX9_dayOf_0 : decode cX9_dayOf 0 = .ok (.aload_n 0, 1) := by decide +kernel
theorem dX9_dayOf_1 : decode cX9_dayOf 1 = .ok (.iload_n 1, 1) := by decide +kernel
theorem dX9_dayOf_2 : decode cX9_dayOf 2 = .ok (.invokevirtual 48, 3) := by decide +kernel
theorem dX9_dayOf_5 : decode cX9_dayOf 5 = .ok (.astore_n 3, 1) := by decide +kernel
theorem dX9_dayOf_6 : decode cX9_dayOf 6 = .ok (.aload_n 0, 1) := by decide +kernel
theorem dX9_dayOf_7 : decode cX9_dayOf 7 = .ok (.iload_n 2, 1) := by decide +kernel
theorem dX9_dayOf_8 : decode cX9_dayOf 8 = .ok (.invokevirtual 179, 3) := by decide +kernel
theorem dX9_dayOf_11 : decode cX9_dayOf 11 = .ok (.aload_n 3, 1) := by decide +kernel
theorem dX9_dayOf_12 : decode cX9_dayOf 12 = .ok (.iload_n 2, 1) := by decide +kernel
theorem dX9_dayOf_13 : decode cX9_dayOf 13 = .ok (.invokevirtual 192, 3) := by decide +kernel
theorem dX9_dayOf_16 : decode cX9_dayOf 16 = .ok (.ireturn, 1) := by decide +kernel
set_option maxRecDepth 20000 in
theorem ggX9_chain_X9_clientOf : GoodIn wsX9_chain wsX9_clientOf := goodIn_ca (goodIn_r _ [6, 7, 8, 9, 29, 30, 31, 32, 33, 34] (by decide +kernel) (by decide +kernel)) (goodIn_sub (fun _ h => List.mem_cons_of_mem _ (List.mem_append_right _ h)) (by decide +kernel))
set_option maxRecDepth 20000 in
theorem gX9_chain_X9_clientOf : GoodIn wsX9_chain (wsV RX9 48 RX9 yX9_clientOf wsX9_clientOf) := goodIn_app (goodIn_of _ (by decide +kernel)) ggX9_chain_X9_clientOf
set_option maxRecDepth 20000 in
theorem ggX9_chain_X5_differencesUpToHere : GoodIn wsX9_chain wsX5_differencesUpToHere := goodIn_r _ [14, 15, 35, 36, 37] (by decide +kernel) (by decide +kernel)
set_option maxRecDepth 20000 in
theorem gX9_chain_X5_differencesUpToHere : GoodIn wsX9_chain (wsV RX9 195 RX5 yX5_differencesUpToHere wsX5_differencesUpToHere) := goodIn_app (goodIn_of _ (by decide +kernel)) ggX9_chain_X5_differencesUpToHere
theorem dX9_chain_0 : decode cX9_chain 0 = .ok (.aload_n 0, 1) := by decide +kernel
theorem dX9_chain_1 : decode cX9_chain 1 = .ok (.iload_n 1, 1) := by decide +kernel
theorem dX9_chain_2 : decode cX9_chain 2 = .ok (.invokevirtual 48, 3) := by decide +kernel
theorem dX9_chain_5 : decode cX9_chain 5 = .ok (.getfield 160, 3) := by decide +kernel
theorem dX9_chain_8 : decode cX9_chain 8 = .ok (.astore_n 2, 1) := by decide +kernel
theorem dX9_chain_9 : decode cX9_chain 9 = .ok (.aload_n 2, 1) := by decide +kernel
theorem dX9_chain_10 : decode cX9_chain 10 = .ok (.ifnonnull 7, 3) := by decide +kernel
theorem dX9_chain_13 : decode cX9_chain 13 = .ok (.iconst (-1), 1) := by decide +kernel
theorem dX9_chain_14 : decode cX9_chain 14 = .ok (.goto 7, 3) := by decide +kernel
theorem dX9_chain_17 : decode cX9_chain 17 = .ok (.aload_n 2, 1) := by decide +kernel
theorem dX9_chain_18 : decode cX9_chain 18 = .ok (.invokevirtual 195, 3) := by decide +kernel
theorem dX9_chain_21 : decode cX9_chain 21 = .ok (.ireturn, 1) := by decide +kernel
set_option maxRecDepth 20000 in
theorem ggX9_bytes_X9_linkOf : GoodIn wsX9_bytes wsX9_linkOf := goodIn_ca (goodIn_ca (goodIn_ca (goodIn_r _ [5, 6, 7, 8, 9, 10, 4, 11, 12, 13, 14, 15, 16, 17, 18, 19, 20, 21, 22, 23, 24, 25, 26, 27, 53, 54, 55, 56, 57, 58, 59, 60, 61, 62, 63, 64, 65, 66, 67, 68, 69, 70, 71] (by decide +kernel) (by decide +kernel)) (goodIn_sub (fun _ h => List.mem_cons_of_mem _ (List.mem_append_left _ (List.mem_append_left _ (List.mem_append_right _ h)))) (by decide +kernel))) (goodIn_sub (fun _ h => List.mem_cons_of_mem _ (List.mem_append_left _ (List.mem_append_right _ h))) (by decide +kernel))) (goodIn_sub (fun _ h => List.mem_cons_of_mem _ (List.mem_append_right _ h)) (by decide +kernel))
set_option maxRecDepth 20000 in
theorem gX9_bytes_X9_linkOf : GoodIn wsX9_bytes (wsV RX9 199 RX9 yX9_linkOf wsX9_linkOf) := goodIn_app (goodIn_of _ (by decide +kernel)) ggX9_bytes_X9_linkOf
set_option maxRecDepth 20000 in
theorem ggX9_bytes_X5_linkBytes : GoodIn wsX9_bytes wsX5_linkBytes := goodIn_r _ [32, 33, 34, 35, 36, 37, 38, 39, 40, 41, 42, 43, 44, 45, 46, 47, 48, 49, 50, 51, 52, 72, 73, 74, 75, 76, 77, 78] (by decide +kernel) (by decide +kernel)
set_option maxRecDepth 20000 in
theorem gX9_bytes_X5_linkBytes : GoodIn wsX9_bytes (wsV RX9 203 RX5 yX5_linkBytes wsX5_linkBytes) := goodIn_app (goodIn_of _ (by decide +kernel)) ggX9_bytes_X5_linkBytes
theorem dX9_bytes_0 : decode cX9_bytes 0 = .ok (.aload_n 0, 1) := by decide +kernel
theorem dX9_bytes_1 : decode cX9_bytes 1 = .ok (.iload_n 1, 1) := by decide +kernel
theorem dX9_bytes_2 : decode cX9_bytes 2 = .ok (.iload_n 2, 1) := by decide +kernel
theorem dX9_bytes_3 : decode cX9_bytes 3 = .ok (.invokevirtual 199, 3) := by decide +kernel
theorem dX9_bytes_6 : decode cX9_bytes 6 = .ok (.invokevirtual 203, 3) := by decide +kernel
theorem dX9_bytes_9 : decode cX9_bytes 9 = .ok (.ireturn, 1) := by decide +kernel
set_option maxRecDepth 20000 in
theorem ggX9_held_X9_linkOf : GoodIn wsX9_held wsX9_linkOf := goodIn_ca (goodIn_ca (goodIn_ca (goodIn_r _ [7, 8, 9, 10, 11, 12, 6, 13, 14, 15, 16, 17, 18, 19, 20, 21, 22, 23, 24, 25, 26, 27, 28, 29, 35, 36, 37, 38, 39, 40, 41, 42, 43, 44, 45, 46, 47, 48, 49, 50, 51, 52, 53] (by decide +kernel) (by decide +kernel)) (goodIn_sub (fun _ h => List.mem_cons_of_mem _ (List.mem_append_left _ (List.mem_append_left _ (List.mem_append_right _ h)))) (by decide +kernel))) (goodIn_sub (fun _ h => List.mem_cons_of_mem _ (List.mem_append_left _ (List.mem_append_right _ h))) (by decide +kernel))) (goodIn_sub (fun _ h => List.mem_cons_of_mem _ (List.mem_append_right _ h)) (by decide +kernel))
set_option maxRecDepth 20000 in
theorem gX9_held_X9_linkOf : GoodIn wsX9_held (wsV RX9 199 RX9 yX9_linkOf wsX9_linkOf) := goodIn_app (goodIn_of _ (by decide +kernel)) ggX9_held_X9_linkOf
theorem dX9_held_0 : decode cX9_held 0 = .ok (.aload_n 0, 1) := by decide +kernel
theorem dX9_held_1 : decode cX9_held 1 = .ok (.iload_n 1, 1) := by decide +kernel
theorem dX9_held_2 : decode cX9_held 2 = .ok (.iload_n 2, 1) := by decide +kernel
theorem dX9_held_3 : decode cX9_held 3 = .ok (.invokevirtual 199, 3) := by decide +kernel
theorem dX9_held_6 : decode cX9_held 6 = .ok (.getfield 205, 3) := by decide +kernel
theorem dX9_held_9 : decode cX9_held 9 = .ok (.getfield 209, 3) := by decide +kernel
theorem dX9_held_12 : decode cX9_held 12 = .ok (.ireturn, 1) := by decide +kernel
set_option maxRecDepth 20000 in
theorem ggX9_lengthOf_X9_linkOf : GoodIn wsX9_lengthOf wsX9_linkOf := goodIn_ca (goodIn_ca (goodIn_ca (goodIn_r _ [6, 7, 8, 9, 10, 11, 5, 12, 13, 14, 15, 16, 17, 18, 19, 20, 21, 22, 23, 24, 25, 26, 27, 28, 49, 50, 51, 52, 53, 54, 55, 56, 57, 58, 59, 60, 61, 62, 63, 64, 65, 66, 67] (by decide +kernel) (by decide +kernel)) (goodIn_sub (fun _ h => List.mem_cons_of_mem _ (List.mem_append_left _ (List.mem_append_left _ (List.mem_append_right _ h)))) (by decide +kernel))) (goodIn_sub (fun _ h => List.mem_cons_of_mem _ (List.mem_append_left _ (List.mem_append_right _ h))) (by decide +kernel))) (goodIn_sub (fun _ h => List.mem_cons_of_mem _ (List.mem_append_right _ h)) (by decide +kernel))
set_option maxRecDepth 20000 in
theorem gX9_lengthOf_X9_linkOf : GoodIn wsX9_lengthOf (wsV RX9 199 RX9 yX9_linkOf wsX9_linkOf) := goodIn_app (goodIn_of _ (by decide +kernel)) ggX9_lengthOf_X9_linkOf
set_option maxRecDepth 20000 in
theorem ggX9_lengthOf_X2_byteCount : GoodIn wsX9_lengthOf wsX2_byteCount := goodIn_r _ [33, 34, 35, 36, 37, 32, 38, 39, 40, 41, 42, 43, 44, 45, 68, 69, 70, 71] (by decide +kernel) (by decide +kernel)
set_option maxRecDepth 20000 in
theorem gX9_lengthOf_X2_byteCount : GoodIn wsX9_lengthOf (wsV RX9 217 RX2 yX2_byteCount wsX2_byteCount) := goodIn_app (goodIn_of _ (by decide +kernel)) ggX9_lengthOf_X2_byteCount
theorem dX9_lengthOf_0 : decode cX9_lengthOf 0 = .ok (.aload_n 0, 1) := by decide +kernel
theorem dX9_lengthOf_1 : decode cX9_lengthOf 1 = .ok (.iload_n 1, 1) := by decide +kernel
theorem dX9_lengthOf_2 : decode cX9_lengthOf 2 = .ok (.iload_n 2, 1) := by decide +kernel
theorem dX9_lengthOf_3 : decode cX9_lengthOf 3 = .ok (.invokevirtual 199, 3) := by decide +kernel
theorem dX9_lengthOf_6 : decode cX9_lengthOf 6 = .ok (.getfield 214, 3) := by decide +kernel
theorem dX9_lengthOf_9 : decode cX9_lengthOf 9 = .ok (.invokevirtual 217, 3) := by decide +kernel
theorem dX9_lengthOf_12 : decode cX9_lengthOf 12 = .ok (.ireturn, 1) := by decide +kernel
set_option maxRecDepth 20000 in
theorem ggX9_digestOf_X9_linkOf : GoodIn wsX9_digestOf wsX9_linkOf := goodIn_ca (goodIn_ca (goodIn_ca (goodIn_r _ [5, 6, 7, 8, 9, 10, 4, 11, 12, 13, 14, 15, 16, 17, 18, 19, 20, 21, 22, 23, 24, 25, 26, 27, 64, 65, 66, 67, 68, 69, 70, 71, 72, 73, 74, 75, 76, 77, 78, 79, 80, 81, 82] (by decide +kernel) (by decide +kernel)) (goodIn_sub (fun _ h => List.mem_cons_of_mem _ (List.mem_append_left _ (List.mem_append_left _ (List.mem_append_right _ h)))) (by decide +kernel))) (goodIn_sub (fun _ h => List.mem_cons_of_mem _ (List.mem_append_left _ (List.mem_append_right _ h))) (by decide +kernel))) (goodIn_sub (fun _ h => List.mem_cons_of_mem _ (List.mem_append_right _ h)) (by decide +kernel))
set_option maxRecDepth 20000 in
theorem gX9_digestOf_X9_linkOf : GoodIn wsX9_digestOf (wsV RX9 199 RX9 yX9_linkOf wsX9_linkOf) := goodIn_app (goodIn_of _ (by decide +kernel)) ggX9_digestOf_X9_linkOf
set_option maxRecDepth 20000 in
theorem ggX9_digestOf_X5_fingerprintFromChain : GoodIn wsX9_digestOf wsX5_fingerprintFromChain := goodIn_r _ [32, 33, 34, 35, 36, 37, 38, 39, 40, 41, 42, 43, 44, 31, 45, 46, 47, 48, 49, 50, 51, 52, 53, 54, 55, 56, 57, 58, 59, 60, 61, 62, 4, 63, 83, 84, 85, 86, 87, 88, 89] (by decide +kernel) (by decide +kernel)
set_option maxRecDepth 20000 in
theorem gX9_digestOf_X5_fingerprintFromChain : GoodIn wsX9_digestOf (wsV RX9 220 RX5 yX5_fingerprintFromChain wsX5_fingerprintFromChain) := goodIn_app (goodIn_of _ (by decide +kernel)) ggX9_digestOf_X5_fingerprintFromChain
theorem dX9_digestOf_0 : decode cX9_digestOf 0 = .ok (.aload_n 0, 1) := by decide +kernel
theorem dX9_digestOf_1 : decode cX9_digestOf 1 = .ok (.iload_n 1, 1) := by decide +kernel
theorem dX9_digestOf_2 : decode cX9_digestOf 2 = .ok (.iload_n 2, 1) := by decide +kernel
theorem dX9_digestOf_3 : decode cX9_digestOf 3 = .ok (.invokevirtual 199, 3) := by decide +kernel
theorem dX9_digestOf_6 : decode cX9_digestOf 6 = .ok (.invokevirtual 220, 3) := by decide +kernel
theorem dX9_digestOf_9 : decode cX9_digestOf 9 = .ok (.lreturn, 1) := by decide +kernel
set_option maxRecDepth 20000 in
theorem ggX9_digestByChunks_X9_linkOf : GoodIn wsX9_digestByChunks wsX9_linkOf := goodIn_ca (goodIn_ca (goodIn_ca (goodIn_r _ [6, 7, 8, 9, 10, 11, 5, 12, 13, 14, 15, 16, 17, 18, 19, 20, 21, 22, 23, 24, 25, 26, 27, 28, 51, 52, 53, 54, 55, 56, 57, 58, 59, 60, 61, 62, 63, 64, 65, 66, 67, 68, 69] (by decide +kernel) (by decide +kernel)) (goodIn_sub (fun _ h => List.mem_cons_of_mem _ (List.mem_append_left _ (List.mem_append_left _ (List.mem_append_right _ h)))) (by decide +kernel))) (goodIn_sub (fun _ h => List.mem_cons_of_mem _ (List.mem_append_left _ (List.mem_append_right _ h))) (by decide +kernel))) (goodIn_sub (fun _ h => List.mem_cons_of_mem _ (List.mem_append_right _ h)) (by decide +kernel))
set_option maxRecDepth 20000 in
theorem gX9_digestByChunks_X9_linkOf : GoodIn wsX9_digestByChunks (wsV RX9 199 RX9 yX9_linkOf wsX9_linkOf) := goodIn_app (goodIn_of _ (by decide +kernel)) ggX9_digestByChunks_X9_linkOf
set_option maxRecDepth 20000 in
theorem ggX9_digestByChunks_X2_fingerprint : GoodIn wsX9_digestByChunks wsX2_fingerprint := goodIn_r _ [33, 34, 35, 36, 37, 32, 38, 39, 40, 41, 42, 43, 44, 45, 46, 5, 47, 70, 71, 72, 73] (by decide +kernel) (by decide +kernel)
set_option maxRecDepth 20000 in
theorem gX9_digestByChunks_X2_fingerprint : GoodIn wsX9_digestByChunks (wsV RX9 223 RX2 yX2_fingerprint wsX2_fingerprint) := goodIn_app (goodIn_of _ (by decide +kernel)) ggX9_digestByChunks_X2_fingerprint
theorem dX9_digestByChunks_0 : decode cX9_digestByChunks 0 = .ok (.aload_n 0, 1) := by decide +kernel
theorem dX9_digestByChunks_1 : decode cX9_digestByChunks 1 = .ok (.iload_n 1, 1) := by decide +kernel
theorem dX9_digestByChunks_2 : decode cX9_digestByChunks 2 = .ok (.iload_n 2, 1) := by decide +kernel
theorem dX9_digestByChunks_3 : decode cX9_digestByChunks 3 = .ok (.invokevirtual 199, 3) := by decide +kernel
theorem dX9_digestByChunks_6 : decode cX9_digestByChunks 6 = .ok (.getfield 214, 3) := by decide +kernel
theorem dX9_digestByChunks_9 : decode cX9_digestByChunks 9 = .ok (.invokevirtual 223, 3) := by decide +kernel
theorem dX9_digestByChunks_12 : decode cX9_digestByChunks 12 = .ok (.lreturn, 1) := by decide +kernel
set_option maxRecDepth 20000 in
theorem ggX9_restore_X9_linkOf : GoodIn wsX9_restore wsX9_linkOf := goodIn_ca (goodIn_ca (goodIn_ca (goodIn_r _ [7, 8, 9, 10, 11, 12, 6, 13, 14, 15, 16, 17, 18, 19, 20, 21, 22, 23, 24, 25, 26, 27, 28, 29, 75, 76, 77, 78, 79, 80, 59, 60, 61, 62, 63, 64, 65, 66, 67, 68, 69, 70, 71] (by decide +kernel) (by decide +kernel)) (goodIn_sub (fun _ h => List.mem_cons_of_mem _ (List.mem_append_left _ (List.mem_append_left _ (List.mem_append_right _ h)))) (by decide +kernel))) (goodIn_sub (fun _ h => List.mem_cons_of_mem _ (List.mem_append_left _ (List.mem_append_right _ h))) (by decide +kernel))) (goodIn_sub (fun _ h => List.mem_cons_of_mem _ (List.mem_append_right _ h)) (by decide +kernel))
set_option maxRecDepth 20000 in
theorem gX9_restore_X9_linkOf : GoodIn wsX9_restore (wsV RX9 199 RX9 yX9_linkOf wsX9_linkOf) := goodIn_app (goodIn_of _ (by decide +kernel)) ggX9_restore_X9_linkOf
set_option maxRecDepth 20000 in
theorem ggX9_restore_X9_clientOf : GoodIn wsX9_restore wsX9_clientOf := goodIn_ca (goodIn_r _ [13, 14, 15, 16, 75, 76, 77, 78, 79, 80] (by decide +kernel) (by decide +kernel)) (goodIn_sub (fun _ h => List.mem_cons_of_mem _ (List.mem_append_left _ (List.mem_append_right _ h))) (by decide +kernel))
set_option maxRecDepth 20000 in
theorem gX9_restore_X9_clientOf : GoodIn wsX9_restore (wsV RX9 48 RX9 yX9_clientOf wsX9_clientOf) := goodIn_app (goodIn_of _ (by decide +kernel)) ggX9_restore_X9_clientOf
set_option maxRecDepth 20000 in
theorem ggX9_restore_X0_become : GoodIn wsX9_restore wsX0_become := goodIn_r _ [34, 35, 36, 37, 38, 39, 40, 41, 42, 43, 44, 45, 46, 47, 48, 49, 50, 51, 52, 53, 54, 55, 56, 57, 58, 81, 82, 83, 84, 85, 86, 87, 88] (by decide +kernel) (by decide +kernel)
set_option maxRecDepth 20000 in
theorem gX9_restore_X0_become : GoodIn wsX9_restore (wsV RX9 224 RX0 yX0_become wsX0_become) := goodIn_app (goodIn_of _ (by decide +kernel)) ggX9_restore_X0_become
theorem dX9_restore_0 : decode cX9_restore 0 = .ok (.aload_n 0, 1) := by decide +kernel
theorem dX9_restore_1 : decode cX9_restore 1 = .ok (.iload_n 1, 1) := by decide +kernel
theorem dX9_restore_2 : decode cX9_restore 2 = .ok (.iload_n 2, 1) := by decide +kernel
theorem dX9_restore_3 : decode cX9_restore 3 = .ok (.invokevirtual 199, 3) := by decide +kernel
theorem dX9_restore_6 : decode cX9_restore 6 = .ok (.astore_n 3, 1) := by decide +kernel
theorem dX9_restore_7 : decode cX9_restore 7 = .ok (.aload_n 0, 1) := by decide +kernel
theorem dX9_restore_8 : decode cX9_restore 8 = .ok (.iload_n 1, 1) := by decide +kernel
theorem dX9_restore_9 : decode cX9_restore 9 = .ok (.invokevirtual 48, 3) := by decide +kernel
theorem dX9_restore_12 : decode cX9_restore 12 = .ok (.getfield 52, 3) := by decide +kernel
theorem dX9_restore_15 : decode cX9_restore 15 = .ok (.aload_n 3, 1) := by decide +kernel
theorem dX9_restore_16 : decode cX9_restore 16 = .ok (.getfield 214, 3) := by decide +kernel
theorem dX9_restore_19 : decode cX9_restore 19 = .ok (.invokevirtual 224, 3) := by decide +kernel
theorem dX9_restore_22 : decode cX9_restore 22 = .ok (.ireturn, 1) := by decide +kernel
set_option maxRecDepth 20000 in
theorem ggX9_setSpeed_X9_needRange : GoodIn wsX9_setSpeed wsX9_needRange := goodIn_ca (goodIn_r _ [7, 8, 9] (by decide +kernel) (by decide +kernel)) (goodIn_sub (fun _ h => List.mem_cons_of_mem _ (List.mem_append_right _ h)) (by decide +kernel))
set_option maxRecDepth 20000 in
theorem gX9_setSpeed_X9_needRange : GoodIn wsX9_setSpeed (va_wsS RX9 56 yX9_needRange wsX9_needRange) := goodIn_app (goodIn_of _ (by decide +kernel)) ggX9_setSpeed_X9_needRange
theorem dX9_setSpeed_0 : decode cX9_setSpeed 0 = .ok (.iload_n 1, 1) := by decide +kernel
theorem dX9_setSpeed_1 : decode cX9_setSpeed 1 = .ok (.iconst 0, 1) := by decide +kernel
theorem dX9_setSpeed_2 : decode cX9_setSpeed 2 = .ok (.bipush 30, 2) := by decide +kernel
theorem dX9_setSpeed_4 : decode cX9_setSpeed 4 = .ok (.invokestatic 56, 3) := by decide +kernel
theorem dX9_setSpeed_7 : decode cX9_setSpeed 7 = .ok (.iload_n 2, 1) := by decide +kernel
theorem dX9_setSpeed_8 : decode cX9_setSpeed 8 = .ok (.iconst 1, 1) := by decide +kernel
theorem dX9_setSpeed_9 : decode cX9_setSpeed 9 = .ok (.bipush 50, 2) := by decide +kernel
theorem dX9_setSpeed_11 : decode cX9_setSpeed 11 = .ok (.invokestatic 56, 3) := by decide +kernel
theorem dX9_setSpeed_14 : decode cX9_setSpeed 14 = .ok (.aload_n 0, 1) := by decide +kernel
theorem dX9_setSpeed_15 : decode cX9_setSpeed 15 = .ok (.getfield 39, 3) := by decide +kernel
theorem dX9_setSpeed_18 : decode cX9_setSpeed 18 = .ok (.iload_n 1, 1) := by decide +kernel
theorem dX9_setSpeed_19 : decode cX9_setSpeed 19 = .ok (.putfield 228, 3) := by decide +kernel
theorem dX9_setSpeed_22 : decode cX9_setSpeed 22 = .ok (.aload_n 0, 1) := by decide +kernel
theorem dX9_setSpeed_23 : decode cX9_setSpeed 23 = .ok (.getfield 39, 3) := by decide +kernel
theorem dX9_setSpeed_26 : decode cX9_setSpeed 26 = .ok (.iload_n 2, 1) := by decide +kernel
theorem dX9_setSpeed_27 : decode cX9_setSpeed 27 = .ok (.putfield 231, 3) := by decide +kernel
theorem dX9_setSpeed_30 : decode cX9_setSpeed 30 = .ok (.return_, 1) := by decide +kernel
set_option maxRecDepth 20000 in
theorem ggX9_mounts_X9_linkOf : GoodIn wsX9_mounts wsX9_linkOf := goodIn_ca (goodIn_ca (goodIn_ca (goodIn_r _ [5, 6, 7, 8, 9, 10, 4, 11, 12, 13, 14, 15, 16, 17, 18, 19, 20, 21, 22, 23, 24, 25, 26, 27, 56, 57, 58, 59, 60, 61, 62, 63, 64, 65, 66, 67, 68, 69, 70, 71, 72, 73, 74] (by decide +kernel) (by decide +kernel)) (goodIn_sub (fun _ h => List.mem_cons_of_mem _ (List.mem_append_left _ (List.mem_append_left _ (List.mem_append_right _ h)))) (by decide +kernel))) (goodIn_sub (fun _ h => List.mem_cons_of_mem _ (List.mem_append_left _ (List.mem_append_right _ h))) (by decide +kernel))) (goodIn_sub (fun _ h => List.mem_cons_of_mem _ (List.mem_append_right _ h)) (by decide +kernel))
set_option maxRecDepth 20000 in
theorem gX9_mounts_X9_linkOf : GoodIn wsX9_mounts (wsV RX9 199 RX9 yX9_linkOf wsX9_linkOf) := goodIn_app (goodIn_of _ (by decide +kernel)) ggX9_mounts_X9_linkOf
set_option maxRecDepth 20000 in
theorem ggX9_mounts_X5_linksToMount : GoodIn wsX9_mounts wsX5_linksToMount := goodIn_r _ [32, 33, 34, 35, 36, 37, 31, 38, 39, 40, 41, 42, 43, 44, 45, 46, 47, 48, 49, 50, 51, 52, 53, 54, 55, 75, 76, 77, 78, 79] (by decide +kernel) (by decide +kernel)
set_option maxRecDepth 20000 in
theorem gX9_mounts_X5_linksToMount : GoodIn wsX9_mounts (wsV RX9 234 RX5 yX5_linksToMount wsX5_linksToMount) := goodIn_app (goodIn_of _ (by decide +kernel)) ggX9_mounts_X5_linksToMount
theorem dX9_mounts_0 : decode cX9_mounts 0 = .ok (.aload_n 0, 1) := by decide +kernel
theorem dX9_mounts_1 : decode cX9_mounts 1 = .ok (.iload_n 1, 1) := by decide +kernel
theorem dX9_mounts_2 : decode cX9_mounts 2 = .ok (.iload_n 2, 1) := by decide +kernel
theorem dX9_mounts_3 : decode cX9_mounts 3 = .ok (.invokevirtual 199, 3) := by decide +kernel
theorem dX9_mounts_6 : decode cX9_mounts 6 = .ok (.invokevirtual 234, 3) := by decide +kernel
theorem dX9_mounts_9 : decode cX9_mounts 9 = .ok (.ireturn, 1) := by decide +kernel
set_option maxRecDepth 20000 in
theorem ggX9_minutes_X9_linkOf : GoodIn wsX9_minutes wsX9_linkOf := goodIn_ca (goodIn_ca (goodIn_ca (goodIn_r _ [6, 7, 8, 9, 10, 11, 5, 12, 13, 14, 15, 16, 17, 18, 19, 20, 21, 22, 23, 24, 25, 26, 27, 28, 83, 84, 85, 86, 87, 88, 89, 90, 91, 92, 93, 94, 95, 96, 97, 98, 99, 100, 101] (by decide +kernel) (by decide +kernel)) (goodIn_sub (fun _ h => List.mem_cons_of_mem _ (List.mem_append_left _ (List.mem_append_left _ (List.mem_append_right _ h)))) (by decide +kernel))) (goodIn_sub (fun _ h => List.mem_cons_of_mem _ (List.mem_append_left _ (List.mem_append_right _ h))) (by decide +kernel))) (goodIn_sub (fun _ h => List.mem_cons_of_mem _ (List.mem_append_right _ h)) (by decide +kernel))
set_option maxRecDepth 20000 in
theorem gX9_minutes_X9_linkOf : GoodIn wsX9_minutes (wsV RX9 199 RX9 yX9_linkOf wsX9_linkOf) := goodIn_app (goodIn_of _ (by decide +kernel)) ggX9_minutes_X9_linkOf
set_option maxRecDepth 20000 in
theorem ggX9_minutes_X8_minutesFor : GoodIn wsX9_minutes wsX8_minutesFor := goodIn_r _ [33, 34, 35, 36, 37, 38, 39, 40, 41, 42, 43, 44, 45, 46, 47, 48, 49, 50, 51, 52, 53, 54, 55, 56, 57, 58, 59, 60, 61, 62, 63, 64, 65, 66, 67, 68, 69, 70, 71, 72, 73, 74, 75, 76, 77, 78, 79, 80, 81, 82, 102, 103, 104, 105, 106, 107, 108, 109, 110] (by decide +kernel) (by decide +kernel)
set_option maxRecDepth 20000 in
theorem gX9_minutes_X8_minutesFor : GoodIn wsX9_minutes (wsV RX9 237 RX8 yX8_minutesFor wsX8_minutesFor) := goodIn_app (goodIn_of _ (by decide +kernel)) ggX9_minutes_X8_minutesFor
theorem dX9_minutes_0 : decode cX9_minutes 0 = .ok (.aload_n 0, 1) := by decide +kernel
theorem dX9_minutes_1 : decode cX9_minutes 1 = .ok (.getfield 39, 3) := by decide +kernel
theorem dX9_minutes_4 : decode cX9_minutes 4 = .ok (.aload_n 0, 1) := by decide +kernel
theorem dX9_minutes_5 : decode cX9_minutes 5 = .ok (.iload_n 1, 1) := by decide +kernel
theorem dX9_minutes_6 : decode cX9_minutes 6 = .ok (.iload_n 2, 1) := by decide +kernel
theorem dX9_minutes_7 : decode cX9_minutes 7 = .ok (.invokevirtual 199, 3) := by decide +kernel
theorem dX9_minutes_10 : decode cX9_minutes 10 = .ok (.invokevirtual 237, 3) := by decide +kernel
theorem dX9_minutes_13 : decode cX9_minutes 13 = .ok (.freturn, 1) := by decide +kernel
set_option maxRecDepth 20000 in
theorem ggX9_promise_X9_clientOf : GoodIn wsX9_promise wsX9_clientOf := goodIn_ca (goodIn_r _ [7, 8, 9, 10, 27, 28, 29, 30, 31, 32] (by decide +kernel) (by decide +kernel)) (goodIn_sub (fun _ h => List.mem_cons_of_mem _ (List.mem_append_right _ h)) (by decide +kernel))
set_option maxRecDepth 20000 in
theorem gX9_promise_X9_clientOf : GoodIn wsX9_promise (wsV RX9 48 RX9 yX9_clientOf wsX9_clientOf) := goodIn_app (goodIn_of _ (by decide +kernel)) ggX9_promise_X9_clientOf
set_option maxRecDepth 20000 in
theorem ggX9_promise_X9_needRange : GoodIn wsX9_promise wsX9_needRange := goodIn_ca (goodIn_r _ [13, 8, 9] (by decide +kernel) (by decide +kernel)) (goodIn_sub (fun _ h => List.mem_cons_of_mem _ (List.mem_append_right _ h)) (by decide +kernel))
set_option maxRecDepth 20000 in
theorem gX9_promise_X9_needRange : GoodIn wsX9_promise (va_wsS RX9 56 yX9_needRange wsX9_needRange) := goodIn_app (goodIn_of _ (by decide +kernel)) ggX9_promise_X9_needRange
theorem dX9_promise_0 : decode cX9_promise 0 = .ok (.aload_n 0, 1) := by decide +kernel
theorem dX9_promise_1 : decode cX9_promise 1 = .ok (.iload_n 1, 1) := by decide +kernel
theorem dX9_promise_2 : decode cX9_promise 2 = .ok (.invokevirtual 48, 3) := by decide +kernel
theorem dX9_promise_5 : decode cX9_promise 5 = .ok (.astore 4, 2) := by decide +kernel
theorem dX9_promise_7 : decode cX9_promise 7 = .ok (.iload_n 2, 1) := by decide +kernel
theorem dX9_promise_8 : decode cX9_promise 8 = .ok (.iconst 0, 1) := by decide +kernel
theorem dX9_promise_9 : decode cX9_promise 9 = .ok (.sipush 600, 3) := by decide +kernel
theorem dX9_promise_12 : decode cX9_promise 12 = .ok (.invokestatic 56, 3) := by decide +kernel
theorem dX9_promise_15 : decode cX9_promise 15 = .ok (.iload_n 3, 1) := by decide +kernel
theorem dX9_promise_16 : decode cX9_promise 16 = .ok (.iconst 0, 1) := by decide +kernel
theorem dX9_promise_17 : decode cX9_promise 17 = .ok (.bipush 100, 2) := by decide +kernel
theorem dX9_promise_19 : decode cX9_promise 19 = .ok (.invokestatic 56, 3) := by decide +kernel
theorem dX9_promise_22 : decode cX9_promise 22 = .ok (.aload 4, 2) := by decide +kernel
theorem dX9_promise_24 : decode cX9_promise 24 = .ok (.iload_n 2, 1) := by decide +kernel
theorem dX9_promise_25 : decode cX9_promise 25 = .ok (.putfield 246, 3) := by decide +kernel
theorem dX9_promise_28 : decode cX9_promise 28 = .ok (.aload 4, 2) := by decide +kernel
theorem dX9_promise_30 : decode cX9_promise 30 = .ok (.iload_n 3, 1) := by decide +kernel
theorem dX9_promise_31 : decode cX9_promise 31 = .ok (.putfield 249, 3) := by decide +kernel
theorem dX9_promise_34 : decode cX9_promise 34 = .ok (.return_, 1) := by decide +kernel
set_option maxRecDepth 20000 in
theorem ggX9_drill_X9_clientOf : GoodIn wsX9_drill wsX9_clientOf := goodIn_ca (goodIn_r _ [10, 11, 12, 13, 89, 90, 91, 92, 93, 94] (by decide +kernel) (by decide +kernel)) (goodIn_sub (fun _ h => List.mem_cons_of_mem _ (List.mem_append_right _ h)) (by decide +kernel))
set_option maxRecDepth 20000 in
theorem gX9_drill_X9_clientOf : GoodIn wsX9_drill (wsV RX9 48 RX9 yX9_clientOf wsX9_clientOf) := goodIn_app (goodIn_of _ (by decide +kernel)) ggX9_drill_X9_clientOf
set_option maxRecDepth 20000 in
theorem ggX9_drill_X8_minutesFor : GoodIn wsX9_drill wsX8_minutesFor := goodIn_r _ [18, 19, 20, 21, 22, 23, 24, 25, 26, 27, 28, 29, 30, 31, 32, 33, 34, 35, 36, 37, 38, 39, 40, 41, 42, 43, 44, 45, 46, 47, 48, 49, 50, 51, 52, 53, 54, 55, 56, 57, 58, 59, 60, 61, 62, 63, 64, 65, 66, 67, 95, 96, 97, 98, 99, 100, 101, 102, 103] (by decide +kernel) (by decide +kernel)
set_option maxRecDepth 20000 in
theorem gX9_drill_X8_minutesFor : GoodIn wsX9_drill (wsV RX9 237 RX8 yX8_minutesFor wsX8_minutesFor) := goodIn_app (goodIn_of _ (by decide +kernel)) ggX9_drill_X8_minutesFor
set_option maxRecDepth 20000 in
theorem ggX9_drill_X3_payFor : GoodIn wsX9_drill wsX3_payFor := goodIn_r _ [72, 73, 74, 22, 23, 24, 75, 76, 77, 78, 79, 80, 81, 82, 83, 84, 85, 86, 87, 88] (by decide +kernel) (by decide +kernel)
set_option maxRecDepth 20000 in
theorem gX9_drill_X3_payFor : GoodIn wsX9_drill (wsV RX9 254 RX3 yX3_payFor wsX3_payFor) := goodIn_app (goodIn_of _ (by decide +kernel)) ggX9_drill_X3_payFor
theorem dX9_drill_0 : decode cX9_drill 0 = .ok (.aload_n 0, 1) := by decide +kernel
theorem dX9_drill_1 : decode cX9_drill 1 = .ok (.iload_n 1, 1) := by decide +kernel
theorem dX9_drill_2 : decode cX9_drill 2 = .ok (.invokevirtual 48, 3) := by decide +kernel
theorem dX9_drill_5 : decode cX9_drill 5 = .ok (.astore_n 2, 1) := by decide +kernel
theorem dX9_drill_6 : decode cX9_drill 6 = .ok (.aload_n 2, 1) := by decide +kernel
theorem dX9_drill_7 : decode cX9_drill 7 = .ok (.getfield 160, 3) := by decide +kernel
theorem dX9_drill_10 : decode cX9_drill 10 = .ok (.ifnonnull 13, 3) := by decide +kernel
theorem dX9_drill_13 : decode cX9_drill 13 = .ok (.new 76, 3) := by decide +kernel
theorem dX9_drill_16 : decode cX9_drill 16 = .ok (.dup, 1) := by decide +kernel
theorem dX9_drill_17 : decode cX9_drill 17 = .ok (.ldc 252, 2) := by decide +kernel
theorem dX9_drill_19 : decode cX9_drill 19 = .ok (.invokespecial 80, 3) := by decide +kernel
theorem dX9_drill_22 : decode cX9_drill 22 = .ok (.athrow, 1) := by decide +kernel
theorem dX9_drill_23 : decode cX9_drill 23 = .ok (.aload_n 2, 1) := by decide +kernel
theorem dX9_drill_24 : decode cX9_drill 24 = .ok (.aload_n 0, 1) := by decide +kernel
theorem dX9_drill_25 : decode cX9_drill 25 = .ok (.getfield 39, 3) := by decide +kernel
theorem dX9_drill_28 : decode cX9_drill 28 = .ok (.aload_n 2, 1) := by decide +kernel
theorem dX9_drill_29 : decode cX9_drill 29 = .ok (.getfield 160, 3) := by decide +kernel
theorem dX9_drill_32 : decode cX9_drill 32 = .ok (.invokevirtual 237, 3) := by decide +kernel
theorem dX9_drill_35 : decode cX9_drill 35 = .ok (.invokevirtual 254, 3) := by decide +kernel
theorem dX9_drill_38 : decode cX9_drill 38 = .ok (.istore_n 3, 1) := by decide +kernel
theorem dX9_drill_39 : decode cX9_drill 39 = .ok (.aload_n 2, 1) := by decide +kernel
theorem dX9_drill_40 : decode cX9_drill 40 = .ok (.dup, 1) := by decide +kernel
theorem dX9_drill_41 : decode cX9_drill 41 = .ok (.getfield 257, 3) := by decide +kernel
theorem dX9_drill_44 : decode cX9_drill 44 = .ok (.iload_n 3, 1) := by decide +kernel
theorem dX9_drill_45 : decode cX9_drill 45 = .ok (.iadd, 1) := by decide +kernel
theorem dX9_drill_46 : decode cX9_drill 46 = .ok (.putfield 257, 3) := by decide +kernel
theorem dX9_drill_49 : decode cX9_drill 49 = .ok (.iload_n 3, 1) := by decide +kernel
theorem dX9_drill_50 : decode cX9_drill 50 = .ok (.ireturn, 1) := by decide +kernel
set_option maxRecDepth 20000 in
theorem ggX9_paid_X9_clientOf : GoodIn wsX9_paid wsX9_clientOf := goodIn_ca (goodIn_r _ [6, 7, 8, 9, 23, 24, 25, 26, 27, 28] (by decide +kernel) (by decide +kernel)) (goodIn_sub (fun _ h => List.mem_cons_of_mem _ (List.mem_append_right _ h)) (by decide +kernel))
set_option maxRecDepth 20000 in
theorem gX9_paid_X9_clientOf : GoodIn wsX9_paid (wsV RX9 48 RX9 yX9_clientOf wsX9_clientOf) := goodIn_app (goodIn_of _ (by decide +kernel)) ggX9_paid_X9_clientOf
theorem dX9_paid_0 : decode cX9_paid 0 = .ok (.aload_n 0, 1) := by decide +kernel
theorem dX9_paid_1 : decode cX9_paid 1 = .ok (.iload_n 1, 1) := by decide +kernel
theorem dX9_paid_2 : decode cX9_paid 2 = .ok (.invokevirtual 48, 3) := by decide +kernel
theorem dX9_paid_5 : decode cX9_paid 5 = .ok (.getfield 260, 3) := by decide +kernel
theorem dX9_paid_8 : decode cX9_paid 8 = .ok (.ireturn, 1) := by decide +kernel
set_option maxRecDepth 20000 in
theorem ggX9_owed_X9_clientOf : GoodIn wsX9_owed wsX9_clientOf := goodIn_ca (goodIn_r _ [6, 7, 8, 9, 23, 24, 25, 26, 27, 28] (by decide +kernel) (by decide +kernel)) (goodIn_sub (fun _ h => List.mem_cons_of_mem _ (List.mem_append_right _ h)) (by decide +kernel))
set_option maxRecDepth 20000 in
theorem gX9_owed_X9_clientOf : GoodIn wsX9_owed (wsV RX9 48 RX9 yX9_clientOf wsX9_clientOf) := goodIn_app (goodIn_of _ (by decide +kernel)) ggX9_owed_X9_clientOf
theorem dX9_owed_0 : decode cX9_owed 0 = .ok (.aload_n 0, 1) := by decide +kernel
theorem dX9_owed_1 : decode cX9_owed 1 = .ok (.iload_n 1, 1) := by decide +kernel
theorem dX9_owed_2 : decode cX9_owed 2 = .ok (.invokevirtual 48, 3) := by decide +kernel
theorem dX9_owed_5 : decode cX9_owed 5 = .ok (.getfield 257, 3) := by decide +kernel
theorem dX9_owed_8 : decode cX9_owed 8 = .ok (.ireturn, 1) := by decide +kernel
theorem dX9_purse_0 : decode cX9_purse 0 = .ok (.iconst 0, 1) := by decide +kernel
theorem dX9_purse_1 : decode cX9_purse 1 = .ok (.istore_n 1, 1) := by decide +kernel
theorem dX9_purse_2 : decode cX9_purse 2 = .ok (.iconst 0, 1) := by decide +kernel
theorem dX9_purse_3 : decode cX9_purse 3 = .ok (.istore_n 2, 1) := by decide +kernel
theorem dX9_purse_4 : decode cX9_purse 4 = .ok (.iload_n 2, 1) := by decide +kernel
theorem dX9_purse_5 : decode cX9_purse 5 = .ok (.aload_n 0, 1) := by decide +kernel
theorem dX9_purse_6 : decode cX9_purse 6 = .ok (.getfield 11, 3) := by decide +kernel
theorem dX9_purse_9 : decode cX9_purse 9 = .ok (.arraylength, 1) := by decide +kernel
theorem dX9_purse_10 : decode cX9_purse 10 = .ok (.if_icmp .ge 32, 3) := by decide +kernel
theorem dX9_purse_13 : decode cX9_purse 13 = .ok (.aload_n 0, 1) := by decide +kernel
theorem dX9_purse_14 : decode cX9_purse 14 = .ok (.getfield 11, 3) := by decide +kernel
theorem dX9_purse_17 : decode cX9_purse 17 = .ok (.iload_n 2, 1) := by decide +kernel
theorem dX9_purse_18 : decode cX9_purse 18 = .ok (.aaload, 1) := by decide +kernel
theorem dX9_purse_19 : decode cX9_purse 19 = .ok (.astore_n 3, 1) := by decide +kernel
theorem dX9_purse_20 : decode cX9_purse 20 = .ok (.aload_n 3, 1) := by decide +kernel
theorem dX9_purse_21 : decode cX9_purse 21 = .ok (.ifnull 15, 3) := by decide +kernel
theorem dX9_purse_24 : decode cX9_purse 24 = .ok (.iload_n 1, 1) := by decide +kernel
theorem dX9_purse_25 : decode cX9_purse 25 = .ok (.aload_n 3, 1) := by decide +kernel
theorem dX9_purse_26 : decode cX9_purse 26 = .ok (.getfield 260, 3) := by decide +kernel
theorem dX9_purse_29 : decode cX9_purse 29 = .ok (.aload_n 3, 1) := by decide +kernel
theorem dX9_purse_30 : decode cX9_purse 30 = .ok (.getfield 257, 3) := by decide +kernel
theorem dX9_purse_33 : decode cX9_purse 33 = .ok (.isub, 1) := by decide +kernel
theorem dX9_purse_34 : decode cX9_purse 34 = .ok (.iadd, 1) := by decide +kernel
theorem dX9_purse_35 : decode cX9_purse 35 = .ok (.istore_n 1, 1) := by decide +kernel
theorem dX9_purse_36 : decode cX9_purse 36 = .ok (.iinc 2 1, 3) := by decide +kernel
theorem dX9_purse_39 : decode cX9_purse 39 = .ok (.goto (-35), 3) := by decide +kernel
theorem dX9_purse_42 : decode cX9_purse 42 = .ok (.iload_n 1, 1) := by decide +kernel
theorem dX9_purse_43 : decode cX9_purse 43 = .ok (.ireturn, 1) := by decide +kernel
theorem dX9_clientOf_0 : decode cX9_clientOf 0 = .ok (.iload_n 1, 1) := by decide +kernel
theorem dX9_clientOf_1 : decode cX9_clientOf 1 = .ok (.ifCond .lt 21, 3) := by decide +kernel
theorem dX9_clientOf_4 : decode cX9_clientOf 4 = .ok (.iload_n 1, 1) := by decide +kernel
theorem dX9_clientOf_5 : decode cX9_clientOf 5 = .ok (.aload_n 0, 1) := by decide +kernel
theorem dX9_clientOf_6 : decode cX9_clientOf 6 = .ok (.getfield 11, 3) := by decide +kernel
theorem dX9_clientOf_9 : decode cX9_clientOf 9 = .ok (.arraylength, 1) := by decide +kernel
theorem dX9_clientOf_10 : decode cX9_clientOf 10 = .ok (.if_icmp .ge 12, 3) := by decide +kernel
theorem dX9_clientOf_13 : decode cX9_clientOf 13 = .ok (.aload_n 0, 1) := by decide +kernel
theorem dX9_clientOf_14 : decode cX9_clientOf 14 = .ok (.getfield 11, 3) := by decide +kernel
theorem dX9_clientOf_17 : decode cX9_clientOf 17 = .ok (.iload_n 1, 1) := by decide +kernel
theorem dX9_clientOf_18 : decode cX9_clientOf 18 = .ok (.aaload, 1) := by decide +kernel
theorem dX9_clientOf_19 : decode cX9_clientOf 19 = .ok (.goto 4, 3) := by decide +kernel
theorem dX9_clientOf_22 : decode cX9_clientOf 22 = .ok (.aconst_null, 1) := by decide +kernel
theorem dX9_clientOf_23 : decode cX9_clientOf 23 = .ok (.astore_n 2, 1) := by decide +kernel
theorem dX9_clientOf_24 : decode cX9_clientOf 24 = .ok (.aload_n 2, 1) := by decide +kernel
theorem dX9_clientOf_25 : decode cX9_clientOf 25 = .ok (.ifnonnull 14, 3) := by decide +kernel
theorem dX9_clientOf_28 : decode cX9_clientOf 28 = .ok (.new 263, 3) := by decide +kernel
theorem dX9_clientOf_31 : decode cX9_clientOf 31 = .ok (.dup, 1) := by decide +kernel
theorem dX9_clientOf_32 : decode cX9_clientOf 32 = .ok (.ldc_w 265, 3) := by decide +kernel
theorem dX9_clientOf_35 : decode cX9_clientOf 35 = .ok (.invokespecial 267, 3) := by decide +kernel
theorem dX9_clientOf_38 : decode cX9_clientOf 38 = .ok (.athrow, 1) := by decide +kernel
theorem dX9_clientOf_39 : decode cX9_clientOf 39 = .ok (.aload_n 2, 1) := by decide +kernel
theorem dX9_clientOf_40 : decode cX9_clientOf 40 = .ok (.areturn, 1) := by decide +kernel
theorem dX9_needRange_0 : decode cX9_needRange 0 = .ok (.iload_n 0, 1) := by decide +kernel
theorem dX9_needRange_1 : decode cX9_needRange 1 = .ok (.iload_n 1, 1) := by decide +kernel
theorem dX9_needRange_2 : decode cX9_needRange 2 = .ok (.if_icmp .lt 8, 3) := by decide +kernel
theorem dX9_needRange_5 : decode cX9_needRange 5 = .ok (.iload_n 0, 1) := by decide +kernel
theorem dX9_needRange_6 : decode cX9_needRange 6 = .ok (.iload_n 2, 1) := by decide +kernel
theorem dX9_needRange_7 : decode cX9_needRange 7 = .ok (.if_icmp .le 14, 3) := by decide +kernel
theorem dX9_needRange_10 : decode cX9_needRange 10 = .ok (.new 263, 3) := by decide +kernel
theorem dX9_needRange_13 : decode cX9_needRange 13 = .ok (.dup, 1) := by decide +kernel
theorem dX9_needRange_14 : decode cX9_needRange 14 = .ok (.ldc_w 268, 3) := by decide +kernel
theorem dX9_needRange_17 : decode cX9_needRange 17 = .ok (.invokespecial 267, 3) := by decide +kernel
theorem dX9_needRange_20 : decode cX9_needRange 20 = .ok (.athrow, 1) := by decide +kernel
theorem dX9_needRange_21 : decode cX9_needRange 21 = .ok (.return_, 1) := by decide +kernel
theorem dX9_needByte_0 : decode cX9_needByte 0 = .ok (.iload_n 1, 1) := by decide +kernel
theorem dX9_needByte_1 : decode cX9_needByte 1 = .ok (.ifCond .lt 11, 3) := by decide +kernel
theorem dX9_needByte_4 : decode cX9_needByte 4 = .ok (.iload_n 1, 1) := by decide +kernel
theorem dX9_needByte_5 : decode cX9_needByte 5 = .ok (.aload_n 0, 1) := by decide +kernel
theorem dX9_needByte_6 : decode cX9_needByte 6 = .ok (.getfield 60, 3) := by decide +kernel
theorem dX9_needByte_9 : decode cX9_needByte 9 = .ok (.if_icmp .lt 14, 3) := by decide +kernel
theorem dX9_needByte_12 : decode cX9_needByte 12 = .ok (.new 65, 3) := by decide +kernel
theorem dX9_needByte_15 : decode cX9_needByte 15 = .ok (.dup, 1) := by decide +kernel
theorem dX9_needByte_16 : decode cX9_needByte 16 = .ok (.ldc_w 270, 3) := by decide +kernel
theorem dX9_needByte_19 : decode cX9_needByte 19 = .ok (.invokespecial 69, 3) := by decide +kernel
theorem dX9_needByte_22 : decode cX9_needByte 22 = .ok (.athrow, 1) := by decide +kernel
theorem dX9_needByte_23 : decode cX9_needByte 23 = .ok (.return_, 1) := by decide +kernel
set_option maxRecDepth 20000 in
theorem ggX9_needRun_X0_hasRun : GoodIn wsX9_needRun wsX0_hasRun := goodIn_r _ [7, 8, 9, 10, 11, 12] (by decide +kernel) (by decide +kernel)
set_option maxRecDepth 20000 in
theorem gX9_needRun_X0_hasRun : GoodIn wsX9_needRun (wsV RX9 272 RX0 yX0_hasRun wsX0_hasRun) := goodIn_app (goodIn_of _ (by decide +kernel)) ggX9_needRun_X0_hasRun
theorem dX9_needRun_0 : decode cX9_needRun 0 = .ok (.aload_n 0, 1) := by decide +kernel
theorem dX9_needRun_1 : decode cX9_needRun 1 = .ok (.iload_n 1, 1) := by decide +kernel
theorem dX9_needRun_2 : decode cX9_needRun 2 = .ok (.iload_n 2, 1) := by decide +kernel
theorem dX9_needRun_3 : decode cX9_needRun 3 = .ok (.invokevirtual 272, 3) := by decide +kernel
theorem dX9_needRun_6 : decode cX9_needRun 6 = .ok (.ifCond .ne 14, 3) := by decide +kernel
theorem dX9_needRun_9 : decode cX9_needRun 9 = .ok (.new 65, 3) := by decide +kernel
theorem dX9_needRun_12 : decode cX9_needRun 12 = .ok (.dup, 1) := by decide +kernel
theorem dX9_needRun_13 : decode cX9_needRun 13 = .ok (.ldc_w 276, 3) := by decide +kernel
theorem dX9_needRun_16 : decode cX9_needRun 16 = .ok (.invokespecial 69, 3) := by decide +kernel
theorem dX9_needRun_19 : decode cX9_needRun 19 = .ok (.athrow, 1) := by decide +kernel
theorem dX9_needRun_20 : decode cX9_needRun 20 = .ok (.return_, 1) := by decide +kernel
theorem dX9_needNight_0 : decode cX9_needNight 0 = .ok (.iload_n 1, 1) := by decide +kernel
theorem dX9_needNight_1 : decode cX9_needNight 1 = .ok (.ifCond .lt 11, 3) := by decide +kernel
theorem dX9_needNight_4 : decode cX9_needNight 4 = .ok (.iload_n 1, 1) := by decide +kernel
theorem dX9_needNight_5 : decode cX9_needNight 5 = .ok (.aload_n 0, 1) := by decide +kernel
theorem dX9_needNight_6 : decode cX9_needNight 6 = .ok (.getfield 43, 3) := by decide +kernel
theorem dX9_needNight_9 : decode cX9_needNight 9 = .ok (.if_icmp .lt 14, 3) := by decide +kernel
theorem dX9_needNight_12 : decode cX9_needNight 12 = .ok (.new 65, 3) := by decide +kernel
theorem dX9_needNight_15 : decode cX9_needNight 15 = .ok (.dup, 1) := by decide +kernel

