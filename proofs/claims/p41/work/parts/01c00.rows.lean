theorem dX0_init_0 : decode cX0_init 0 = .ok (.aload_n 0, 1) := by decide +kernel
theorem dX0_init_1 : decode cX0_init 1 = .ok (.invokespecial 3, 3) := by decide +kernel
theorem dX0_init_4 : decode cX0_init 4 = .ok (.aload_n 0, 1) := by decide +kernel
theorem dX0_init_5 : decode cX0_init 5 = .ok (.bipush 48, 2) := by decide +kernel
theorem dX0_init_7 : decode cX0_init 7 = .ok (.newarray .int, 2) := by decide +kernel
theorem dX0_init_9 : decode cX0_init 9 = .ok (.putfield 9, 3) := by decide +kernel
theorem dX0_init_12 : decode cX0_init 12 = .ok (.aload_n 0, 1) := by decide +kernel
theorem dX0_init_13 : decode cX0_init 13 = .ok (.bipush 48, 2) := by decide +kernel
theorem dX0_init_15 : decode cX0_init 15 = .ok (.newarray .int, 2) := by decide +kernel
theorem dX0_init_17 : decode cX0_init 17 = .ok (.putfield 15, 3) := by decide +kernel
theorem dX0_init_20 : decode cX0_init 20 = .ok (.aload_n 0, 1) := by decide +kernel
theorem dX0_init_21 : decode cX0_init 21 = .ok (.iconst 0, 1) := by decide +kernel
theorem dX0_init_22 : decode cX0_init 22 = .ok (.putfield 18, 3) := by decide +kernel
theorem dX0_init_25 : decode cX0_init 25 = .ok (.aload_n 0, 1) := by decide +kernel
theorem dX0_init_26 : decode cX0_init 26 = .ok (.iconst 0, 1) := by decide +kernel
theorem dX0_init_27 : decode cX0_init 27 = .ok (.putfield 22, 3) := by decide +kernel
theorem dX0_init_30 : decode cX0_init 30 = .ok (.return_, 1) := by decide +kernel
theorem dX0_byteAt_0 : decode cX0_byteAt 0 = .ok (.iload_n 1, 1) := by decide +kernel
theorem dX0_byteAt_1 : decode cX0_byteAt 1 = .ok (.ifCond .lt 21, 3) := by decide +kernel
theorem dX0_byteAt_4 : decode cX0_byteAt 4 = .ok (.iload_n 1, 1) := by decide +kernel
theorem dX0_byteAt_5 : decode cX0_byteAt 5 = .ok (.aload_n 0, 1) := by decide +kernel
theorem dX0_byteAt_6 : decode cX0_byteAt 6 = .ok (.getfield 9, 3) := by decide +kernel
theorem dX0_byteAt_9 : decode cX0_byteAt 9 = .ok (.arraylength, 1) := by decide +kernel
theorem dX0_byteAt_10 : decode cX0_byteAt 10 = .ok (.if_icmp .ge 12, 3) := by decide +kernel
theorem dX0_byteAt_13 : decode cX0_byteAt 13 = .ok (.aload_n 0, 1) := by decide +kernel
theorem dX0_byteAt_14 : decode cX0_byteAt 14 = .ok (.getfield 9, 3) := by decide +kernel
theorem dX0_byteAt_17 : decode cX0_byteAt 17 = .ok (.iload_n 1, 1) := by decide +kernel
theorem dX0_byteAt_18 : decode cX0_byteAt 18 = .ok (.iaload, 1) := by decide +kernel
theorem dX0_byteAt_19 : decode cX0_byteAt 19 = .ok (.goto 4, 3) := by decide +kernel
theorem dX0_byteAt_22 : decode cX0_byteAt 22 = .ok (.iconst 0, 1) := by decide +kernel
theorem dX0_byteAt_23 : decode cX0_byteAt 23 = .ok (.ireturn, 1) := by decide +kernel
theorem dX0_hasRun_0 : decode cX0_hasRun 0 = .ok (.iload_n 1, 1) := by decide +kernel
theorem dX0_hasRun_1 : decode cX0_hasRun 1 = .ok (.ifCond .lt 29, 3) := by decide +kernel
theorem dX0_hasRun_4 : decode cX0_hasRun 4 = .ok (.iload_n 2, 1) := by decide +kernel
theorem dX0_hasRun_5 : decode cX0_hasRun 5 = .ok (.ifCond .lt 25, 3) := by decide +kernel
theorem dX0_hasRun_8 : decode cX0_hasRun 8 = .ok (.iload_n 1, 1) := by decide +kernel
theorem dX0_hasRun_9 : decode cX0_hasRun 9 = .ok (.aload_n 0, 1) := by decide +kernel
theorem dX0_hasRun_10 : decode cX0_hasRun 10 = .ok (.getfield 18, 3) := by decide +kernel
theorem dX0_hasRun_13 : decode cX0_hasRun 13 = .ok (.if_icmp .gt 17, 3) := by decide +kernel
theorem dX0_hasRun_16 : decode cX0_hasRun 16 = .ok (.iload_n 2, 1) := by decide +kernel
theorem dX0_hasRun_17 : decode cX0_hasRun 17 = .ok (.aload_n 0, 1) := by decide +kernel
theorem dX0_hasRun_18 : decode cX0_hasRun 18 = .ok (.getfield 18, 3) := by decide +kernel
theorem dX0_hasRun_21 : decode cX0_hasRun 21 = .ok (.iload_n 1, 1) := by decide +kernel
theorem dX0_hasRun_22 : decode cX0_hasRun 22 = .ok (.isub, 1) := by decide +kernel
theorem dX0_hasRun_23 : decode cX0_hasRun 23 = .ok (.if_icmp .gt 7, 3) := by decide +kernel
theorem dX0_hasRun_26 : decode cX0_hasRun 26 = .ok (.iconst 1, 1) := by decide +kernel
theorem dX0_hasRun_27 : decode cX0_hasRun 27 = .ok (.goto 4, 3) := by decide +kernel
theorem dX0_hasRun_30 : decode cX0_hasRun 30 = .ok (.iconst 0, 1) := by decide +kernel
theorem dX0_hasRun_31 : decode cX0_hasRun 31 = .ok (.ireturn, 1) := by decide +kernel
theorem dX0_hasSpaceFor_0 : decode cX0_hasSpaceFor 0 = .ok (.iload_n 1, 1) := by decide +kernel
theorem dX0_hasSpaceFor_1 : decode cX0_hasSpaceFor 1 = .ok (.aload_n 0, 1) := by decide +kernel
theorem dX0_hasSpaceFor_2 : decode cX0_hasSpaceFor 2 = .ok (.getfield 9, 3) := by decide +kernel
theorem dX0_hasSpaceFor_5 : decode cX0_hasSpaceFor 5 = .ok (.arraylength, 1) := by decide +kernel
theorem dX0_hasSpaceFor_6 : decode cX0_hasSpaceFor 6 = .ok (.aload_n 0, 1) := by decide +kernel
theorem dX0_hasSpaceFor_7 : decode cX0_hasSpaceFor 7 = .ok (.getfield 18, 3) := by decide +kernel
theorem dX0_hasSpaceFor_10 : decode cX0_hasSpaceFor 10 = .ok (.isub, 1) := by decide +kernel
theorem dX0_hasSpaceFor_11 : decode cX0_hasSpaceFor 11 = .ok (.if_icmp .gt 7, 3) := by decide +kernel
theorem dX0_hasSpaceFor_14 : decode cX0_hasSpaceFor 14 = .ok (.iconst 1, 1) := by decide +kernel
theorem dX0_hasSpaceFor_15 : decode cX0_hasSpaceFor 15 = .ok (.goto 4, 3) := by decide +kernel
theorem dX0_hasSpaceFor_18 : decode cX0_hasSpaceFor 18 = .ok (.iconst 0, 1) := by decide +kernel
theorem dX0_hasSpaceFor_19 : decode cX0_hasSpaceFor 19 = .ok (.ireturn, 1) := by decide +kernel
theorem dX0_insert_0 : decode cX0_insert 0 = .ok (.iload_n 1, 1) := by decide +kernel
theorem dX0_insert_1 : decode cX0_insert 1 = .ok (.ifCond .lt 23, 3) := by decide +kernel
theorem dX0_insert_4 : decode cX0_insert 4 = .ok (.iload_n 1, 1) := by decide +kernel
theorem dX0_insert_5 : decode cX0_insert 5 = .ok (.aload_n 0, 1) := by decide +kernel
theorem dX0_insert_6 : decode cX0_insert 6 = .ok (.getfield 18, 3) := by decide +kernel
theorem dX0_insert_9 : decode cX0_insert 9 = .ok (.if_icmp .gt 15, 3) := by decide +kernel
theorem dX0_insert_12 : decode cX0_insert 12 = .ok (.aload_n 0, 1) := by decide +kernel
theorem dX0_insert_13 : decode cX0_insert 13 = .ok (.getfield 18, 3) := by decide +kernel
theorem dX0_insert_16 : decode cX0_insert 16 = .ok (.aload_n 0, 1) := by decide +kernel
theorem dX0_insert_17 : decode cX0_insert 17 = .ok (.getfield 9, 3) := by decide +kernel
theorem dX0_insert_20 : decode cX0_insert 20 = .ok (.arraylength, 1) := by decide +kernel
theorem dX0_insert_21 : decode cX0_insert 21 = .ok (.if_icmp .lt 4, 3) := by decide +kernel
theorem dX0_insert_24 : decode cX0_insert 24 = .ok (.return_, 1) := by decide +kernel
theorem dX0_insert_25 : decode cX0_insert 25 = .ok (.aload_n 0, 1) := by decide +kernel
theorem dX0_insert_26 : decode cX0_insert 26 = .ok (.getfield 18, 3) := by decide +kernel
theorem dX0_insert_29 : decode cX0_insert 29 = .ok (.istore_n 3, 1) := by decide +kernel
theorem dX0_insert_30 : decode cX0_insert 30 = .ok (.iload_n 3, 1) := by decide +kernel
theorem dX0_insert_31 : decode cX0_insert 31 = .ok (.iload_n 1, 1) := by decide +kernel
theorem dX0_insert_32 : decode cX0_insert 32 = .ok (.if_icmp .le 23, 3) := by decide +kernel
theorem dX0_insert_35 : decode cX0_insert 35 = .ok (.aload_n 0, 1) := by decide +kernel
theorem dX0_insert_36 : decode cX0_insert 36 = .ok (.getfield 9, 3) := by decide +kernel
theorem dX0_insert_39 : decode cX0_insert 39 = .ok (.iload_n 3, 1) := by decide +kernel
theorem dX0_insert_40 : decode cX0_insert 40 = .ok (.aload_n 0, 1) := by decide +kernel
theorem dX0_insert_41 : decode cX0_insert 41 = .ok (.getfield 9, 3) := by decide +kernel
theorem dX0_insert_44 : decode cX0_insert 44 = .ok (.iload_n 3, 1) := by decide +kernel
theorem dX0_insert_45 : decode cX0_insert 45 = .ok (.iconst 1, 1) := by decide +kernel
theorem dX0_insert_46 : decode cX0_insert 46 = .ok (.isub, 1) := by decide +kernel
theorem dX0_insert_47 : decode cX0_insert 47 = .ok (.iaload, 1) := by decide +kernel
theorem dX0_insert_48 : decode cX0_insert 48 = .ok (.iastore, 1) := by decide +kernel
theorem dX0_insert_49 : decode cX0_insert 49 = .ok (.iinc 3 (-1), 3) := by decide +kernel
theorem dX0_insert_52 : decode cX0_insert 52 = .ok (.goto (-22), 3) := by decide +kernel
theorem dX0_insert_55 : decode cX0_insert 55 = .ok (.aload_n 0, 1) := by decide +kernel
theorem dX0_insert_56 : decode cX0_insert 56 = .ok (.getfield 9, 3) := by decide +kernel
theorem dX0_insert_59 : decode cX0_insert 59 = .ok (.iload_n 1, 1) := by decide +kernel
theorem dX0_insert_60 : decode cX0_insert 60 = .ok (.iload_n 2, 1) := by decide +kernel
theorem dX0_insert_61 : decode cX0_insert 61 = .ok (.iastore, 1) := by decide +kernel
theorem dX0_insert_62 : decode cX0_insert 62 = .ok (.aload_n 0, 1) := by decide +kernel
theorem dX0_insert_63 : decode cX0_insert 63 = .ok (.dup, 1) := by decide +kernel
theorem dX0_insert_64 : decode cX0_insert 64 = .ok (.getfield 18, 3) := by decide +kernel
theorem dX0_insert_67 : decode cX0_insert 67 = .ok (.iconst 1, 1) := by decide +kernel
theorem dX0_insert_68 : decode cX0_insert 68 = .ok (.iadd, 1) := by decide +kernel
theorem dX0_insert_69 : decode cX0_insert 69 = .ok (.putfield 18, 3) := by decide +kernel
theorem dX0_insert_72 : decode cX0_insert 72 = .ok (.return_, 1) := by decide +kernel
set_option maxRecDepth 20000 in
theorem ggX0_replace_X0_byteAt : GoodIn wsX0_replace wsX0_byteAt := goodIn_r _ [6, 1, 7, 8, 9, 10] (by decide +kernel) (by decide +kernel)
set_option maxRecDepth 20000 in
theorem gX0_replace_X0_byteAt : GoodIn wsX0_replace (wsV RX0 25 RX0 yX0_byteAt wsX0_byteAt) := goodIn_app (goodIn_of _ (by decide +kernel)) ggX0_replace_X0_byteAt
theorem dX0_replace_0 : decode cX0_replace 0 = .ok (.aload_n 0, 1) := by decide +kernel
theorem dX0_replace_1 : decode cX0_replace 1 = .ok (.iload_n 1, 1) := by decide +kernel
theorem dX0_replace_2 : decode cX0_replace 2 = .ok (.invokevirtual 25, 3) := by decide +kernel
theorem dX0_replace_5 : decode cX0_replace 5 = .ok (.istore_n 3, 1) := by decide +kernel
theorem dX0_replace_6 : decode cX0_replace 6 = .ok (.iload_n 1, 1) := by decide +kernel
theorem dX0_replace_7 : decode cX0_replace 7 = .ok (.ifCond .lt 19, 3) := by decide +kernel
theorem dX0_replace_10 : decode cX0_replace 10 = .ok (.iload_n 1, 1) := by decide +kernel
theorem dX0_replace_11 : decode cX0_replace 11 = .ok (.aload_n 0, 1) := by decide +kernel
theorem dX0_replace_12 : decode cX0_replace 12 = .ok (.getfield 9, 3) := by decide +kernel
theorem dX0_replace_15 : decode cX0_replace 15 = .ok (.arraylength, 1) := by decide +kernel
theorem dX0_replace_16 : decode cX0_replace 16 = .ok (.if_icmp .ge 10, 3) := by decide +kernel
theorem dX0_replace_19 : decode cX0_replace 19 = .ok (.aload_n 0, 1) := by decide +kernel
theorem dX0_replace_20 : decode cX0_replace 20 = .ok (.getfield 9, 3) := by decide +kernel
theorem dX0_replace_23 : decode cX0_replace 23 = .ok (.iload_n 1, 1) := by decide +kernel
theorem dX0_replace_24 : decode cX0_replace 24 = .ok (.iload_n 2, 1) := by decide +kernel
theorem dX0_replace_25 : decode cX0_replace 25 = .ok (.iastore, 1) := by decide +kernel
theorem dX0_replace_26 : decode cX0_replace 26 = .ok (.iload_n 3, 1) := by decide +kernel
theorem dX0_replace_27 : decode cX0_replace 27 = .ok (.ireturn, 1) := by decide +kernel
set_option maxRecDepth 20000 in
theorem ggX0_remove_X0_hasRun : GoodIn wsX0_remove wsX0_hasRun := goodIn_r _ [7, 1, 12, 13, 14, 15] (by decide +kernel) (by decide +kernel)
set_option maxRecDepth 20000 in
theorem gX0_remove_X0_hasRun : GoodIn wsX0_remove (wsV RX0 29 RX0 yX0_hasRun wsX0_hasRun) := goodIn_app (goodIn_of _ (by decide +kernel)) ggX0_remove_X0_hasRun
set_option maxRecDepth 20000 in
theorem ggX0_remove_X0_byteAt : GoodIn wsX0_remove wsX0_byteAt := goodIn_r _ [11, 2, 12, 13, 14, 15] (by decide +kernel) (by decide +kernel)
set_option maxRecDepth 20000 in
theorem gX0_remove_X0_byteAt : GoodIn wsX0_remove (wsV RX0 25 RX0 yX0_byteAt wsX0_byteAt) := goodIn_app (goodIn_of _ (by decide +kernel)) ggX0_remove_X0_byteAt
theorem dX0_remove_0 : decode cX0_remove 0 = .ok (.aload_n 0, 1) := by decide +kernel
theorem dX0_remove_1 : decode cX0_remove 1 = .ok (.iload_n 1, 1) := by decide +kernel
theorem dX0_remove_2 : decode cX0_remove 2 = .ok (.iload_n 2, 1) := by decide +kernel
theorem dX0_remove_3 : decode cX0_remove 3 = .ok (.invokevirtual 29, 3) := by decide +kernel
theorem dX0_remove_6 : decode cX0_remove 6 = .ok (.ifCond .ne 4, 3) := by decide +kernel
theorem dX0_remove_9 : decode cX0_remove 9 = .ok (.return_, 1) := by decide +kernel
theorem dX0_remove_10 : decode cX0_remove 10 = .ok (.iload_n 1, 1) := by decide +kernel
theorem dX0_remove_11 : decode cX0_remove 11 = .ok (.istore_n 3, 1) := by decide +kernel
theorem dX0_remove_12 : decode cX0_remove 12 = .ok (.iload_n 3, 1) := by decide +kernel
theorem dX0_remove_13 : decode cX0_remove 13 = .ok (.aload_n 0, 1) := by decide +kernel
theorem dX0_remove_14 : decode cX0_remove 14 = .ok (.getfield 18, 3) := by decide +kernel
theorem dX0_remove_17 : decode cX0_remove 17 = .ok (.iload_n 2, 1) := by decide +kernel
theorem dX0_remove_18 : decode cX0_remove 18 = .ok (.isub, 1) := by decide +kernel
theorem dX0_remove_19 : decode cX0_remove 19 = .ok (.if_icmp .ge 31, 3) := by decide +kernel
theorem dX0_remove_22 : decode cX0_remove 22 = .ok (.iload_n 3, 1) := by decide +kernel
theorem dX0_remove_23 : decode cX0_remove 23 = .ok (.aload_n 0, 1) := by decide +kernel
theorem dX0_remove_24 : decode cX0_remove 24 = .ok (.getfield 9, 3) := by decide +kernel
theorem dX0_remove_27 : decode cX0_remove 27 = .ok (.arraylength, 1) := by decide +kernel
theorem dX0_remove_28 : decode cX0_remove 28 = .ok (.if_icmp .ge 22, 3) := by decide +kernel
theorem dX0_remove_31 : decode cX0_remove 31 = .ok (.aload_n 0, 1) := by decide +kernel
theorem dX0_remove_32 : decode cX0_remove 32 = .ok (.getfield 9, 3) := by decide +kernel
theorem dX0_remove_35 : decode cX0_remove 35 = .ok (.iload_n 3, 1) := by decide +kernel
theorem dX0_remove_36 : decode cX0_remove 36 = .ok (.aload_n 0, 1) := by decide +kernel
theorem dX0_remove_37 : decode cX0_remove 37 = .ok (.iload_n 3, 1) := by decide +kernel
theorem dX0_remove_38 : decode cX0_remove 38 = .ok (.iload_n 2, 1) := by decide +kernel
theorem dX0_remove_39 : decode cX0_remove 39 = .ok (.iadd, 1) := by decide +kernel
theorem dX0_remove_40 : decode cX0_remove 40 = .ok (.invokevirtual 25, 3) := by decide +kernel
theorem dX0_remove_43 : decode cX0_remove 43 = .ok (.iastore, 1) := by decide +kernel
theorem dX0_remove_44 : decode cX0_remove 44 = .ok (.iinc 3 1, 3) := by decide +kernel
theorem dX0_remove_47 : decode cX0_remove 47 = .ok (.goto (-35), 3) := by decide +kernel
theorem dX0_remove_50 : decode cX0_remove 50 = .ok (.aload_n 0, 1) := by decide +kernel
theorem dX0_remove_51 : decode cX0_remove 51 = .ok (.dup, 1) := by decide +kernel
theorem dX0_remove_52 : decode cX0_remove 52 = .ok (.getfield 18, 3) := by decide +kernel
theorem dX0_remove_55 : decode cX0_remove 55 = .ok (.iload_n 2, 1) := by decide +kernel
theorem dX0_remove_56 : decode cX0_remove 56 = .ok (.isub, 1) := by decide +kernel
theorem dX0_remove_57 : decode cX0_remove 57 = .ok (.putfield 18, 3) := by decide +kernel
theorem dX0_remove_60 : decode cX0_remove 60 = .ok (.return_, 1) := by decide +kernel
set_option maxRecDepth 20000 in
theorem ggX0_append_X0_byteAt : GoodIn wsX0_append wsX0_byteAt := goodIn_r _ [7, 2, 8, 9, 10, 11] (by decide +kernel) (by decide +kernel)
set_option maxRecDepth 20000 in
theorem gX0_append_X0_byteAt : GoodIn wsX0_append (wsV RX0 25 RX0 yX0_byteAt wsX0_byteAt) := goodIn_app (goodIn_of _ (by decide +kernel)) ggX0_append_X0_byteAt
theorem dX0_append_0 : decode cX0_append 0 = .ok (.iconst 0, 1) := by decide +kernel
theorem dX0_append_1 : decode cX0_append 1 = .ok (.istore 4, 2) := by decide +kernel
theorem dX0_append_3 : decode cX0_append 3 = .ok (.iload 4, 2) := by decide +kernel
theorem dX0_append_5 : decode cX0_append 5 = .ok (.iload_n 3, 1) := by decide +kernel
theorem dX0_append_6 : decode cX0_append 6 = .ok (.if_icmp .ge 55, 3) := by decide +kernel
theorem dX0_append_9 : decode cX0_append 9 = .ok (.aload_n 0, 1) := by decide +kernel
theorem dX0_append_10 : decode cX0_append 10 = .ok (.getfield 18, 3) := by decide +kernel
theorem dX0_append_13 : decode cX0_append 13 = .ok (.ifCond .lt 48, 3) := by decide +kernel
theorem dX0_append_16 : decode cX0_append 16 = .ok (.aload_n 0, 1) := by decide +kernel
theorem dX0_append_17 : decode cX0_append 17 = .ok (.getfield 18, 3) := by decide +kernel
theorem dX0_append_20 : decode cX0_append 20 = .ok (.aload_n 0, 1) := by decide +kernel
theorem dX0_append_21 : decode cX0_append 21 = .ok (.getfield 9, 3) := by decide +kernel
theorem dX0_append_24 : decode cX0_append 24 = .ok (.arraylength, 1) := by decide +kernel
theorem dX0_append_25 : decode cX0_append 25 = .ok (.if_icmp .ge 36, 3) := by decide +kernel
theorem dX0_append_28 : decode cX0_append 28 = .ok (.aload_n 0, 1) := by decide +kernel
theorem dX0_append_29 : decode cX0_append 29 = .ok (.getfield 9, 3) := by decide +kernel
theorem dX0_append_32 : decode cX0_append 32 = .ok (.aload_n 0, 1) := by decide +kernel
theorem dX0_append_33 : decode cX0_append 33 = .ok (.getfield 18, 3) := by decide +kernel
theorem dX0_append_36 : decode cX0_append 36 = .ok (.aload_n 1, 1) := by decide +kernel
theorem dX0_append_37 : decode cX0_append 37 = .ok (.iload_n 2, 1) := by decide +kernel
theorem dX0_append_38 : decode cX0_append 38 = .ok (.iload 4, 2) := by decide +kernel
theorem dX0_append_40 : decode cX0_append 40 = .ok (.iadd, 1) := by decide +kernel
theorem dX0_append_41 : decode cX0_append 41 = .ok (.invokevirtual 25, 3) := by decide +kernel
theorem dX0_append_44 : decode cX0_append 44 = .ok (.iastore, 1) := by decide +kernel
theorem dX0_append_45 : decode cX0_append 45 = .ok (.aload_n 0, 1) := by decide +kernel
theorem dX0_append_46 : decode cX0_append 46 = .ok (.dup, 1) := by decide +kernel
theorem dX0_append_47 : decode cX0_append 47 = .ok (.getfield 18, 3) := by decide +kernel
theorem dX0_append_50 : decode cX0_append 50 = .ok (.iconst 1, 1) := by decide +kernel
theorem dX0_append_51 : decode cX0_append 51 = .ok (.iadd, 1) := by decide +kernel
theorem dX0_append_52 : decode cX0_append 52 = .ok (.putfield 18, 3) := by decide +kernel
theorem dX0_append_55 : decode cX0_append 55 = .ok (.iinc 4 1, 3) := by decide +kernel
theorem dX0_append_58 : decode cX0_append 58 = .ok (.goto (-55), 3) := by decide +kernel
theorem dX0_append_61 : decode cX0_append 61 = .ok (.return_, 1) := by decide +kernel
set_option maxRecDepth 20000 in
theorem ggX0_become_X2_chunkAt : GoodIn wsX0_become wsX2_chunkAt := goodIn_r _ [12, 13, 14, 25, 26] (by decide +kernel) (by decide +kernel)
set_option maxRecDepth 20000 in
theorem gX0_become_X2_chunkAt : GoodIn wsX0_become (wsV RX0 38 RX2 yX2_chunkAt wsX2_chunkAt) := goodIn_app (goodIn_of _ (by decide +kernel)) ggX0_become_X2_chunkAt
set_option maxRecDepth 20000 in
theorem ggX0_become_X1_size : GoodIn wsX0_become wsX1_size := goodIn_r _ [19, 20, 31, 32] (by decide +kernel) (by decide +kernel)
set_option maxRecDepth 20000 in
theorem gX0_become_X1_size : GoodIn wsX0_become (wsV RX0 42 RX1 yX1_size wsX1_size) := goodIn_app (goodIn_of _ (by decide +kernel)) ggX0_become_X1_size
set_option maxRecDepth 20000 in
theorem ggX0_become_X1_byteAt : GoodIn wsX0_become wsX1_byteAt := goodIn_r _ [24, 20, 31, 32] (by decide +kernel) (by decide +kernel)
set_option maxRecDepth 20000 in
theorem gX0_become_X1_byteAt : GoodIn wsX0_become (wsV RX0 47 RX1 yX1_byteAt wsX1_byteAt) := goodIn_app (goodIn_of _ (by decide +kernel)) ggX0_become_X1_byteAt
theorem dX0_become_0 : decode cX0_become 0 = .ok (.iconst 0, 1) := by decide +kernel
theorem dX0_become_1 : decode cX0_become 1 = .ok (.istore_n 2, 1) := by decide +kernel
theorem dX0_become_2 : decode cX0_become 2 = .ok (.iconst 0, 1) := by decide +kernel
theorem dX0_become_3 : decode cX0_become 3 = .ok (.istore_n 3, 1) := by decide +kernel
theorem dX0_become_4 : decode cX0_become 4 = .ok (.iconst 0, 1) := by decide +kernel
theorem dX0_become_5 : decode cX0_become 5 = .ok (.istore 4, 2) := by decide +kernel
theorem dX0_become_7 : decode cX0_become 7 = .ok (.iload 4, 2) := by decide +kernel
theorem dX0_become_9 : decode cX0_become 9 = .ok (.aload_n 1, 1) := by decide +kernel
theorem dX0_become_10 : decode cX0_become 10 = .ok (.getfield 33, 3) := by decide +kernel
theorem dX0_become_13 : decode cX0_become 13 = .ok (.if_icmp .ge 92, 3) := by decide +kernel
theorem dX0_become_16 : decode cX0_become 16 = .ok (.aload_n 1, 1) := by decide +kernel
theorem dX0_become_17 : decode cX0_become 17 = .ok (.iload 4, 2) := by decide +kernel
theorem dX0_become_19 : decode cX0_become 19 = .ok (.invokevirtual 38, 3) := by decide +kernel
theorem dX0_become_22 : decode cX0_become 22 = .ok (.astore 5, 2) := by decide +kernel
theorem dX0_become_24 : decode cX0_become 24 = .ok (.iconst 0, 1) := by decide +kernel
theorem dX0_become_25 : decode cX0_become 25 = .ok (.istore 6, 2) := by decide +kernel
theorem dX0_become_27 : decode cX0_become 27 = .ok (.aload 5, 2) := by decide +kernel
theorem dX0_become_29 : decode cX0_become 29 = .ok (.ifnull 70, 3) := by decide +kernel
theorem dX0_become_32 : decode cX0_become 32 = .ok (.iload 6, 2) := by decide +kernel
theorem dX0_become_34 : decode cX0_become 34 = .ok (.aload 5, 2) := by decide +kernel
theorem dX0_become_36 : decode cX0_become 36 = .ok (.invokevirtual 42, 3) := by decide +kernel
theorem dX0_become_39 : decode cX0_become 39 = .ok (.if_icmp .ge 60, 3) := by decide +kernel
theorem dX0_become_42 : decode cX0_become 42 = .ok (.iload_n 3, 1) := by decide +kernel
theorem dX0_become_43 : decode cX0_become 43 = .ok (.aload_n 0, 1) := by decide +kernel
theorem dX0_become_44 : decode cX0_become 44 = .ok (.getfield 9, 3) := by decide +kernel
theorem dX0_become_47 : decode cX0_become 47 = .ok (.arraylength, 1) := by decide +kernel
theorem dX0_become_48 : decode cX0_become 48 = .ok (.if_icmp .ge 51, 3) := by decide +kernel
theorem dX0_become_51 : decode cX0_become 51 = .ok (.aload 5, 2) := by decide +kernel
theorem dX0_become_53 : decode cX0_become 53 = .ok (.iload 6, 2) := by decide +kernel
theorem dX0_become_55 : decode cX0_become 55 = .ok (.invokevirtual 47, 3) := by decide +kernel
theorem dX0_become_58 : decode cX0_become 58 = .ok (.istore 7, 2) := by decide +kernel
theorem dX0_become_60 : decode cX0_become 60 = .ok (.iload_n 3, 1) := by decide +kernel
theorem dX0_become_61 : decode cX0_become 61 = .ok (.aload_n 0, 1) := by decide +kernel
theorem dX0_become_62 : decode cX0_become 62 = .ok (.getfield 18, 3) := by decide +kernel
theorem dX0_become_65 : decode cX0_become 65 = .ok (.if_icmp .ge 14, 3) := by decide +kernel
theorem dX0_become_68 : decode cX0_become 68 = .ok (.aload_n 0, 1) := by decide +kernel
theorem dX0_become_69 : decode cX0_become 69 = .ok (.getfield 9, 3) := by decide +kernel
theorem dX0_become_72 : decode cX0_become 72 = .ok (.iload_n 3, 1) := by decide +kernel
theorem dX0_become_73 : decode cX0_become 73 = .ok (.iaload, 1) := by decide +kernel
theorem dX0_become_74 : decode cX0_become 74 = .ok (.iload 7, 2) := by decide +kernel
theorem dX0_become_76 : decode cX0_become 76 = .ok (.if_icmp .eq 6, 3) := by decide +kernel
theorem dX0_become_79 : decode cX0_become 79 = .ok (.iinc 2 1, 3) := by decide +kernel
theorem dX0_become_82 : decode cX0_become 82 = .ok (.aload_n 0, 1) := by decide +kernel
theorem dX0_become_83 : decode cX0_become 83 = .ok (.getfield 9, 3) := by decide +kernel
theorem dX0_become_86 : decode cX0_become 86 = .ok (.iload_n 3, 1) := by decide +kernel
theorem dX0_become_87 : decode cX0_become 87 = .ok (.iload 7, 2) := by decide +kernel
theorem dX0_become_89 : decode cX0_become 89 = .ok (.iastore, 1) := by decide +kernel
theorem dX0_become_90 : decode cX0_become 90 = .ok (.iinc 3 1, 3) := by decide +kernel
theorem dX0_become_93 : decode cX0_become 93 = .ok (.iinc 6 1, 3) := by decide +kernel
theorem dX0_become_96 : decode cX0_become 96 = .ok (.goto (-69), 3) := by decide +kernel
theorem dX0_become_99 : decode cX0_become 99 = .ok (.iinc 4 1, 3) := by decide +kernel
theorem dX0_become_102 : decode cX0_become 102 = .ok (.goto (-95), 3) := by decide +kernel
theorem dX0_become_105 : decode cX0_become 105 = .ok (.iload_n 2, 1) := by decide +kernel
theorem dX0_become_106 : decode cX0_become 106 = .ok (.aload_n 0, 1) := by decide +kernel
theorem dX0_become_107 : decode cX0_become 107 = .ok (.getfield 18, 3) := by decide +kernel
theorem dX0_become_110 : decode cX0_become 110 = .ok (.iload_n 3, 1) := by decide +kernel
theorem dX0_become_111 : decode cX0_become 111 = .ok (.isub, 1) := by decide +kernel
theorem dX0_become_112 : decode cX0_become 112 = .ok (.iconst 0, 1) := by decide +kernel
theorem dX0_become_113 : decode cX0_become 113 = .ok (.invokestatic 48, 3) := by decide +kernel
theorem dX0_become_116 : decode cX0_become 116 = .ok (.iadd, 1) := by decide +kernel
theorem dX0_become_117 : decode cX0_become 117 = .ok (.istore_n 2, 1) := by decide +kernel
theorem dX0_become_118 : decode cX0_become 118 = .ok (.aload_n 0, 1) := by decide +kernel
theorem dX0_become_119 : decode cX0_become 119 = .ok (.iload_n 3, 1) := by decide +kernel
theorem dX0_become_120 : decode cX0_become 120 = .ok (.putfield 18, 3) := by decide +kernel
theorem dX0_become_123 : decode cX0_become 123 = .ok (.iload_n 2, 1) := by decide +kernel
theorem dX0_become_124 : decode cX0_become 124 = .ok (.ireturn, 1) := by decide +kernel
set_option maxRecDepth 20000 in
theorem ggX0_fingerprint_X0_byteAt : GoodIn wsX0_fingerprint wsX0_byteAt := goodIn_r _ [6, 7, 11, 12, 13, 14] (by decide +kernel) (by decide +kernel)
set_option maxRecDepth 20000 in
theorem gX0_fingerprint_X0_byteAt : GoodIn wsX0_fingerprint (wsV RX0 25 RX0 yX0_byteAt wsX0_byteAt) := goodIn_app (goodIn_of _ (by decide +kernel)) ggX0_fingerprint_X0_byteAt
set_option maxRecDepth 20000 in
theorem ggX0_fingerprint_X9_foldIn : GoodIn wsX0_fingerprint wsX9_foldIn := goodIn_r _ [10] (by decide +kernel) (by decide +kernel)
set_option maxRecDepth 20000 in
theorem gX0_fingerprint_X9_foldIn_n54 : GoodIn wsX0_fingerprint (wsX9_foldIn) := ggX0_fingerprint_X9_foldIn
theorem dX0_fingerprint_0 : decode cX0_fingerprint 0 = .ok (.lconst 0, 1) := by decide +kernel
theorem dX0_fingerprint_1 : decode cX0_fingerprint 1 = .ok (.lstore_n 1, 1) := by decide +kernel
theorem dX0_fingerprint_2 : decode cX0_fingerprint 2 = .ok (.iconst 0, 1) := by decide +kernel
theorem dX0_fingerprint_3 : decode cX0_fingerprint 3 = .ok (.istore_n 3, 1) := by decide +kernel
theorem dX0_fingerprint_4 : decode cX0_fingerprint 4 = .ok (.iload_n 3, 1) := by decide +kernel
theorem dX0_fingerprint_5 : decode cX0_fingerprint 5 = .ok (.aload_n 0, 1) := by decide +kernel
theorem dX0_fingerprint_6 : decode cX0_fingerprint 6 = .ok (.getfield 18, 3) := by decide +kernel
theorem dX0_fingerprint_9 : decode cX0_fingerprint 9 = .ok (.if_icmp .ge 19, 3) := by decide +kernel
theorem dX0_fingerprint_12 : decode cX0_fingerprint 12 = .ok (.lload_n 1, 1) := by decide +kernel
theorem dX0_fingerprint_13 : decode cX0_fingerprint 13 = .ok (.aload_n 0, 1) := by decide +kernel
theorem dX0_fingerprint_14 : decode cX0_fingerprint 14 = .ok (.iload_n 3, 1) := by decide +kernel
theorem dX0_fingerprint_15 : decode cX0_fingerprint 15 = .ok (.invokevirtual 25, 3) := by decide +kernel
theorem dX0_fingerprint_18 : decode cX0_fingerprint 18 = .ok (.invokestatic 54, 3) := by decide +kernel
theorem dX0_fingerprint_21 : decode cX0_fingerprint 21 = .ok (.lstore_n 1, 1) := by decide +kernel
theorem dX0_fingerprint_22 : decode cX0_fingerprint 22 = .ok (.iinc 3 1, 3) := by decide +kernel
theorem dX0_fingerprint_25 : decode cX0_fingerprint 25 = .ok (.goto (-21), 3) := by decide +kernel
theorem dX0_fingerprint_28 : decode cX0_fingerprint 28 = .ok (.lload_n 1, 1) := by decide +kernel
theorem dX0_fingerprint_29 : decode cX0_fingerprint 29 = .ok (.lreturn, 1) := by decide +kernel
theorem dX0_endPart_0 : decode cX0_endPart 0 = .ok (.aload_n 0, 1) := by decide +kernel
theorem dX0_endPart_1 : decode cX0_endPart 1 = .ok (.getfield 22, 3) := by decide +kernel
theorem dX0_endPart_4 : decode cX0_endPart 4 = .ok (.ifCond .lt 35, 3) := by decide +kernel
theorem dX0_endPart_7 : decode cX0_endPart 7 = .ok (.aload_n 0, 1) := by decide +kernel
theorem dX0_endPart_8 : decode cX0_endPart 8 = .ok (.getfield 22, 3) := by decide +kernel
theorem dX0_endPart_11 : decode cX0_endPart 11 = .ok (.aload_n 0, 1) := by decide +kernel
theorem dX0_endPart_12 : decode cX0_endPart 12 = .ok (.getfield 15, 3) := by decide +kernel
theorem dX0_endPart_15 : decode cX0_endPart 15 = .ok (.arraylength, 1) := by decide +kernel
theorem dX0_endPart_16 : decode cX0_endPart 16 = .ok (.if_icmp .ge 23, 3) := by decide +kernel
theorem dX0_endPart_19 : decode cX0_endPart 19 = .ok (.aload_n 0, 1) := by decide +kernel
theorem dX0_endPart_20 : decode cX0_endPart 20 = .ok (.getfield 15, 3) := by decide +kernel
theorem dX0_endPart_23 : decode cX0_endPart 23 = .ok (.aload_n 0, 1) := by decide +kernel
theorem dX0_endPart_24 : decode cX0_endPart 24 = .ok (.getfield 22, 3) := by decide +kernel
theorem dX0_endPart_27 : decode cX0_endPart 27 = .ok (.iload_n 1, 1) := by decide +kernel
theorem dX0_endPart_28 : decode cX0_endPart 28 = .ok (.iastore, 1) := by decide +kernel
theorem dX0_endPart_29 : decode cX0_endPart 29 = .ok (.aload_n 0, 1) := by decide +kernel
theorem dX0_endPart_30 : decode cX0_endPart 30 = .ok (.dup, 1) := by decide +kernel
theorem dX0_endPart_31 : decode cX0_endPart 31 = .ok (.getfield 22, 3) := by decide +kernel
theorem dX0_endPart_34 : decode cX0_endPart 34 = .ok (.iconst 1, 1) := by decide +kernel
theorem dX0_endPart_35 : decode cX0_endPart 35 = .ok (.iadd, 1) := by decide +kernel
theorem dX0_endPart_36 : decode cX0_endPart 36 = .ok (.putfield 22, 3) := by decide +kernel
theorem dX0_endPart_39 : decode cX0_endPart 39 = .ok (.return_, 1) := by decide +kernel
theorem dX0_partEnd_0 : decode cX0_partEnd 0 = .ok (.iload_n 1, 1) := by decide +kernel
theorem dX0_partEnd_1 : decode cX0_partEnd 1 = .ok (.ifCond .lt 29, 3) := by decide +kernel
theorem dX0_partEnd_4 : decode cX0_partEnd 4 = .ok (.iload_n 1, 1) := by decide +kernel
theorem dX0_partEnd_5 : decode cX0_partEnd 5 = .ok (.aload_n 0, 1) := by decide +kernel
theorem dX0_partEnd_6 : decode cX0_partEnd 6 = .ok (.getfield 22, 3) := by decide +kernel
theorem dX0_partEnd_9 : decode cX0_partEnd 9 = .ok (.if_icmp .ge 21, 3) := by decide +kernel
theorem dX0_partEnd_12 : decode cX0_partEnd 12 = .ok (.iload_n 1, 1) := by decide +kernel
theorem dX0_partEnd_13 : decode cX0_partEnd 13 = .ok (.aload_n 0, 1) := by decide +kernel
theorem dX0_partEnd_14 : decode cX0_partEnd 14 = .ok (.getfield 15, 3) := by decide +kernel
theorem dX0_partEnd_17 : decode cX0_partEnd 17 = .ok (.arraylength, 1) := by decide +kernel
theorem dX0_partEnd_18 : decode cX0_partEnd 18 = .ok (.if_icmp .ge 12, 3) := by decide +kernel
theorem dX0_partEnd_21 : decode cX0_partEnd 21 = .ok (.aload_n 0, 1) := by decide +kernel
theorem dX0_partEnd_22 : decode cX0_partEnd 22 = .ok (.getfield 15, 3) := by decide +kernel
theorem dX0_partEnd_25 : decode cX0_partEnd 25 = .ok (.iload_n 1, 1) := by decide +kernel
theorem dX0_partEnd_26 : decode cX0_partEnd 26 = .ok (.iaload, 1) := by decide +kernel
theorem dX0_partEnd_27 : decode cX0_partEnd 27 = .ok (.goto 4, 3) := by decide +kernel
theorem dX0_partEnd_30 : decode cX0_partEnd 30 = .ok (.iconst 0, 1) := by decide +kernel
theorem dX0_partEnd_31 : decode cX0_partEnd 31 = .ok (.ireturn, 1) := by decide +kernel
set_option maxRecDepth 20000 in
theorem ggX0_linkBytes_X0_partEnd : GoodIn wsX0_linkBytes wsX0_partEnd := goodIn_r _ [6, 1, 7, 46, 47, 48, 49] (by decide +kernel) (by decide +kernel)
set_option maxRecDepth 20000 in
theorem gX0_linkBytes_X0_partEnd : GoodIn wsX0_linkBytes (wsV RX0 58 RX0 yX0_partEnd wsX0_partEnd) := goodIn_app (goodIn_of _ (by decide +kernel)) ggX0_linkBytes_X0_partEnd
set_option maxRecDepth 20000 in
theorem ggX0_linkBytes_X5_chainHoldsRun : GoodIn wsX0_linkBytes wsX5_chainHoldsRun := goodIn_r _ [12, 13, 14, 15, 16, 17, 18, 19, 20, 21, 22, 23, 24, 25, 26, 27, 28, 29, 30, 31, 32, 50, 51, 52, 53, 54, 55, 56, 46, 47, 48, 49] (by decide +kernel) (by decide +kernel)
set_option maxRecDepth 20000 in
theorem gX0_linkBytes_X5_chainHoldsRun : GoodIn wsX0_linkBytes (wsV RX0 61 RX5 yX5_chainHoldsRun wsX5_chainHoldsRun) := goodIn_app (goodIn_of _ (by decide +kernel)) ggX0_linkBytes_X5_chainHoldsRun
set_option maxRecDepth 20000 in
theorem ggX0_linkBytes_X0_hasPartBefore : GoodIn wsX0_linkBytes wsX0_hasPartBefore := goodIn_r _ [36, 2, 3, 4, 5, 6, 1, 7, 37, 38, 39, 40, 41, 42, 43, 44, 45, 46, 47, 48, 49] (by decide +kernel) (by decide +kernel)
set_option maxRecDepth 20000 in
theorem gX0_linkBytes_X0_hasPartBefore : GoodIn wsX0_linkBytes (wsV RX0 67 RX0 yX0_hasPartBefore wsX0_hasPartBefore) := goodIn_app (goodIn_of _ (by decide +kernel)) ggX0_linkBytes_X0_hasPartBefore
theorem dX0_linkBytes_0 : decode cX0_linkBytes 0 = .ok (.aload_n 0, 1) := by decide +kernel
theorem dX0_linkBytes_1 : decode cX0_linkBytes 1 = .ok (.getfield 22, 3) := by decide +kernel
theorem dX0_linkBytes_4 : decode cX0_linkBytes 4 = .ok (.istore_n 2, 1) := by decide +kernel
theorem dX0_linkBytes_5 : decode cX0_linkBytes 5 = .ok (.iconst 0, 1) := by decide +kernel
theorem dX0_linkBytes_6 : decode cX0_linkBytes 6 = .ok (.istore_n 3, 1) := by decide +kernel
theorem dX0_linkBytes_7 : decode cX0_linkBytes 7 = .ok (.iload_n 3, 1) := by decide +kernel
theorem dX0_linkBytes_8 : decode cX0_linkBytes 8 = .ok (.aload_n 0, 1) := by decide +kernel
theorem dX0_linkBytes_9 : decode cX0_linkBytes 9 = .ok (.getfield 22, 3) := by decide +kernel
theorem dX0_linkBytes_12 : decode cX0_linkBytes 12 = .ok (.if_icmp .ge 73, 3) := by decide +kernel
theorem dX0_linkBytes_15 : decode cX0_linkBytes 15 = .ok (.aload_n 0, 1) := by decide +kernel
theorem dX0_linkBytes_16 : decode cX0_linkBytes 16 = .ok (.iload_n 3, 1) := by decide +kernel
theorem dX0_linkBytes_17 : decode cX0_linkBytes 17 = .ok (.iconst 1, 1) := by decide +kernel
theorem dX0_linkBytes_18 : decode cX0_linkBytes 18 = .ok (.isub, 1) := by decide +kernel
theorem dX0_linkBytes_19 : decode cX0_linkBytes 19 = .ok (.invokevirtual 58, 3) := by decide +kernel
theorem dX0_linkBytes_22 : decode cX0_linkBytes 22 = .ok (.istore 4, 2) := by decide +kernel
theorem dX0_linkBytes_24 : decode cX0_linkBytes 24 = .ok (.aload_n 0, 1) := by decide +kernel
theorem dX0_linkBytes_25 : decode cX0_linkBytes 25 = .ok (.iload_n 3, 1) := by decide +kernel
theorem dX0_linkBytes_26 : decode cX0_linkBytes 26 = .ok (.invokevirtual 58, 3) := by decide +kernel
theorem dX0_linkBytes_29 : decode cX0_linkBytes 29 = .ok (.iload 4, 2) := by decide +kernel
theorem dX0_linkBytes_31 : decode cX0_linkBytes 31 = .ok (.isub, 1) := by decide +kernel
theorem dX0_linkBytes_32 : decode cX0_linkBytes 32 = .ok (.istore 5, 2) := by decide +kernel
theorem dX0_linkBytes_34 : decode cX0_linkBytes 34 = .ok (.aload_n 1, 1) := by decide +kernel
theorem dX0_linkBytes_35 : decode cX0_linkBytes 35 = .ok (.ifnull 19, 3) := by decide +kernel
theorem dX0_linkBytes_38 : decode cX0_linkBytes 38 = .ok (.aload_n 1, 1) := by decide +kernel
theorem dX0_linkBytes_39 : decode cX0_linkBytes 39 = .ok (.aload_n 0, 1) := by decide +kernel
theorem dX0_linkBytes_40 : decode cX0_linkBytes 40 = .ok (.iload 4, 2) := by decide +kernel
theorem dX0_linkBytes_42 : decode cX0_linkBytes 42 = .ok (.iload 5, 2) := by decide +kernel
theorem dX0_linkBytes_44 : decode cX0_linkBytes 44 = .ok (.invokevirtual 61, 3) := by decide +kernel
theorem dX0_linkBytes_47 : decode cX0_linkBytes 47 = .ok (.ifCond .eq 7, 3) := by decide +kernel
theorem dX0_linkBytes_50 : decode cX0_linkBytes 50 = .ok (.iconst 1, 1) := by decide +kernel
theorem dX0_linkBytes_51 : decode cX0_linkBytes 51 = .ok (.goto 4, 3) := by decide +kernel
theorem dX0_linkBytes_54 : decode cX0_linkBytes 54 = .ok (.iconst 0, 1) := by decide +kernel
theorem dX0_linkBytes_55 : decode cX0_linkBytes 55 = .ok (.istore 6, 2) := by decide +kernel
theorem dX0_linkBytes_57 : decode cX0_linkBytes 57 = .ok (.iload 6, 2) := by decide +kernel
theorem dX0_linkBytes_59 : decode cX0_linkBytes 59 = .ok (.ifCond .ne 20, 3) := by decide +kernel
theorem dX0_linkBytes_62 : decode cX0_linkBytes 62 = .ok (.aload_n 0, 1) := by decide +kernel
theorem dX0_linkBytes_63 : decode cX0_linkBytes 63 = .ok (.iload_n 3, 1) := by decide +kernel
theorem dX0_linkBytes_64 : decode cX0_linkBytes 64 = .ok (.iload 4, 2) := by decide +kernel
theorem dX0_linkBytes_66 : decode cX0_linkBytes 66 = .ok (.iload 5, 2) := by decide +kernel
theorem dX0_linkBytes_68 : decode cX0_linkBytes 68 = .ok (.invokevirtual 67, 3) := by decide +kernel
theorem dX0_linkBytes_71 : decode cX0_linkBytes 71 = .ok (.ifCond .ne 8, 3) := by decide +kernel
theorem dX0_linkBytes_74 : decode cX0_linkBytes 74 = .ok (.iload_n 2, 1) := by decide +kernel
theorem dX0_linkBytes_75 : decode cX0_linkBytes 75 = .ok (.iload 5, 2) := by decide +kernel
theorem dX0_linkBytes_77 : decode cX0_linkBytes 77 = .ok (.iadd, 1) := by decide +kernel
theorem dX0_linkBytes_78 : decode cX0_linkBytes 78 = .ok (.istore_n 2, 1) := by decide +kernel
theorem dX0_linkBytes_79 : decode cX0_linkBytes 79 = .ok (.iinc 3 1, 3) := by decide +kernel
theorem dX0_linkBytes_82 : decode cX0_linkBytes 82 = .ok (.goto (-75), 3) := by decide +kernel
theorem dX0_linkBytes_85 : decode cX0_linkBytes 85 = .ok (.iload_n 2, 1) := by decide +kernel
theorem dX0_linkBytes_86 : decode cX0_linkBytes 86 = .ok (.ireturn, 1) := by decide +kernel
set_option maxRecDepth 20000 in
theorem ggX0_hasPartBefore_X0_partEnd : GoodIn wsX0_hasPartBefore wsX0_partEnd := goodIn_r _ [5, 6, 7, 17, 18, 19, 20] (by decide +kernel) (by decide +kernel)
set_option maxRecDepth 20000 in
theorem gX0_hasPartBefore_X0_partEnd : GoodIn wsX0_hasPartBefore (wsV RX0 58 RX0 yX0_partEnd wsX0_partEnd) := goodIn_app (goodIn_of _ (by decide +kernel)) ggX0_hasPartBefore_X0_partEnd
set_option maxRecDepth 20000 in
theorem ggX0_hasPartBefore_X0_sameRuns : GoodIn wsX0_hasPartBefore wsX0_sameRuns := goodIn_r _ [11, 12, 13, 14, 4, 15, 16, 17, 18, 19, 20] (by decide +kernel) (by decide +kernel)
set_option maxRecDepth 20000 in
theorem gX0_hasPartBefore_X0_sameRuns : GoodIn wsX0_hasPartBefore (wsV RX0 71 RX0 yX0_sameRuns wsX0_sameRuns) := goodIn_app (goodIn_of _ (by decide +kernel)) ggX0_hasPartBefore_X0_sameRuns
theorem dX0_hasPartBefore_0 : decode cX0_hasPartBefore 0 = .ok (.iconst 0, 1) := by decide +kernel
theorem dX0_hasPartBefore_1 : decode cX0_hasPartBefore 1 = .ok (.istore 4, 2) := by decide +kernel
theorem dX0_hasPartBefore_3 : decode cX0_hasPartBefore 3 = .ok (.iload 4, 2) := by decide +kernel
theorem dX0_hasPartBefore_5 : decode cX0_hasPartBefore 5 = .ok (.iload_n 1, 1) := by decide +kernel
theorem dX0_hasPartBefore_6 : decode cX0_hasPartBefore 6 = .ok (.if_icmp .ge 45, 3) := by decide +kernel
theorem dX0_hasPartBefore_9 : decode cX0_hasPartBefore 9 = .ok (.aload_n 0, 1) := by decide +kernel
theorem dX0_hasPartBefore_10 : decode cX0_hasPartBefore 10 = .ok (.iload 4, 2) := by decide +kernel
theorem dX0_hasPartBefore_12 : decode cX0_hasPartBefore 12 = .ok (.iconst 1, 1) := by decide +kernel
theorem dX0_hasPartBefore_13 : decode cX0_hasPartBefore 13 = .ok (.isub, 1) := by decide +kernel
theorem dX0_hasPartBefore_14 : decode cX0_hasPartBefore 14 = .ok (.invokevirtual 58, 3) := by decide +kernel
theorem dX0_hasPartBefore_17 : decode cX0_hasPartBefore 17 = .ok (.istore 5, 2) := by decide +kernel
theorem dX0_hasPartBefore_19 : decode cX0_hasPartBefore 19 = .ok (.aload_n 0, 1) := by decide +kernel
theorem dX0_hasPartBefore_20 : decode cX0_hasPartBefore 20 = .ok (.iload 4, 2) := by decide +kernel
theorem dX0_hasPartBefore_22 : decode cX0_hasPartBefore 22 = .ok (.invokevirtual 58, 3) := by decide +kernel
theorem dX0_hasPartBefore_25 : decode cX0_hasPartBefore 25 = .ok (.iload 5, 2) := by decide +kernel
theorem dX0_hasPartBefore_27 : decode cX0_hasPartBefore 27 = .ok (.isub, 1) := by decide +kernel
theorem dX0_hasPartBefore_28 : decode cX0_hasPartBefore 28 = .ok (.iload_n 3, 1) := by decide +kernel
theorem dX0_hasPartBefore_29 : decode cX0_hasPartBefore 29 = .ok (.if_icmp .ne 16, 3) := by decide +kernel
theorem dX0_hasPartBefore_32 : decode cX0_hasPartBefore 32 = .ok (.aload_n 0, 1) := by decide +kernel
theorem dX0_hasPartBefore_33 : decode cX0_hasPartBefore 33 = .ok (.iload 5, 2) := by decide +kernel
theorem dX0_hasPartBefore_35 : decode cX0_hasPartBefore 35 = .ok (.iload_n 2, 1) := by decide +kernel
theorem dX0_hasPartBefore_36 : decode cX0_hasPartBefore 36 = .ok (.iload_n 3, 1) := by decide +kernel
theorem dX0_hasPartBefore_37 : decode cX0_hasPartBefore 37 = .ok (.invokevirtual 71, 3) := by decide +kernel
theorem dX0_hasPartBefore_40 : decode cX0_hasPartBefore 40 = .ok (.ifCond .eq 5, 3) := by decide +kernel
theorem dX0_hasPartBefore_43 : decode cX0_hasPartBefore 43 = .ok (.iconst 1, 1) := by decide +kernel
theorem dX0_hasPartBefore_44 : decode cX0_hasPartBefore 44 = .ok (.ireturn, 1) := by decide +kernel
theorem dX0_hasPartBefore_45 : decode cX0_hasPartBefore 45 = .ok (.iinc 4 1, 3) := by decide +kernel
theorem dX0_hasPartBefore_48 : decode cX0_hasPartBefore 48 = .ok (.goto (-45), 3) := by decide +kernel
theorem dX0_hasPartBefore_51 : decode cX0_hasPartBefore 51 = .ok (.iconst 0, 1) := by decide +kernel
theorem dX0_hasPartBefore_52 : decode cX0_hasPartBefore 52 = .ok (.ireturn, 1) := by decide +kernel
set_option maxRecDepth 20000 in
theorem ggX0_sameRuns_X0_byteAt : GoodIn wsX0_sameRuns wsX0_byteAt := goodIn_r _ [5, 6, 7, 8, 9, 10] (by decide +kernel) (by decide +kernel)
set_option maxRecDepth 20000 in
theorem gX0_sameRuns_X0_byteAt : GoodIn wsX0_sameRuns (wsV RX0 25 RX0 yX0_byteAt wsX0_byteAt) := goodIn_app (goodIn_of _ (by decide +kernel)) ggX0_sameRuns_X0_byteAt
theorem dX0_sameRuns_0 : decode cX0_sameRuns 0 = .ok (.iconst 0, 1) := by decide +kernel
theorem dX0_sameRuns_1 : decode cX0_sameRuns 1 = .ok (.istore 4, 2) := by decide +kernel
theorem dX0_sameRuns_3 : decode cX0_sameRuns 3 = .ok (.iload 4, 2) := by decide +kernel
theorem dX0_sameRuns_5 : decode cX0_sameRuns 5 = .ok (.iload_n 3, 1) := by decide +kernel
theorem dX0_sameRuns_6 : decode cX0_sameRuns 6 = .ok (.if_icmp .ge 30, 3) := by decide +kernel
theorem dX0_sameRuns_9 : decode cX0_sameRuns 9 = .ok (.aload_n 0, 1) := by decide +kernel
theorem dX0_sameRuns_10 : decode cX0_sameRuns 10 = .ok (.iload_n 1, 1) := by decide +kernel
theorem dX0_sameRuns_11 : decode cX0_sameRuns 11 = .ok (.iload 4, 2) := by decide +kernel
theorem dX0_sameRuns_13 : decode cX0_sameRuns 13 = .ok (.iadd, 1) := by decide +kernel
theorem dX0_sameRuns_14 : decode cX0_sameRuns 14 = .ok (.invokevirtual 25, 3) := by decide +kernel
theorem dX0_sameRuns_17 : decode cX0_sameRuns 17 = .ok (.aload_n 0, 1) := by decide +kernel
theorem dX0_sameRuns_18 : decode cX0_sameRuns 18 = .ok (.iload_n 2, 1) := by decide +kernel
theorem dX0_sameRuns_19 : decode cX0_sameRuns 19 = .ok (.iload 4, 2) := by decide +kernel
theorem dX0_sameRuns_21 : decode cX0_sameRuns 21 = .ok (.iadd, 1) := by decide +kernel
theorem dX0_sameRuns_22 : decode cX0_sameRuns 22 = .ok (.invokevirtual 25, 3) := by decide +kernel
theorem dX0_sameRuns_25 : decode cX0_sameRuns 25 = .ok (.if_icmp .eq 5, 3) := by decide +kernel
theorem dX0_sameRuns_28 : decode cX0_sameRuns 28 = .ok (.iconst 0, 1) := by decide +kernel
theorem dX0_sameRuns_29 : decode cX0_sameRuns 29 = .ok (.ireturn, 1) := by decide +kernel
theorem dX0_sameRuns_30 : decode cX0_sameRuns 30 = .ok (.iinc 4 1, 3) := by decide +kernel
theorem dX0_sameRuns_33 : decode cX0_sameRuns 33 = .ok (.goto (-30), 3) := by decide +kernel
theorem dX0_sameRuns_36 : decode cX0_sameRuns 36 = .ok (.iconst 1, 1) := by decide +kernel
theorem dX0_sameRuns_37 : decode cX0_sameRuns 37 = .ok (.ireturn, 1) := by decide +kernel
set_option maxRecDepth 20000 in
theorem ggX0_isCutAs_X0_partEnd : GoodIn wsX0_isCutAs wsX0_partEnd := goodIn_r _ [7, 2, 8, 25, 26, 27, 28] (by decide +kernel) (by decide +kernel)
set_option maxRecDepth 20000 in
theorem gX0_isCutAs_X0_partEnd : GoodIn wsX0_isCutAs (wsV RX0 58 RX0 yX0_partEnd wsX0_partEnd) := goodIn_app (goodIn_of _ (by decide +kernel)) ggX0_isCutAs_X0_partEnd
set_option maxRecDepth 20000 in
theorem ggX0_isCutAs_X2_chunkAt : GoodIn wsX0_isCutAs wsX2_chunkAt := goodIn_r _ [13, 14, 15, 23, 24] (by decide +kernel) (by decide +kernel)
set_option maxRecDepth 20000 in
theorem gX0_isCutAs_X2_chunkAt : GoodIn wsX0_isCutAs (wsV RX0 38 RX2 yX2_chunkAt wsX2_chunkAt) := goodIn_app (goodIn_of _ (by decide +kernel)) ggX0_isCutAs_X2_chunkAt
set_option maxRecDepth 20000 in
theorem ggX0_isCutAs_X1_isRun : GoodIn wsX0_isCutAs wsX1_isRun := goodIn_r _ [20, 21, 22, 29, 30, 25, 26, 27, 28] (by decide +kernel) (by decide +kernel)
set_option maxRecDepth 20000 in
theorem gX0_isCutAs_X1_isRun : GoodIn wsX0_isCutAs (wsV RX0 74 RX1 yX1_isRun wsX1_isRun) := goodIn_app (goodIn_of _ (by decide +kernel)) ggX0_isCutAs_X1_isRun
theorem dX0_isCutAs_0 : decode cX0_isCutAs 0 = .ok (.aload_n 1, 1) := by decide +kernel
theorem dX0_isCutAs_1 : decode cX0_isCutAs 1 = .ok (.getfield 33, 3) := by decide +kernel
theorem dX0_isCutAs_4 : decode cX0_isCutAs 4 = .ok (.aload_n 0, 1) := by decide +kernel
theorem dX0_isCutAs_5 : decode cX0_isCutAs 5 = .ok (.getfield 22, 3) := by decide +kernel
theorem dX0_isCutAs_8 : decode cX0_isCutAs 8 = .ok (.if_icmp .eq 5, 3) := by decide +kernel
theorem dX0_isCutAs_11 : decode cX0_isCutAs 11 = .ok (.iconst 0, 1) := by decide +kernel
theorem dX0_isCutAs_12 : decode cX0_isCutAs 12 = .ok (.ireturn, 1) := by decide +kernel
theorem dX0_isCutAs_13 : decode cX0_isCutAs 13 = .ok (.iconst 0, 1) := by decide +kernel
theorem dX0_isCutAs_14 : decode cX0_isCutAs 14 = .ok (.istore_n 2, 1) := by decide +kernel
theorem dX0_isCutAs_15 : decode cX0_isCutAs 15 = .ok (.iload_n 2, 1) := by decide +kernel
theorem dX0_isCutAs_16 : decode cX0_isCutAs 16 = .ok (.aload_n 0, 1) := by decide +kernel
theorem dX0_isCutAs_17 : decode cX0_isCutAs 17 = .ok (.getfield 22, 3) := by decide +kernel
theorem dX0_isCutAs_20 : decode cX0_isCutAs 20 = .ok (.if_icmp .ge 48, 3) := by decide +kernel
theorem dX0_isCutAs_23 : decode cX0_isCutAs 23 = .ok (.aload_n 0, 1) := by decide +kernel
theorem dX0_isCutAs_24 : decode cX0_isCutAs 24 = .ok (.iload_n 2, 1) := by decide +kernel
theorem dX0_isCutAs_25 : decode cX0_isCutAs 25 = .ok (.iconst 1, 1) := by decide +kernel
theorem dX0_isCutAs_26 : decode cX0_isCutAs 26 = .ok (.isub, 1) := by decide +kernel
theorem dX0_isCutAs_27 : decode cX0_isCutAs 27 = .ok (.invokevirtual 58, 3) := by decide +kernel
theorem dX0_isCutAs_30 : decode cX0_isCutAs 30 = .ok (.istore_n 3, 1) := by decide +kernel
theorem dX0_isCutAs_31 : decode cX0_isCutAs 31 = .ok (.aload_n 1, 1) := by decide +kernel
theorem dX0_isCutAs_32 : decode cX0_isCutAs 32 = .ok (.iload_n 2, 1) := by decide +kernel
theorem dX0_isCutAs_33 : decode cX0_isCutAs 33 = .ok (.invokevirtual 38, 3) := by decide +kernel
theorem dX0_isCutAs_36 : decode cX0_isCutAs 36 = .ok (.astore 4, 2) := by decide +kernel
theorem dX0_isCutAs_38 : decode cX0_isCutAs 38 = .ok (.aload 4, 2) := by decide +kernel
theorem dX0_isCutAs_40 : decode cX0_isCutAs 40 = .ok (.ifnull 20, 3) := by decide +kernel
theorem dX0_isCutAs_43 : decode cX0_isCutAs 43 = .ok (.aload 4, 2) := by decide +kernel
theorem dX0_isCutAs_45 : decode cX0_isCutAs 45 = .ok (.aload_n 0, 1) := by decide +kernel
theorem dX0_isCutAs_46 : decode cX0_isCutAs 46 = .ok (.iload_n 3, 1) := by decide +kernel
theorem dX0_isCutAs_47 : decode cX0_isCutAs 47 = .ok (.aload_n 0, 1) := by decide +kernel
theorem dX0_isCutAs_48 : decode cX0_isCutAs 48 = .ok (.iload_n 2, 1) := by decide +kernel
theorem dX0_isCutAs_49 : decode cX0_isCutAs 49 = .ok (.invokevirtual 58, 3) := by decide +kernel
theorem dX0_isCutAs_52 : decode cX0_isCutAs 52 = .ok (.iload_n 3, 1) := by decide +kernel
theorem dX0_isCutAs_53 : decode cX0_isCutAs 53 = .ok (.isub, 1) := by decide +kernel
theorem dX0_isCutAs_54 : decode cX0_isCutAs 54 = .ok (.invokevirtual 74, 3) := by decide +kernel
theorem dX0_isCutAs_57 : decode cX0_isCutAs 57 = .ok (.ifCond .ne 5, 3) := by decide +kernel
theorem dX0_isCutAs_60 : decode cX0_isCutAs 60 = .ok (.iconst 0, 1) := by decide +kernel
theorem dX0_isCutAs_61 : decode cX0_isCutAs 61 = .ok (.ireturn, 1) := by decide +kernel
theorem dX0_isCutAs_62 : decode cX0_isCutAs 62 = .ok (.iinc 2 1, 3) := by decide +kernel
theorem dX0_isCutAs_65 : decode cX0_isCutAs 65 = .ok (.goto (-50), 3) := by decide +kernel
theorem dX0_isCutAs_68 : decode cX0_isCutAs 68 = .ok (.iconst 1, 1) := by decide +kernel
theorem dX0_isCutAs_69 : decode cX0_isCutAs 69 = .ok (.ireturn, 1) := by decide +kernel
set_option maxRecDepth 20000 in
theorem ggX1_init_X0_byteAt : GoodIn wsX1_init wsX0_byteAt := goodIn_r _ [15, 16, 19, 20, 21, 22] (by decide +kernel) (by decide +kernel)
set_option maxRecDepth 20000 in
theorem gX1_init_X0_byteAt : GoodIn wsX1_init (wsV RX1 23 RX0 yX0_byteAt wsX0_byteAt) := goodIn_app (goodIn_of _ (by decide +kernel)) ggX1_init_X0_byteAt
theorem dX1_init_0 : decode cX1_init 0 = .ok (.aload_n 0, 1) := by decide +kernel
theorem dX1_init_1 : decode cX1_init 1 = .ok (.invokespecial 1, 3) := by decide +kernel
theorem dX1_init_4 : decode cX1_init 4 = .ok (.aload_n 0, 1) := by decide +kernel
theorem dX1_init_5 : decode cX1_init 5 = .ok (.aload 4, 2) := by decide +kernel
theorem dX1_init_7 : decode cX1_init 7 = .ok (.putfield 7, 3) := by decide +kernel
theorem dX1_init_10 : decode cX1_init 10 = .ok (.aload_n 0, 1) := by decide +kernel
theorem dX1_init_11 : decode cX1_init 11 = .ok (.iload_n 3, 1) := by decide +kernel
theorem dX1_init_12 : decode cX1_init 12 = .ok (.iconst 0, 1) := by decide +kernel
theorem dX1_init_13 : decode cX1_init 13 = .ok (.invokestatic 13, 3) := by decide +kernel
theorem dX1_init_16 : decode cX1_init 16 = .ok (.newarray .int, 2) := by decide +kernel
theorem dX1_init_18 : decode cX1_init 18 = .ok (.putfield 19, 3) := by decide +kernel
theorem dX1_init_21 : decode cX1_init 21 = .ok (.iconst 0, 1) := by decide +kernel
theorem dX1_init_22 : decode cX1_init 22 = .ok (.istore 5, 2) := by decide +kernel
theorem dX1_init_24 : decode cX1_init 24 = .ok (.iload 5, 2) := by decide +kernel
theorem dX1_init_26 : decode cX1_init 26 = .ok (.aload_n 0, 1) := by decide +kernel
theorem dX1_init_27 : decode cX1_init 27 = .ok (.getfield 19, 3) := by decide +kernel
theorem dX1_init_30 : decode cX1_init 30 = .ok (.arraylength, 1) := by decide +kernel
theorem dX1_init_31 : decode cX1_init 31 = .ok (.if_icmp .ge 24, 3) := by decide +kernel
theorem dX1_init_34 : decode cX1_init 34 = .ok (.aload_n 0, 1) := by decide +kernel
theorem dX1_init_35 : decode cX1_init 35 = .ok (.getfield 19, 3) := by decide +kernel
theorem dX1_init_38 : decode cX1_init 38 = .ok (.iload 5, 2) := by decide +kernel
theorem dX1_init_40 : decode cX1_init 40 = .ok (.aload_n 1, 1) := by decide +kernel
theorem dX1_init_41 : decode cX1_init 41 = .ok (.iload_n 2, 1) := by decide +kernel
theorem dX1_init_42 : decode cX1_init 42 = .ok (.iload 5, 2) := by decide +kernel
theorem dX1_init_44 : decode cX1_init 44 = .ok (.iadd, 1) := by decide +kernel
theorem dX1_init_45 : decode cX1_init 45 = .ok (.invokevirtual 23, 3) := by decide +kernel
theorem dX1_init_48 : decode cX1_init 48 = .ok (.iastore, 1) := by decide +kernel
theorem dX1_init_49 : decode cX1_init 49 = .ok (.iinc 5 1, 3) := by decide +kernel
theorem dX1_init_52 : decode cX1_init 52 = .ok (.goto (-28), 3) := by decide +kernel
theorem dX1_init_55 : decode cX1_init 55 = .ok (.return_, 1) := by decide +kernel
theorem dX1_size_0 : decode cX1_size 0 = .ok (.aload_n 0, 1) := by decide +kernel
theorem dX1_size_1 : decode cX1_size 1 = .ok (.getfield 19, 3) := by decide +kernel
theorem dX1_size_4 : decode cX1_size 4 = .ok (.arraylength, 1) := by decide +kernel
theorem dX1_size_5 : decode cX1_size 5 = .ok (.ireturn, 1) := by decide +kernel
theorem dX1_byteAt_0 : decode cX1_byteAt 0 = .ok (.iload_n 1, 1) := by decide +kernel
theorem dX1_byteAt_1 : decode cX1_byteAt 1 = .ok (.ifCond .lt 21, 3) := by decide +kernel
theorem dX1_byteAt_4 : decode cX1_byteAt 4 = .ok (.iload_n 1, 1) := by decide +kernel
theorem dX1_byteAt_5 : decode cX1_byteAt 5 = .ok (.aload_n 0, 1) := by decide +kernel
theorem dX1_byteAt_6 : decode cX1_byteAt 6 = .ok (.getfield 19, 3) := by decide +kernel
theorem dX1_byteAt_9 : decode cX1_byteAt 9 = .ok (.arraylength, 1) := by decide +kernel
theorem dX1_byteAt_10 : decode cX1_byteAt 10 = .ok (.if_icmp .ge 12, 3) := by decide +kernel
theorem dX1_byteAt_13 : decode cX1_byteAt 13 = .ok (.aload_n 0, 1) := by decide +kernel
theorem dX1_byteAt_14 : decode cX1_byteAt 14 = .ok (.getfield 19, 3) := by decide +kernel
theorem dX1_byteAt_17 : decode cX1_byteAt 17 = .ok (.iload_n 1, 1) := by decide +kernel
theorem dX1_byteAt_18 : decode cX1_byteAt 18 = .ok (.iaload, 1) := by decide +kernel
theorem dX1_byteAt_19 : decode cX1_byteAt 19 = .ok (.goto 4, 3) := by decide +kernel
theorem dX1_byteAt_22 : decode cX1_byteAt 22 = .ok (.iconst 0, 1) := by decide +kernel
theorem dX1_byteAt_23 : decode cX1_byteAt 23 = .ok (.ireturn, 1) := by decide +kernel
theorem dX1_isRun_0 : decode cX1_isRun 0 = .ok (.iload_n 3, 1) := by decide +kernel
theorem dX1_isRun_1 : decode cX1_isRun 1 = .ok (.aload_n 0, 1) := by decide +kernel
theorem dX1_isRun_2 : decode cX1_isRun 2 = .ok (.getfield 19, 3) := by decide +kernel
theorem dX1_isRun_5 : decode cX1_isRun 5 = .ok (.arraylength, 1) := by decide +kernel
theorem dX1_isRun_6 : decode cX1_isRun 6 = .ok (.if_icmp .ne 18, 3) := by decide +kernel
theorem dX1_isRun_9 : decode cX1_isRun 9 = .ok (.iload_n 2, 1) := by decide +kernel
theorem dX1_isRun_10 : decode cX1_isRun 10 = .ok (.ifCond .lt 14, 3) := by decide +kernel
theorem dX1_isRun_13 : decode cX1_isRun 13 = .ok (.iload_n 2, 1) := by decide +kernel
theorem dX1_isRun_14 : decode cX1_isRun 14 = .ok (.aload_n 1, 1) := by decide +kernel
theorem dX1_isRun_15 : decode cX1_isRun 15 = .ok (.getfield 29, 3) := by decide +kernel
theorem dX1_isRun_18 : decode cX1_isRun 18 = .ok (.arraylength, 1) := by decide +kernel
theorem dX1_isRun_19 : decode cX1_isRun 19 = .ok (.iload_n 3, 1) := by decide +kernel
theorem dX1_isRun_20 : decode cX1_isRun 20 = .ok (.isub, 1) := by decide +kernel
theorem dX1_isRun_21 : decode cX1_isRun 21 = .ok (.if_icmp .le 5, 3) := by decide +kernel
theorem dX1_isRun_24 : decode cX1_isRun 24 = .ok (.iconst 0, 1) := by decide +kernel
theorem dX1_isRun_25 : decode cX1_isRun 25 = .ok (.ireturn, 1) := by decide +kernel
theorem dX1_isRun_26 : decode cX1_isRun 26 = .ok (.iconst 0, 1) := by decide +kernel
theorem dX1_isRun_27 : decode cX1_isRun 27 = .ok (.istore 4, 2) := by decide +kernel
theorem dX1_isRun_29 : decode cX1_isRun 29 = .ok (.iload 4, 2) := by decide +kernel
theorem dX1_isRun_31 : decode cX1_isRun 31 = .ok (.aload_n 0, 1) := by decide +kernel
theorem dX1_isRun_32 : decode cX1_isRun 32 = .ok (.getfield 19, 3) := by decide +kernel
theorem dX1_isRun_35 : decode cX1_isRun 35 = .ok (.arraylength, 1) := by decide +kernel
theorem dX1_isRun_36 : decode cX1_isRun 36 = .ok (.if_icmp .ge 30, 3) := by decide +kernel
theorem dX1_isRun_39 : decode cX1_isRun 39 = .ok (.aload_n 0, 1) := by decide +kernel
theorem dX1_isRun_40 : decode cX1_isRun 40 = .ok (.getfield 19, 3) := by decide +kernel
theorem dX1_isRun_43 : decode cX1_isRun 43 = .ok (.iload 4, 2) := by decide +kernel
theorem dX1_isRun_45 : decode cX1_isRun 45 = .ok (.iaload, 1) := by decide +kernel
theorem dX1_isRun_46 : decode cX1_isRun 46 = .ok (.aload_n 1, 1) := by decide +kernel
theorem dX1_isRun_47 : decode cX1_isRun 47 = .ok (.getfield 29, 3) := by decide +kernel
theorem dX1_isRun_50 : decode cX1_isRun 50 = .ok (.iload_n 2, 1) := by decide +kernel
theorem dX1_isRun_51 : decode cX1_isRun 51 = .ok (.iload 4, 2) := by decide +kernel
theorem dX1_isRun_53 : decode cX1_isRun 53 = .ok (.iadd, 1) := by decide +kernel
theorem dX1_isRun_54 : decode cX1_isRun 54 = .ok (.iaload, 1) := by decide +kernel
theorem dX1_isRun_55 : decode cX1_isRun 55 = .ok (.if_icmp .eq 5, 3) := by decide +kernel
theorem dX1_isRun_58 : decode cX1_isRun 58 = .ok (.iconst 0, 1) := by decide +kernel
theorem dX1_isRun_59 : decode cX1_isRun 59 = .ok (.ireturn, 1) := by decide +kernel
theorem dX1_isRun_60 : decode cX1_isRun 60 = .ok (.iinc 4 1, 3) := by decide +kernel
theorem dX1_isRun_63 : decode cX1_isRun 63 = .ok (.goto (-34), 3) := by decide +kernel
theorem dX1_isRun_66 : decode cX1_isRun 66 = .ok (.iconst 1, 1) := by decide +kernel
theorem dX1_isRun_67 : decode cX1_isRun 67 = .ok (.ireturn, 1) := by decide +kernel
set_option maxRecDepth 20000 in
theorem ggX1_foldedInto_X9_foldIn : GoodIn wsX1_foldedInto wsX9_foldIn := goodIn_r _ [4] (by decide +kernel) (by decide +kernel)
set_option maxRecDepth 20000 in
theorem gX1_foldedInto_X9_foldIn_n30 : GoodIn wsX1_foldedInto (wsX9_foldIn) := ggX1_foldedInto_X9_foldIn
theorem dX1_foldedInto_0 : decode cX1_foldedInto 0 = .ok (.lload_n 1, 1) := by decide +kernel
theorem dX1_foldedInto_1 : decode cX1_foldedInto 1 = .ok (.lstore_n 3, 1) := by decide +kernel
theorem dX1_foldedInto_2 : decode cX1_foldedInto 2 = .ok (.iconst 0, 1) := by decide +kernel
theorem dX1_foldedInto_3 : decode cX1_foldedInto 3 = .ok (.istore 5, 2) := by decide +kernel
theorem dX1_foldedInto_5 : decode cX1_foldedInto 5 = .ok (.iload 5, 2) := by decide +kernel
theorem dX1_foldedInto_7 : decode cX1_foldedInto 7 = .ok (.aload_n 0, 1) := by decide +kernel
theorem dX1_foldedInto_8 : decode cX1_foldedInto 8 = .ok (.getfield 19, 3) := by decide +kernel
theorem dX1_foldedInto_11 : decode cX1_foldedInto 11 = .ok (.arraylength, 1) := by decide +kernel
theorem dX1_foldedInto_12 : decode cX1_foldedInto 12 = .ok (.if_icmp .ge 21, 3) := by decide +kernel
theorem dX1_foldedInto_15 : decode cX1_foldedInto 15 = .ok (.lload_n 3, 1) := by decide +kernel
theorem dX1_foldedInto_16 : decode cX1_foldedInto 16 = .ok (.aload_n 0, 1) := by decide +kernel
theorem dX1_foldedInto_17 : decode cX1_foldedInto 17 = .ok (.getfield 19, 3) := by decide +kernel
theorem dX1_foldedInto_20 : decode cX1_foldedInto 20 = .ok (.iload 5, 2) := by decide +kernel
theorem dX1_foldedInto_22 : decode cX1_foldedInto 22 = .ok (.iaload, 1) := by decide +kernel
theorem dX1_foldedInto_23 : decode cX1_foldedInto 23 = .ok (.invokestatic 30, 3) := by decide +kernel
theorem dX1_foldedInto_26 : decode cX1_foldedInto 26 = .ok (.lstore_n 3, 1) := by decide +kernel
theorem dX1_foldedInto_27 : decode cX1_foldedInto 27 = .ok (.iinc 5 1, 3) := by decide +kernel
theorem dX1_foldedInto_30 : decode cX1_foldedInto 30 = .ok (.goto (-25), 3) := by decide +kernel
theorem dX1_foldedInto_33 : decode cX1_foldedInto 33 = .ok (.lload_n 3, 1) := by decide +kernel
theorem dX1_foldedInto_34 : decode cX1_foldedInto 34 = .ok (.lreturn, 1) := by decide +kernel
theorem dX2_init_0 : decode cX2_init 0 = .ok (.aload_n 0, 1) := by decide +kernel
theorem dX2_init_1 : decode cX2_init 1 = .ok (.invokespecial 3, 3) := by decide +kernel
theorem dX2_init_4 : decode cX2_init 4 = .ok (.aload_n 0, 1) := by decide +kernel
theorem dX2_init_5 : decode cX2_init 5 = .ok (.bipush 48, 2) := by decide +kernel
theorem dX2_init_7 : decode cX2_init 7 = .ok (.anewarray 9, 3) := by decide +kernel
theorem dX2_init_10 : decode cX2_init 10 = .ok (.putfield 11, 3) := by decide +kernel
theorem dX2_init_13 : decode cX2_init 13 = .ok (.aload_n 0, 1) := by decide +kernel
theorem dX2_init_14 : decode cX2_init 14 = .ok (.iconst 0, 1) := by decide +kernel
theorem dX2_init_15 : decode cX2_init 15 = .ok (.putfield 17, 3) := by decide +kernel
theorem dX2_init_18 : decode cX2_init 18 = .ok (.return_, 1) := by decide +kernel
theorem dX2_add_0 : decode cX2_add 0 = .ok (.aload_n 0, 1) := by decide +kernel
theorem dX2_add_1 : decode cX2_add 1 = .ok (.getfield 17, 3) := by decide +kernel
theorem dX2_add_4 : decode cX2_add 4 = .ok (.ifCond .lt 35, 3) := by decide +kernel
theorem dX2_add_7 : decode cX2_add 7 = .ok (.aload_n 0, 1) := by decide +kernel
theorem dX2_add_8 : decode cX2_add 8 = .ok (.getfield 17, 3) := by decide +kernel
theorem dX2_add_11 : decode cX2_add 11 = .ok (.aload_n 0, 1) := by decide +kernel
theorem dX2_add_12 : decode cX2_add 12 = .ok (.getfield 11, 3) := by decide +kernel
theorem dX2_add_15 : decode cX2_add 15 = .ok (.arraylength, 1) := by decide +kernel
theorem dX2_add_16 : decode cX2_add 16 = .ok (.if_icmp .ge 23, 3) := by decide +kernel
theorem dX2_add_19 : decode cX2_add 19 = .ok (.aload_n 0, 1) := by decide +kernel
theorem dX2_add_20 : decode cX2_add 20 = .ok (.getfield 11, 3) := by decide +kernel
theorem dX2_add_23 : decode cX2_add 23 = .ok (.aload_n 0, 1) := by decide +kernel
theorem dX2_add_24 : decode cX2_add 24 = .ok (.getfield 17, 3) := by decide +kernel
theorem dX2_add_27 : decode cX2_add 27 = .ok (.aload_n 1, 1) := by decide +kernel
theorem dX2_add_28 : decode cX2_add 28 = .ok (.aastore, 1) := by decide +kernel
theorem dX2_add_29 : decode cX2_add 29 = .ok (.aload_n 0, 1) := by decide +kernel
theorem dX2_add_30 : decode cX2_add 30 = .ok (.dup, 1) := by decide +kernel
theorem dX2_add_31 : decode cX2_add 31 = .ok (.getfield 17, 3) := by decide +kernel
theorem dX2_add_34 : decode cX2_add 34 = .ok (.iconst 1, 1) := by decide +kernel
theorem dX2_add_35 : decode cX2_add 35 = .ok (.iadd, 1) := by decide +kernel
theorem dX2_add_36 : decode cX2_add 36 = .ok (.putfield 17, 3) := by decide +kernel
theorem dX2_add_39 : decode cX2_add 39 = .ok (.return_, 1) := by decide +kernel
theorem dX2_chunkAt_0 : decode cX2_chunkAt 0 = .ok (.iload_n 1, 1) := by decide +kernel
theorem dX2_chunkAt_1 : decode cX2_chunkAt 1 = .ok (.ifCond .lt 29, 3) := by decide +kernel
theorem dX2_chunkAt_4 : decode cX2_chunkAt 4 = .ok (.iload_n 1, 1) := by decide +kernel
theorem dX2_chunkAt_5 : decode cX2_chunkAt 5 = .ok (.aload_n 0, 1) := by decide +kernel
theorem dX2_chunkAt_6 : decode cX2_chunkAt 6 = .ok (.getfield 17, 3) := by decide +kernel
theorem dX2_chunkAt_9 : decode cX2_chunkAt 9 = .ok (.if_icmp .ge 21, 3) := by decide +kernel
theorem dX2_chunkAt_12 : decode cX2_chunkAt 12 = .ok (.iload_n 1, 1) := by decide +kernel
theorem dX2_chunkAt_13 : decode cX2_chunkAt 13 = .ok (.aload_n 0, 1) := by decide +kernel
theorem dX2_chunkAt_14 : decode cX2_chunkAt 14 = .ok (.getfield 11, 3) := by decide +kernel
theorem dX2_chunkAt_17 : decode cX2_chunkAt 17 = .ok (.arraylength, 1) := by decide +kernel
theorem dX2_chunkAt_18 : decode cX2_chunkAt 18 = .ok (.if_icmp .ge 12, 3) := by decide +kernel
theorem dX2_chunkAt_21 : decode cX2_chunkAt 21 = .ok (.aload_n 0, 1) := by decide +kernel
theorem dX2_chunkAt_22 : decode cX2_chunkAt 22 = .ok (.getfield 11, 3) := by decide +kernel
theorem dX2_chunkAt_25 : decode cX2_chunkAt 25 = .ok (.iload_n 1, 1) := by decide +kernel
theorem dX2_chunkAt_26 : decode cX2_chunkAt 26 = .ok (.aaload, 1) := by decide +kernel
theorem dX2_chunkAt_27 : decode cX2_chunkAt 27 = .ok (.goto 4, 3) := by decide +kernel
theorem dX2_chunkAt_30 : decode cX2_chunkAt 30 = .ok (.aconst_null, 1) := by decide +kernel
theorem dX2_chunkAt_31 : decode cX2_chunkAt 31 = .ok (.areturn, 1) := by decide +kernel
theorem dX2_hasAheadOf_0 : decode cX2_hasAheadOf 0 = .ok (.iconst 0, 1) := by decide +kernel
theorem dX2_hasAheadOf_1 : decode cX2_hasAheadOf 1 = .ok (.istore_n 3, 1) := by decide +kernel
theorem dX2_hasAheadOf_2 : decode cX2_hasAheadOf 2 = .ok (.iload_n 3, 1) := by decide +kernel
theorem dX2_hasAheadOf_3 : decode cX2_hasAheadOf 3 = .ok (.iload_n 1, 1) := by decide +kernel
theorem dX2_hasAheadOf_4 : decode cX2_hasAheadOf 4 = .ok (.if_icmp .ge 38, 3) := by decide +kernel
theorem dX2_hasAheadOf_7 : decode cX2_hasAheadOf 7 = .ok (.iload_n 3, 1) := by decide +kernel
theorem dX2_hasAheadOf_8 : decode cX2_hasAheadOf 8 = .ok (.aload_n 0, 1) := by decide +kernel
theorem dX2_hasAheadOf_9 : decode cX2_hasAheadOf 9 = .ok (.getfield 17, 3) := by decide +kernel
theorem dX2_hasAheadOf_12 : decode cX2_hasAheadOf 12 = .ok (.if_icmp .ge 30, 3) := by decide +kernel
theorem dX2_hasAheadOf_15 : decode cX2_hasAheadOf 15 = .ok (.iload_n 3, 1) := by decide +kernel
theorem dX2_hasAheadOf_16 : decode cX2_hasAheadOf 16 = .ok (.aload_n 0, 1) := by decide +kernel
theorem dX2_hasAheadOf_17 : decode cX2_hasAheadOf 17 = .ok (.getfield 11, 3) := by decide +kernel
theorem dX2_hasAheadOf_20 : decode cX2_hasAheadOf 20 = .ok (.arraylength, 1) := by decide +kernel
theorem dX2_hasAheadOf_21 : decode cX2_hasAheadOf 21 = .ok (.if_icmp .ge 21, 3) := by decide +kernel
theorem dX2_hasAheadOf_24 : decode cX2_hasAheadOf 24 = .ok (.aload_n 0, 1) := by decide +kernel
theorem dX2_hasAheadOf_25 : decode cX2_hasAheadOf 25 = .ok (.getfield 11, 3) := by decide +kernel
theorem dX2_hasAheadOf_28 : decode cX2_hasAheadOf 28 = .ok (.iload_n 3, 1) := by decide +kernel
theorem dX2_hasAheadOf_29 : decode cX2_hasAheadOf 29 = .ok (.aaload, 1) := by decide +kernel
theorem dX2_hasAheadOf_30 : decode cX2_hasAheadOf 30 = .ok (.aload_n 2, 1) := by decide +kernel
theorem dX2_hasAheadOf_31 : decode cX2_hasAheadOf 31 = .ok (.if_acmp .ne 5, 3) := by decide +kernel
theorem dX2_hasAheadOf_34 : decode cX2_hasAheadOf 34 = .ok (.iconst 1, 1) := by decide +kernel
theorem dX2_hasAheadOf_35 : decode cX2_hasAheadOf 35 = .ok (.ireturn, 1) := by decide +kernel
theorem dX2_hasAheadOf_36 : decode cX2_hasAheadOf 36 = .ok (.iinc 3 1, 3) := by decide +kernel
theorem dX2_hasAheadOf_39 : decode cX2_hasAheadOf 39 = .ok (.goto (-37), 3) := by decide +kernel
theorem dX2_hasAheadOf_42 : decode cX2_hasAheadOf 42 = .ok (.iconst 0, 1) := by decide +kernel
theorem dX2_hasAheadOf_43 : decode cX2_hasAheadOf 43 = .ok (.ireturn, 1) := by decide +kernel
set_option maxRecDepth 20000 in
theorem ggX2_has_X2_hasAheadOf : GoodIn wsX2_has wsX2_hasAheadOf := goodIn_r _ [6, 1, 7, 8, 9] (by decide +kernel) (by decide +kernel)
set_option maxRecDepth 20000 in
theorem gX2_has_X2_hasAheadOf : GoodIn wsX2_has (wsV RX2 21 RX2 yX2_hasAheadOf wsX2_hasAheadOf) := goodIn_app (goodIn_of _ (by decide +kernel)) ggX2_has_X2_hasAheadOf
theorem dX2_has_0 : decode cX2_has 0 = .ok (.aload_n 0, 1) := by decide +kernel
theorem dX2_has_1 : decode cX2_has 1 = .ok (.aload_n 0, 1) := by decide +kernel
theorem dX2_has_2 : decode cX2_has 2 = .ok (.getfield 17, 3) := by decide +kernel
theorem dX2_has_5 : decode cX2_has 5 = .ok (.aload_n 1, 1) := by decide +kernel
theorem dX2_has_6 : decode cX2_has 6 = .ok (.invokevirtual 21, 3) := by decide +kernel
theorem dX2_has_9 : decode cX2_has 9 = .ok (.ireturn, 1) := by decide +kernel
set_option maxRecDepth 20000 in
theorem ggX2_hasRun_X2_chunkAt : GoodIn wsX2_hasRun wsX2_chunkAt := goodIn_r _ [6, 1, 7, 15, 16] (by decide +kernel) (by decide +kernel)
set_option maxRecDepth 20000 in
theorem gX2_hasRun_X2_chunkAt : GoodIn wsX2_hasRun (wsV RX2 25 RX2 yX2_chunkAt wsX2_chunkAt) := goodIn_app (goodIn_of _ (by decide +kernel)) ggX2_hasRun_X2_chunkAt
set_option maxRecDepth 20000 in
theorem ggX2_hasRun_X1_isRun : GoodIn wsX2_hasRun wsX1_isRun := goodIn_r _ [12, 13, 14, 17, 18, 19, 20, 21, 22] (by decide +kernel) (by decide +kernel)
set_option maxRecDepth 20000 in
theorem gX2_hasRun_X1_isRun : GoodIn wsX2_hasRun (wsV RX2 29 RX1 yX1_isRun wsX1_isRun) := goodIn_app (goodIn_of _ (by decide +kernel)) ggX2_hasRun_X1_isRun
theorem dX2_hasRun_0 : decode cX2_hasRun 0 = .ok (.iconst 0, 1) := by decide +kernel
theorem dX2_hasRun_1 : decode cX2_hasRun 1 = .ok (.istore 4, 2) := by decide +kernel
theorem dX2_hasRun_3 : decode cX2_hasRun 3 = .ok (.iload 4, 2) := by decide +kernel
theorem dX2_hasRun_5 : decode cX2_hasRun 5 = .ok (.aload_n 0, 1) := by decide +kernel
theorem dX2_hasRun_6 : decode cX2_hasRun 6 = .ok (.getfield 17, 3) := by decide +kernel
theorem dX2_hasRun_9 : decode cX2_hasRun 9 = .ok (.if_icmp .ge 35, 3) := by decide +kernel
theorem dX2_hasRun_12 : decode cX2_hasRun 12 = .ok (.aload_n 0, 1) := by decide +kernel
theorem dX2_hasRun_13 : decode cX2_hasRun 13 = .ok (.iload 4, 2) := by decide +kernel
theorem dX2_hasRun_15 : decode cX2_hasRun 15 = .ok (.invokevirtual 25, 3) := by decide +kernel
theorem dX2_hasRun_18 : decode cX2_hasRun 18 = .ok (.astore 5, 2) := by decide +kernel
theorem dX2_hasRun_20 : decode cX2_hasRun 20 = .ok (.aload 5, 2) := by decide +kernel
theorem dX2_hasRun_22 : decode cX2_hasRun 22 = .ok (.ifnull 16, 3) := by decide +kernel
theorem dX2_hasRun_25 : decode cX2_hasRun 25 = .ok (.aload 5, 2) := by decide +kernel
theorem dX2_hasRun_27 : decode cX2_hasRun 27 = .ok (.aload_n 1, 1) := by decide +kernel
theorem dX2_hasRun_28 : decode cX2_hasRun 28 = .ok (.iload_n 2, 1) := by decide +kernel
theorem dX2_hasRun_29 : decode cX2_hasRun 29 = .ok (.iload_n 3, 1) := by decide +kernel
theorem dX2_hasRun_30 : decode cX2_hasRun 30 = .ok (.invokevirtual 29, 3) := by decide +kernel
theorem dX2_hasRun_33 : decode cX2_hasRun 33 = .ok (.ifCond .eq 5, 3) := by decide +kernel
theorem dX2_hasRun_36 : decode cX2_hasRun 36 = .ok (.iconst 1, 1) := by decide +kernel
theorem dX2_hasRun_37 : decode cX2_hasRun 37 = .ok (.ireturn, 1) := by decide +kernel
theorem dX2_hasRun_38 : decode cX2_hasRun 38 = .ok (.iinc 4 1, 3) := by decide +kernel
theorem dX2_hasRun_41 : decode cX2_hasRun 41 = .ok (.goto (-38), 3) := by decide +kernel
theorem dX2_hasRun_44 : decode cX2_hasRun 44 = .ok (.iconst 0, 1) := by decide +kernel
theorem dX2_hasRun_45 : decode cX2_hasRun 45 = .ok (.ireturn, 1) := by decide +kernel
set_option maxRecDepth 20000 in
theorem ggX2_byteCount_X2_chunkAt : GoodIn wsX2_byteCount wsX2_chunkAt := goodIn_r _ [6, 1, 7, 14, 15] (by decide +kernel) (by decide +kernel)
set_option maxRecDepth 20000 in
theorem gX2_byteCount_X2_chunkAt : GoodIn wsX2_byteCount (wsV RX2 25 RX2 yX2_chunkAt wsX2_chunkAt) := goodIn_app (goodIn_of _ (by decide +kernel)) ggX2_byteCount_X2_chunkAt
set_option maxRecDepth 20000 in
theorem ggX2_byteCount_X1_size : GoodIn wsX2_byteCount wsX1_size := goodIn_r _ [12, 13, 16, 17] (by decide +kernel) (by decide +kernel)
set_option maxRecDepth 20000 in
theorem gX2_byteCount_X1_size : GoodIn wsX2_byteCount (wsV RX2 33 RX1 yX1_size wsX1_size) := goodIn_app (goodIn_of _ (by decide +kernel)) ggX2_byteCount_X1_size
theorem dX2_byteCount_0 : decode cX2_byteCount 0 = .ok (.iconst 0, 1) := by decide +kernel
theorem dX2_byteCount_1 : decode cX2_byteCount 1 = .ok (.istore_n 1, 1) := by decide +kernel
theorem dX2_byteCount_2 : decode cX2_byteCount 2 = .ok (.iconst 0, 1) := by decide +kernel
theorem dX2_byteCount_3 : decode cX2_byteCount 3 = .ok (.istore_n 2, 1) := by decide +kernel
theorem dX2_byteCount_4 : decode cX2_byteCount 4 = .ok (.iload_n 2, 1) := by decide +kernel
theorem dX2_byteCount_5 : decode cX2_byteCount 5 = .ok (.aload_n 0, 1) := by decide +kernel
theorem dX2_byteCount_6 : decode cX2_byteCount 6 = .ok (.getfield 17, 3) := by decide +kernel
theorem dX2_byteCount_9 : decode cX2_byteCount 9 = .ok (.if_icmp .ge 30, 3) := by decide +kernel
theorem dX2_byteCount_12 : decode cX2_byteCount 12 = .ok (.aload_n 0, 1) := by decide +kernel
theorem dX2_byteCount_13 : decode cX2_byteCount 13 = .ok (.iload_n 2, 1) := by decide +kernel
theorem dX2_byteCount_14 : decode cX2_byteCount 14 = .ok (.invokevirtual 25, 3) := by decide +kernel
theorem dX2_byteCount_17 : decode cX2_byteCount 17 = .ok (.astore_n 3, 1) := by decide +kernel
theorem dX2_byteCount_18 : decode cX2_byteCount 18 = .ok (.iload_n 1, 1) := by decide +kernel
theorem dX2_byteCount_19 : decode cX2_byteCount 19 = .ok (.aload_n 3, 1) := by decide +kernel
theorem dX2_byteCount_20 : decode cX2_byteCount 20 = .ok (.ifnonnull 7, 3) := by decide +kernel
theorem dX2_byteCount_23 : decode cX2_byteCount 23 = .ok (.iconst 0, 1) := by decide +kernel
theorem dX2_byteCount_24 : decode cX2_byteCount 24 = .ok (.goto 7, 3) := by decide +kernel
theorem dX2_byteCount_27 : decode cX2_byteCount 27 = .ok (.aload_n 3, 1) := by decide +kernel
theorem dX2_byteCount_28 : decode cX2_byteCount 28 = .ok (.invokevirtual 33, 3) := by decide +kernel
theorem dX2_byteCount_31 : decode cX2_byteCount 31 = .ok (.iadd, 1) := by decide +kernel
theorem dX2_byteCount_32 : decode cX2_byteCount 32 = .ok (.istore_n 1, 1) := by decide +kernel
theorem dX2_byteCount_33 : decode cX2_byteCount 33 = .ok (.iinc 2 1, 3) := by decide +kernel
theorem dX2_byteCount_36 : decode cX2_byteCount 36 = .ok (.goto (-32), 3) := by decide +kernel
theorem dX2_byteCount_39 : decode cX2_byteCount 39 = .ok (.iload_n 1, 1) := by decide +kernel
theorem dX2_byteCount_40 : decode cX2_byteCount 40 = .ok (.ireturn, 1) := by decide +kernel
set_option maxRecDepth 20000 in
theorem ggX2_unlikeByteCount_X2_chunkAt : GoodIn wsX2_unlikeByteCount wsX2_chunkAt := goodIn_r _ [6, 1, 7, 18, 19] (by decide +kernel) (by decide +kernel)
set_option maxRecDepth 20000 in
theorem gX2_unlikeByteCount_X2_chunkAt : GoodIn wsX2_unlikeByteCount (wsV RX2 25 RX2 yX2_chunkAt wsX2_chunkAt) := goodIn_app (goodIn_of _ (by decide +kernel)) ggX2_unlikeByteCount_X2_chunkAt
set_option maxRecDepth 20000 in
theorem ggX2_unlikeByteCount_X2_hasAheadOf : GoodIn wsX2_unlikeByteCount wsX2_hasAheadOf := goodIn_r _ [11, 1, 7, 18, 19] (by decide +kernel) (by decide +kernel)
set_option maxRecDepth 20000 in
theorem gX2_unlikeByteCount_X2_hasAheadOf : GoodIn wsX2_unlikeByteCount (wsV RX2 21 RX2 yX2_hasAheadOf wsX2_hasAheadOf) := goodIn_app (goodIn_of _ (by decide +kernel)) ggX2_unlikeByteCount_X2_hasAheadOf
set_option maxRecDepth 20000 in
theorem ggX2_unlikeByteCount_X1_size : GoodIn wsX2_unlikeByteCount wsX1_size := goodIn_r _ [16, 17, 20, 21] (by decide +kernel) (by decide +kernel)
set_option maxRecDepth 20000 in
theorem gX2_unlikeByteCount_X1_size : GoodIn wsX2_unlikeByteCount (wsV RX2 33 RX1 yX1_size wsX1_size) := goodIn_app (goodIn_of _ (by decide +kernel)) ggX2_unlikeByteCount_X1_size
theorem dX2_unlikeByteCount_0 : decode cX2_unlikeByteCount 0 = .ok (.iconst 0, 1) := by decide +kernel
theorem dX2_unlikeByteCount_1 : decode cX2_unlikeByteCount 1 = .ok (.istore_n 1, 1) := by decide +kernel
theorem dX2_unlikeByteCount_2 : decode cX2_unlikeByteCount 2 = .ok (.iconst 0, 1) := by decide +kernel
theorem dX2_unlikeByteCount_3 : decode cX2_unlikeByteCount 3 = .ok (.istore_n 2, 1) := by decide +kernel
theorem dX2_unlikeByteCount_4 : decode cX2_unlikeByteCount 4 = .ok (.iload_n 2, 1) := by decide +kernel
theorem dX2_unlikeByteCount_5 : decode cX2_unlikeByteCount 5 = .ok (.aload_n 0, 1) := by decide +kernel
theorem dX2_unlikeByteCount_6 : decode cX2_unlikeByteCount 6 = .ok (.getfield 17, 3) := by decide +kernel
theorem dX2_unlikeByteCount_9 : decode cX2_unlikeByteCount 9 = .ok (.if_icmp .ge 35, 3) := by decide +kernel
theorem dX2_unlikeByteCount_12 : decode cX2_unlikeByteCount 12 = .ok (.aload_n 0, 1) := by decide +kernel
theorem dX2_unlikeByteCount_13 : decode cX2_unlikeByteCount 13 = .ok (.iload_n 2, 1) := by decide +kernel
theorem dX2_unlikeByteCount_14 : decode cX2_unlikeByteCount 14 = .ok (.invokevirtual 25, 3) := by decide +kernel
theorem dX2_unlikeByteCount_17 : decode cX2_unlikeByteCount 17 = .ok (.astore_n 3, 1) := by decide +kernel
theorem dX2_unlikeByteCount_18 : decode cX2_unlikeByteCount 18 = .ok (.aload_n 3, 1) := by decide +kernel
theorem dX2_unlikeByteCount_19 : decode cX2_unlikeByteCount 19 = .ok (.ifnull 19, 3) := by decide +kernel
theorem dX2_unlikeByteCount_22 : decode cX2_unlikeByteCount 22 = .ok (.aload_n 0, 1) := by decide +kernel
theorem dX2_unlikeByteCount_23 : decode cX2_unlikeByteCount 23 = .ok (.iload_n 2, 1) := by decide +kernel
theorem dX2_unlikeByteCount_24 : decode cX2_unlikeByteCount 24 = .ok (.aload_n 3, 1) := by decide +kernel
theorem dX2_unlikeByteCount_25 : decode cX2_unlikeByteCount 25 = .ok (.invokevirtual 21, 3) := by decide +kernel
theorem dX2_unlikeByteCount_28 : decode cX2_unlikeByteCount 28 = .ok (.ifCond .ne 10, 3) := by decide +kernel
theorem dX2_unlikeByteCount_31 : decode cX2_unlikeByteCount 31 = .ok (.iload_n 1, 1) := by decide +kernel
theorem dX2_unlikeByteCount_32 : decode cX2_unlikeByteCount 32 = .ok (.aload_n 3, 1) := by decide +kernel
theorem dX2_unlikeByteCount_33 : decode cX2_unlikeByteCount 33 = .ok (.invokevirtual 33, 3) := by decide +kernel
theorem dX2_unlikeByteCount_36 : decode cX2_unlikeByteCount 36 = .ok (.iadd, 1) := by decide +kernel
theorem dX2_unlikeByteCount_37 : decode cX2_unlikeByteCount 37 = .ok (.istore_n 1, 1) := by decide +kernel
theorem dX2_unlikeByteCount_38 : decode cX2_unlikeByteCount 38 = .ok (.iinc 2 1, 3) := by decide +kernel
theorem dX2_unlikeByteCount_41 : decode cX2_unlikeByteCount 41 = .ok (.goto (-37), 3) := by decide +kernel
theorem dX2_unlikeByteCount_44 : decode cX2_unlikeByteCount 44 = .ok (.iload_n 1, 1) := by decide +kernel
theorem dX2_unlikeByteCount_45 : decode cX2_unlikeByteCount 45 = .ok (.ireturn, 1) := by decide +kernel
set_option maxRecDepth 20000 in
theorem ggX2_fingerprint_X2_chunkAt : GoodIn wsX2_fingerprint wsX2_chunkAt := goodIn_r _ [6, 1, 7, 17, 18] (by decide +kernel) (by decide +kernel)
set_option maxRecDepth 20000 in
theorem gX2_fingerprint_X2_chunkAt : GoodIn wsX2_fingerprint (wsV RX2 25 RX2 yX2_chunkAt wsX2_chunkAt) := goodIn_app (goodIn_of _ (by decide +kernel)) ggX2_fingerprint_X2_chunkAt
set_option maxRecDepth 20000 in
theorem ggX2_fingerprint_X1_foldedInto : GoodIn wsX2_fingerprint wsX1_foldedInto := goodIn_r _ [12, 13, 14, 15, 16, 19, 20] (by decide +kernel) (by decide +kernel)
set_option maxRecDepth 20000 in
theorem gX2_fingerprint_X1_foldedInto : GoodIn wsX2_fingerprint (wsV RX2 37 RX1 yX1_foldedInto wsX1_foldedInto) := goodIn_app (goodIn_of _ (by decide +kernel)) ggX2_fingerprint_X1_foldedInto
theorem dX2_fingerprint_0 : decode cX2_fingerprint 0 = .ok (.lconst 0, 1) := by decide +kernel
theorem dX2_fingerprint_1 : decode cX2_fingerprint 1 = .ok (.lstore_n 1, 1) := by decide +kernel
theorem dX2_fingerprint_2 : decode cX2_fingerprint 2 = .ok (.iconst 0, 1) := by decide +kernel
theorem dX2_fingerprint_3 : decode cX2_fingerprint 3 = .ok (.istore_n 3, 1) := by decide +kernel
theorem dX2_fingerprint_4 : decode cX2_fingerprint 4 = .ok (.iload_n 3, 1) := by decide +kernel
theorem dX2_fingerprint_5 : decode cX2_fingerprint 5 = .ok (.aload_n 0, 1) := by decide +kernel
theorem dX2_fingerprint_6 : decode cX2_fingerprint 6 = .ok (.getfield 17, 3) := by decide +kernel
theorem dX2_fingerprint_9 : decode cX2_fingerprint 9 = .ok (.if_icmp .ge 32, 3) := by decide +kernel
theorem dX2_fingerprint_12 : decode cX2_fingerprint 12 = .ok (.aload_n 0, 1) := by decide +kernel
theorem dX2_fingerprint_13 : decode cX2_fingerprint 13 = .ok (.iload_n 3, 1) := by decide +kernel
theorem dX2_fingerprint_14 : decode cX2_fingerprint 14 = .ok (.invokevirtual 25, 3) := by decide +kernel
theorem dX2_fingerprint_17 : decode cX2_fingerprint 17 = .ok (.astore 4, 2) := by decide +kernel
theorem dX2_fingerprint_19 : decode cX2_fingerprint 19 = .ok (.aload 4, 2) := by decide +kernel
theorem dX2_fingerprint_21 : decode cX2_fingerprint 21 = .ok (.ifnonnull 7, 3) := by decide +kernel
theorem dX2_fingerprint_24 : decode cX2_fingerprint 24 = .ok (.lload_n 1, 1) := by decide +kernel

