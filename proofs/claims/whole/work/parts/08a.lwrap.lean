set_option maxRecDepth 20000 in
theorem ggL_put_X9_put : GoodIn wsL_put wsX9_put := goodIn_ca (goodIn_ca (goodIn_ca (goodIn_r _ [8, 9, 10, 11, 12, 13, 14, 15, 16, 17, 7, 18, 19, 20, 21, 22, 23, 24, 25, 26, 27, 28, 29, 30, 31, 32, 33, 34, 35, 36, 37, 38, 39, 40, 41, 42, 43, 44, 45, 46, 47, 48, 49, 50, 51, 52, 53, 54, 55, 56, 57, 58] (by decide +kernel) (by decide +kernel)) (goodIn_sub (fun _ h => List.mem_cons_of_mem _ (List.mem_append_left _ (List.mem_append_left _ (List.mem_append_right _ h)))) (by decide +kernel))) (goodIn_sub (fun _ h => List.mem_cons_of_mem _ (List.mem_append_left _ (List.mem_append_right _ h))) (by decide +kernel))) (goodIn_sub (fun _ h => List.mem_cons_of_mem _ (List.mem_append_right _ h)) (by decide +kernel))
set_option maxRecDepth 20000 in
theorem gL_put_X9_put : GoodIn wsL_put (wsV RL 7 RX9 yX9_put wsX9_put) := goodIn_app (goodIn_of _ (by decide +kernel)) ggL_put_X9_put
theorem dL_put_0 : decode cL_put 0 = .ok (.aload 4, 2) := by decide +kernel
theorem dL_put_2 : decode cL_put 2 = .ok (.iconst 0, 1) := by decide +kernel
theorem dL_put_3 : decode cL_put 3 = .ok (.aload_n 0, 1) := by decide +kernel
theorem dL_put_4 : decode cL_put 4 = .ok (.iload_n 1, 1) := by decide +kernel
theorem dL_put_5 : decode cL_put 5 = .ok (.iload_n 2, 1) := by decide +kernel
theorem dL_put_6 : decode cL_put 6 = .ok (.iload_n 3, 1) := by decide +kernel
theorem dL_put_7 : decode cL_put 7 = .ok (.invokevirtual 7, 3) := by decide +kernel
theorem dL_put_10 : decode cL_put 10 = .ok (.i2l, 1) := by decide +kernel
theorem dL_put_11 : decode cL_put 11 = .ok (.lastore, 1) := by decide +kernel
theorem dL_put_12 : decode cL_put 12 = .ok (.goto 15, 3) := by decide +kernel
theorem dL_put_15 : decode cL_put 15 = .ok (.astore 5, 2) := by decide +kernel
theorem dL_put_17 : decode cL_put 17 = .ok (.iconst 1, 1) := by decide +kernel
theorem dL_put_18 : decode cL_put 18 = .ok (.ireturn, 1) := by decide +kernel
theorem dL_put_19 : decode cL_put 19 = .ok (.astore 5, 2) := by decide +kernel
theorem dL_put_21 : decode cL_put 21 = .ok (.iconst 2, 1) := by decide +kernel
theorem dL_put_22 : decode cL_put 22 = .ok (.ireturn, 1) := by decide +kernel
theorem dL_put_23 : decode cL_put 23 = .ok (.astore 5, 2) := by decide +kernel
theorem dL_put_25 : decode cL_put 25 = .ok (.iconst 3, 1) := by decide +kernel
theorem dL_put_26 : decode cL_put 26 = .ok (.ireturn, 1) := by decide +kernel
theorem dL_put_27 : decode cL_put 27 = .ok (.iconst 0, 1) := by decide +kernel
theorem dL_put_28 : decode cL_put 28 = .ok (.ireturn, 1) := by decide +kernel
set_option maxRecDepth 20000 in
theorem ggL_set_X9_set : GoodIn wsL_set wsX9_set := goodIn_ca (goodIn_ca (goodIn_r _ [7, 8, 9, 10, 11, 6, 12, 13, 14, 15, 16, 17, 18, 19, 20, 21, 22, 23, 24, 25, 26, 27, 28, 29, 30, 31, 32, 33, 34, 35, 36, 37, 38, 39, 40, 41, 42, 43, 44, 45, 46, 47, 48, 49, 50, 51, 52, 53, 54, 55, 56, 57] (by decide +kernel) (by decide +kernel)) (goodIn_sub (fun _ h => List.mem_cons_of_mem _ (List.mem_append_left _ (List.mem_append_right _ h))) (by decide +kernel))) (goodIn_sub (fun _ h => List.mem_cons_of_mem _ (List.mem_append_right _ h)) (by decide +kernel))
set_option maxRecDepth 20000 in
theorem gL_set_X9_set : GoodIn wsL_set (wsV RL 19 RX9 yX9_set wsX9_set) := goodIn_app (goodIn_of _ (by decide +kernel)) ggL_set_X9_set
theorem dL_set_0 : decode cL_set 0 = .ok (.aload 4, 2) := by decide +kernel
theorem dL_set_2 : decode cL_set 2 = .ok (.iconst 0, 1) := by decide +kernel
theorem dL_set_3 : decode cL_set 3 = .ok (.aload_n 0, 1) := by decide +kernel
theorem dL_set_4 : decode cL_set 4 = .ok (.iload_n 1, 1) := by decide +kernel
theorem dL_set_5 : decode cL_set 5 = .ok (.iload_n 2, 1) := by decide +kernel
theorem dL_set_6 : decode cL_set 6 = .ok (.iload_n 3, 1) := by decide +kernel
theorem dL_set_7 : decode cL_set 7 = .ok (.invokevirtual 19, 3) := by decide +kernel
theorem dL_set_10 : decode cL_set 10 = .ok (.i2l, 1) := by decide +kernel
theorem dL_set_11 : decode cL_set 11 = .ok (.lastore, 1) := by decide +kernel
theorem dL_set_12 : decode cL_set 12 = .ok (.goto 11, 3) := by decide +kernel
theorem dL_set_15 : decode cL_set 15 = .ok (.astore 5, 2) := by decide +kernel
theorem dL_set_17 : decode cL_set 17 = .ok (.iconst 1, 1) := by decide +kernel
theorem dL_set_18 : decode cL_set 18 = .ok (.ireturn, 1) := by decide +kernel
theorem dL_set_19 : decode cL_set 19 = .ok (.astore 5, 2) := by decide +kernel
theorem dL_set_21 : decode cL_set 21 = .ok (.iconst 2, 1) := by decide +kernel
theorem dL_set_22 : decode cL_set 22 = .ok (.ireturn, 1) := by decide +kernel
theorem dL_set_23 : decode cL_set 23 = .ok (.iconst 0, 1) := by decide +kernel
theorem dL_set_24 : decode cL_set 24 = .ok (.ireturn, 1) := by decide +kernel
set_option maxRecDepth 20000 in
theorem ggL_cut_X9_cut : GoodIn wsL_cut wsX9_cut := goodIn_ca (goodIn_ca (goodIn_r _ [7, 8, 9, 10, 11, 12, 6, 13, 14, 15, 16, 17, 18, 19, 20, 21, 22, 23, 24, 25, 26, 27, 28, 29, 30, 31, 32, 33, 34, 35, 36, 37, 38, 39, 40, 41, 42, 43, 44, 45, 46, 47, 48, 49, 50, 51, 52, 53, 54, 55, 56, 57, 58, 59, 60] (by decide +kernel) (by decide +kernel)) (goodIn_sub (fun _ h => List.mem_cons_of_mem _ (List.mem_append_left _ (List.mem_append_right _ h))) (by decide +kernel))) (goodIn_sub (fun _ h => List.mem_cons_of_mem _ (List.mem_append_right _ h)) (by decide +kernel))
set_option maxRecDepth 20000 in
theorem gL_cut_X9_cut : GoodIn wsL_cut (wsV RL 22 RX9 yX9_cut wsX9_cut) := goodIn_app (goodIn_of _ (by decide +kernel)) ggL_cut_X9_cut
theorem dL_cut_0 : decode cL_cut 0 = .ok (.aload 4, 2) := by decide +kernel
theorem dL_cut_2 : decode cL_cut 2 = .ok (.iconst 0, 1) := by decide +kernel
theorem dL_cut_3 : decode cL_cut 3 = .ok (.aload_n 0, 1) := by decide +kernel
theorem dL_cut_4 : decode cL_cut 4 = .ok (.iload_n 1, 1) := by decide +kernel
theorem dL_cut_5 : decode cL_cut 5 = .ok (.iload_n 2, 1) := by decide +kernel
theorem dL_cut_6 : decode cL_cut 6 = .ok (.iload_n 3, 1) := by decide +kernel
theorem dL_cut_7 : decode cL_cut 7 = .ok (.invokevirtual 22, 3) := by decide +kernel
theorem dL_cut_10 : decode cL_cut 10 = .ok (.i2l, 1) := by decide +kernel
theorem dL_cut_11 : decode cL_cut 11 = .ok (.lastore, 1) := by decide +kernel
theorem dL_cut_12 : decode cL_cut 12 = .ok (.goto 11, 3) := by decide +kernel
theorem dL_cut_15 : decode cL_cut 15 = .ok (.astore 5, 2) := by decide +kernel
theorem dL_cut_17 : decode cL_cut 17 = .ok (.iconst 1, 1) := by decide +kernel
theorem dL_cut_18 : decode cL_cut 18 = .ok (.ireturn, 1) := by decide +kernel
theorem dL_cut_19 : decode cL_cut 19 = .ok (.astore 5, 2) := by decide +kernel
theorem dL_cut_21 : decode cL_cut 21 = .ok (.iconst 2, 1) := by decide +kernel
theorem dL_cut_22 : decode cL_cut 22 = .ok (.ireturn, 1) := by decide +kernel
theorem dL_cut_23 : decode cL_cut 23 = .ok (.iconst 0, 1) := by decide +kernel
theorem dL_cut_24 : decode cL_cut 24 = .ok (.ireturn, 1) := by decide +kernel
set_option maxRecDepth 20000 in
theorem ggL_copy_X9_copy : GoodIn wsL_copy wsX9_copy := goodIn_ca (goodIn_ca (goodIn_ca (goodIn_r _ [8, 9, 10, 11, 12, 13, 14, 15, 7, 16, 17, 18, 19, 20, 21, 22, 23, 24, 25, 26, 27, 28, 29, 30, 31, 32, 33, 34, 35, 36, 37, 38, 39, 40, 41, 42, 43, 44, 45, 46, 47, 48, 49, 50, 51, 52, 53, 54, 55, 56, 57, 58, 59, 60, 61, 62, 63, 64, 65, 66] (by decide +kernel) (by decide +kernel)) (goodIn_sub (fun _ h => List.mem_cons_of_mem _ (List.mem_append_left _ (List.mem_append_left _ (List.mem_append_right _ h)))) (by decide +kernel))) (goodIn_sub (fun _ h => List.mem_cons_of_mem _ (List.mem_append_left _ (List.mem_append_right _ h))) (by decide +kernel))) (goodIn_sub (fun _ h => List.mem_cons_of_mem _ (List.mem_append_right _ h)) (by decide +kernel))
set_option maxRecDepth 20000 in
theorem gL_copy_X9_copy : GoodIn wsL_copy (wsV RL 25 RX9 yX9_copy wsX9_copy) := goodIn_app (goodIn_of _ (by decide +kernel)) ggL_copy_X9_copy
theorem dL_copy_0 : decode cL_copy 0 = .ok (.aload 5, 2) := by decide +kernel
theorem dL_copy_2 : decode cL_copy 2 = .ok (.iconst 0, 1) := by decide +kernel
theorem dL_copy_3 : decode cL_copy 3 = .ok (.aload_n 0, 1) := by decide +kernel
theorem dL_copy_4 : decode cL_copy 4 = .ok (.iload_n 1, 1) := by decide +kernel
theorem dL_copy_5 : decode cL_copy 5 = .ok (.iload_n 2, 1) := by decide +kernel
theorem dL_copy_6 : decode cL_copy 6 = .ok (.iload_n 3, 1) := by decide +kernel
theorem dL_copy_7 : decode cL_copy 7 = .ok (.iload 4, 2) := by decide +kernel
theorem dL_copy_9 : decode cL_copy 9 = .ok (.invokevirtual 25, 3) := by decide +kernel
theorem dL_copy_12 : decode cL_copy 12 = .ok (.i2l, 1) := by decide +kernel
theorem dL_copy_13 : decode cL_copy 13 = .ok (.lastore, 1) := by decide +kernel
theorem dL_copy_14 : decode cL_copy 14 = .ok (.goto 15, 3) := by decide +kernel
theorem dL_copy_17 : decode cL_copy 17 = .ok (.astore 6, 2) := by decide +kernel
theorem dL_copy_19 : decode cL_copy 19 = .ok (.iconst 1, 1) := by decide +kernel
theorem dL_copy_20 : decode cL_copy 20 = .ok (.ireturn, 1) := by decide +kernel
theorem dL_copy_21 : decode cL_copy 21 = .ok (.astore 6, 2) := by decide +kernel
theorem dL_copy_23 : decode cL_copy 23 = .ok (.iconst 2, 1) := by decide +kernel
theorem dL_copy_24 : decode cL_copy 24 = .ok (.ireturn, 1) := by decide +kernel
theorem dL_copy_25 : decode cL_copy 25 = .ok (.astore 6, 2) := by decide +kernel
theorem dL_copy_27 : decode cL_copy 27 = .ok (.iconst 3, 1) := by decide +kernel
theorem dL_copy_28 : decode cL_copy 28 = .ok (.ireturn, 1) := by decide +kernel
theorem dL_copy_29 : decode cL_copy 29 = .ok (.iconst 0, 1) := by decide +kernel
theorem dL_copy_30 : decode cL_copy 30 = .ok (.ireturn, 1) := by decide +kernel
set_option maxRecDepth 20000 in
theorem ggL_length_X9_length : GoodIn wsL_length wsX9_length := goodIn_ca (goodIn_r _ [6, 7, 8, 9, 10, 11, 5, 12, 13, 14, 15, 16, 17, 18, 19, 20, 21, 22, 23, 24, 25, 26, 27, 28, 29, 30, 31, 32, 33, 34, 35, 36, 37, 38] (by decide +kernel) (by decide +kernel)) (goodIn_sub (fun _ h => List.mem_cons_of_mem _ (List.mem_append_right _ h)) (by decide +kernel))
set_option maxRecDepth 20000 in
theorem gL_length_X9_length : GoodIn wsL_length (wsV RL 29 RX9 yX9_length wsX9_length) := goodIn_app (goodIn_of _ (by decide +kernel)) ggL_length_X9_length
theorem dL_length_0 : decode cL_length 0 = .ok (.aload_n 2, 1) := by decide +kernel
theorem dL_length_1 : decode cL_length 1 = .ok (.iconst 0, 1) := by decide +kernel
theorem dL_length_2 : decode cL_length 2 = .ok (.aload_n 0, 1) := by decide +kernel
theorem dL_length_3 : decode cL_length 3 = .ok (.iload_n 1, 1) := by decide +kernel
theorem dL_length_4 : decode cL_length 4 = .ok (.invokevirtual 29, 3) := by decide +kernel
theorem dL_length_7 : decode cL_length 7 = .ok (.i2l, 1) := by decide +kernel
theorem dL_length_8 : decode cL_length 8 = .ok (.lastore, 1) := by decide +kernel
theorem dL_length_9 : decode cL_length 9 = .ok (.goto 6, 3) := by decide +kernel
theorem dL_length_12 : decode cL_length 12 = .ok (.astore_n 3, 1) := by decide +kernel
theorem dL_length_13 : decode cL_length 13 = .ok (.iconst 1, 1) := by decide +kernel
theorem dL_length_14 : decode cL_length 14 = .ok (.ireturn, 1) := by decide +kernel
theorem dL_length_15 : decode cL_length 15 = .ok (.iconst 0, 1) := by decide +kernel
theorem dL_length_16 : decode cL_length 16 = .ok (.ireturn, 1) := by decide +kernel
set_option maxRecDepth 20000 in
theorem ggL_at_X9_at : GoodIn wsL_at wsX9_at := goodIn_ca (goodIn_ca (goodIn_r _ [7, 8, 9, 10, 11, 6, 12, 13, 14, 15, 16, 17, 18, 19, 20, 21, 22, 23, 24, 25, 26, 27, 28, 29, 30, 31, 32, 33, 34, 35, 36, 37, 38, 39, 40, 41, 42, 43, 44, 45, 46, 47, 48, 49, 50] (by decide +kernel) (by decide +kernel)) (goodIn_sub (fun _ h => List.mem_cons_of_mem _ (List.mem_append_left _ (List.mem_append_right _ h))) (by decide +kernel))) (goodIn_sub (fun _ h => List.mem_cons_of_mem _ (List.mem_append_right _ h)) (by decide +kernel))
set_option maxRecDepth 20000 in
theorem gL_at_X9_at : GoodIn wsL_at (wsV RL 33 RX9 yX9_at wsX9_at) := goodIn_app (goodIn_of _ (by decide +kernel)) ggL_at_X9_at
theorem dL_at_0 : decode cL_at 0 = .ok (.aload_n 3, 1) := by decide +kernel
theorem dL_at_1 : decode cL_at 1 = .ok (.iconst 0, 1) := by decide +kernel
theorem dL_at_2 : decode cL_at 2 = .ok (.aload_n 0, 1) := by decide +kernel
theorem dL_at_3 : decode cL_at 3 = .ok (.iload_n 1, 1) := by decide +kernel
theorem dL_at_4 : decode cL_at 4 = .ok (.iload_n 2, 1) := by decide +kernel
theorem dL_at_5 : decode cL_at 5 = .ok (.invokevirtual 33, 3) := by decide +kernel
theorem dL_at_8 : decode cL_at 8 = .ok (.i2l, 1) := by decide +kernel
theorem dL_at_9 : decode cL_at 9 = .ok (.lastore, 1) := by decide +kernel
theorem dL_at_10 : decode cL_at 10 = .ok (.goto 11, 3) := by decide +kernel
theorem dL_at_13 : decode cL_at 13 = .ok (.astore 4, 2) := by decide +kernel
theorem dL_at_15 : decode cL_at 15 = .ok (.iconst 1, 1) := by decide +kernel
theorem dL_at_16 : decode cL_at 16 = .ok (.ireturn, 1) := by decide +kernel
theorem dL_at_17 : decode cL_at 17 = .ok (.astore 4, 2) := by decide +kernel
theorem dL_at_19 : decode cL_at 19 = .ok (.iconst 2, 1) := by decide +kernel
theorem dL_at_20 : decode cL_at 20 = .ok (.ireturn, 1) := by decide +kernel
theorem dL_at_21 : decode cL_at 21 = .ok (.iconst 0, 1) := by decide +kernel
theorem dL_at_22 : decode cL_at 22 = .ok (.ireturn, 1) := by decide +kernel
set_option maxRecDepth 20000 in
theorem ggL_digest_X9_digest : GoodIn wsL_digest wsX9_digest := goodIn_ca (goodIn_r _ [6, 7, 8, 9, 10, 5, 11, 12, 13, 14, 15, 16, 17, 18, 19, 20, 21, 22, 23, 24, 25, 26, 27, 28, 29, 30, 31, 32, 33, 34, 35, 36, 37, 38, 39, 40, 41, 42, 43, 44, 45, 46, 47, 48, 49, 50] (by decide +kernel) (by decide +kernel)) (goodIn_sub (fun _ h => List.mem_cons_of_mem _ (List.mem_append_right _ h)) (by decide +kernel))
set_option maxRecDepth 20000 in
theorem gL_digest_X9_digest : GoodIn wsL_digest (wsV RL 37 RX9 yX9_digest wsX9_digest) := goodIn_app (goodIn_of _ (by decide +kernel)) ggL_digest_X9_digest
theorem dL_digest_0 : decode cL_digest 0 = .ok (.aload_n 2, 1) := by decide +kernel
theorem dL_digest_1 : decode cL_digest 1 = .ok (.iconst 0, 1) := by decide +kernel
theorem dL_digest_2 : decode cL_digest 2 = .ok (.aload_n 0, 1) := by decide +kernel
theorem dL_digest_3 : decode cL_digest 3 = .ok (.iload_n 1, 1) := by decide +kernel
theorem dL_digest_4 : decode cL_digest 4 = .ok (.invokevirtual 37, 3) := by decide +kernel
theorem dL_digest_7 : decode cL_digest 7 = .ok (.lastore, 1) := by decide +kernel
theorem dL_digest_8 : decode cL_digest 8 = .ok (.goto 6, 3) := by decide +kernel
theorem dL_digest_11 : decode cL_digest 11 = .ok (.astore_n 3, 1) := by decide +kernel
theorem dL_digest_12 : decode cL_digest 12 = .ok (.iconst 1, 1) := by decide +kernel
theorem dL_digest_13 : decode cL_digest 13 = .ok (.ireturn, 1) := by decide +kernel
theorem dL_digest_14 : decode cL_digest 14 = .ok (.iconst 0, 1) := by decide +kernel
theorem dL_digest_15 : decode cL_digest 15 = .ok (.ireturn, 1) := by decide +kernel
set_option maxRecDepth 20000 in
theorem ggL_setMarks_X9_setMarks : GoodIn wsL_setMarks wsX9_setMarks := goodIn_ca (goodIn_r _ [6, 7, 8, 9, 10, 11, 12, 5, 13, 14, 15, 16, 17, 18, 19, 20, 21, 22, 23, 24] (by decide +kernel) (by decide +kernel)) (goodIn_sub (fun _ h => List.mem_cons_of_mem _ (List.mem_append_right _ h)) (by decide +kernel))
set_option maxRecDepth 20000 in
theorem gL_setMarks_X9_setMarks : GoodIn wsL_setMarks (wsV RL 41 RX9 yX9_setMarks wsX9_setMarks) := goodIn_app (goodIn_of _ (by decide +kernel)) ggL_setMarks_X9_setMarks
theorem dL_setMarks_0 : decode cL_setMarks 0 = .ok (.aload_n 0, 1) := by decide +kernel
theorem dL_setMarks_1 : decode cL_setMarks 1 = .ok (.iload_n 1, 1) := by decide +kernel
theorem dL_setMarks_2 : decode cL_setMarks 2 = .ok (.iload_n 2, 1) := by decide +kernel
theorem dL_setMarks_3 : decode cL_setMarks 3 = .ok (.iload_n 3, 1) := by decide +kernel
theorem dL_setMarks_4 : decode cL_setMarks 4 = .ok (.invokevirtual 41, 3) := by decide +kernel
theorem dL_setMarks_7 : decode cL_setMarks 7 = .ok (.goto 7, 3) := by decide +kernel
theorem dL_setMarks_10 : decode cL_setMarks 10 = .ok (.astore 4, 2) := by decide +kernel
theorem dL_setMarks_12 : decode cL_setMarks 12 = .ok (.iconst 1, 1) := by decide +kernel
theorem dL_setMarks_13 : decode cL_setMarks 13 = .ok (.ireturn, 1) := by decide +kernel
theorem dL_setMarks_14 : decode cL_setMarks 14 = .ok (.iconst 0, 1) := by decide +kernel
theorem dL_setMarks_15 : decode cL_setMarks 15 = .ok (.ireturn, 1) := by decide +kernel
set_option maxRecDepth 20000 in
theorem ggL_mark_X9_mark : GoodIn wsL_mark wsX9_mark := goodIn_ca (goodIn_ca (goodIn_r _ [7, 8, 9, 10, 11, 12, 6, 13, 14, 15, 16, 17, 18, 19, 20, 21, 22, 23, 24, 25, 26, 27, 28, 29, 30, 31, 32, 33, 34, 35, 36, 37, 38, 39, 40, 41, 42, 43, 44, 45, 46, 47, 48, 49, 50, 51, 52, 53, 54, 55, 56, 57, 58] (by decide +kernel) (by decide +kernel)) (goodIn_sub (fun _ h => List.mem_cons_of_mem _ (List.mem_append_left _ (List.mem_append_right _ h))) (by decide +kernel))) (goodIn_sub (fun _ h => List.mem_cons_of_mem _ (List.mem_append_right _ h)) (by decide +kernel))
set_option maxRecDepth 20000 in
theorem gL_mark_X9_mark : GoodIn wsL_mark (wsV RL 45 RX9 yX9_mark wsX9_mark) := goodIn_app (goodIn_of _ (by decide +kernel)) ggL_mark_X9_mark
theorem dL_mark_0 : decode cL_mark 0 = .ok (.aload_n 3, 1) := by decide +kernel
theorem dL_mark_1 : decode cL_mark 1 = .ok (.iconst 0, 1) := by decide +kernel
theorem dL_mark_2 : decode cL_mark 2 = .ok (.aload_n 0, 1) := by decide +kernel
theorem dL_mark_3 : decode cL_mark 3 = .ok (.iload_n 1, 1) := by decide +kernel
theorem dL_mark_4 : decode cL_mark 4 = .ok (.iload_n 2, 1) := by decide +kernel
theorem dL_mark_5 : decode cL_mark 5 = .ok (.invokevirtual 45, 3) := by decide +kernel
theorem dL_mark_8 : decode cL_mark 8 = .ok (.i2l, 1) := by decide +kernel
theorem dL_mark_9 : decode cL_mark 9 = .ok (.lastore, 1) := by decide +kernel
theorem dL_mark_10 : decode cL_mark 10 = .ok (.goto 11, 3) := by decide +kernel
theorem dL_mark_13 : decode cL_mark 13 = .ok (.astore 4, 2) := by decide +kernel
theorem dL_mark_15 : decode cL_mark 15 = .ok (.iconst 1, 1) := by decide +kernel
theorem dL_mark_16 : decode cL_mark 16 = .ok (.ireturn, 1) := by decide +kernel
theorem dL_mark_17 : decode cL_mark 17 = .ok (.astore 4, 2) := by decide +kernel
theorem dL_mark_19 : decode cL_mark 19 = .ok (.iconst 2, 1) := by decide +kernel
theorem dL_mark_20 : decode cL_mark 20 = .ok (.ireturn, 1) := by decide +kernel
theorem dL_mark_21 : decode cL_mark 21 = .ok (.iconst 0, 1) := by decide +kernel
theorem dL_mark_22 : decode cL_mark 22 = .ok (.ireturn, 1) := by decide +kernel
set_option maxRecDepth 20000 in
theorem ggL_chunks_X9_chunks : GoodIn wsL_chunks wsX9_chunks := goodIn_ca (goodIn_r _ [6, 7, 8, 9, 10, 5, 11, 12, 13, 14, 15, 16, 17, 18, 19, 20, 21, 22, 23, 24, 25, 26, 27, 28, 29, 30, 31, 32, 33, 34, 35, 36, 37, 38, 39, 40, 41, 42, 43, 44, 45, 46, 47, 48, 49, 50, 51, 52, 53, 54, 55, 56, 57, 58, 59, 60, 61, 62, 63, 64, 65, 66, 67, 68, 69, 70, 71, 72, 73, 74, 75, 76, 77, 78] (by decide +kernel) (by decide +kernel)) (goodIn_sub (fun _ h => List.mem_cons_of_mem _ (List.mem_append_right _ h)) (by decide +kernel))
set_option maxRecDepth 20000 in
theorem gL_chunks_X9_chunks : GoodIn wsL_chunks (wsV RL 48 RX9 yX9_chunks wsX9_chunks) := goodIn_app (goodIn_of _ (by decide +kernel)) ggL_chunks_X9_chunks
theorem dL_chunks_0 : decode cL_chunks 0 = .ok (.aload_n 2, 1) := by decide +kernel
theorem dL_chunks_1 : decode cL_chunks 1 = .ok (.iconst 0, 1) := by decide +kernel
theorem dL_chunks_2 : decode cL_chunks 2 = .ok (.aload_n 0, 1) := by decide +kernel
theorem dL_chunks_3 : decode cL_chunks 3 = .ok (.iload_n 1, 1) := by decide +kernel
theorem dL_chunks_4 : decode cL_chunks 4 = .ok (.invokevirtual 48, 3) := by decide +kernel
theorem dL_chunks_7 : decode cL_chunks 7 = .ok (.i2l, 1) := by decide +kernel
theorem dL_chunks_8 : decode cL_chunks 8 = .ok (.lastore, 1) := by decide +kernel
theorem dL_chunks_9 : decode cL_chunks 9 = .ok (.goto 6, 3) := by decide +kernel
theorem dL_chunks_12 : decode cL_chunks 12 = .ok (.astore_n 3, 1) := by decide +kernel
theorem dL_chunks_13 : decode cL_chunks 13 = .ok (.iconst 1, 1) := by decide +kernel
theorem dL_chunks_14 : decode cL_chunks 14 = .ok (.ireturn, 1) := by decide +kernel
theorem dL_chunks_15 : decode cL_chunks 15 = .ok (.iconst 0, 1) := by decide +kernel
theorem dL_chunks_16 : decode cL_chunks 16 = .ok (.ireturn, 1) := by decide +kernel
set_option maxRecDepth 20000 in
theorem ggL_end_X9_end : GoodIn wsL_end wsX9_end := goodIn_ca (goodIn_ca (goodIn_r _ [7, 8, 9, 10, 11, 12, 13, 6, 14, 15, 16, 17, 18, 19, 20, 21, 22, 23, 24, 25, 26, 27, 28, 29, 30, 31, 32, 33, 34, 35, 36, 37, 38, 39, 40, 41, 42, 43, 44, 45, 46, 47, 48, 49, 50, 51, 52, 53, 54, 55, 56, 57, 58, 59, 60, 61, 62, 63, 64, 65, 66, 67, 68, 69, 70, 71, 72, 73, 74, 75, 76, 77, 78, 79, 80, 81, 82, 83, 84, 85] (by decide +kernel) (by decide +kernel)) (goodIn_sub (fun _ h => List.mem_cons_of_mem _ (List.mem_append_left _ (List.mem_append_right _ h))) (by decide +kernel))) (goodIn_sub (fun _ h => List.mem_cons_of_mem _ (List.mem_append_right _ h)) (by decide +kernel))
set_option maxRecDepth 20000 in
theorem gL_end_X9_end : GoodIn wsL_end (wsV RL 51 RX9 yX9_end wsX9_end) := goodIn_app (goodIn_of _ (by decide +kernel)) ggL_end_X9_end
theorem dL_end_0 : decode cL_end 0 = .ok (.aload_n 3, 1) := by decide +kernel
theorem dL_end_1 : decode cL_end 1 = .ok (.iconst 0, 1) := by decide +kernel
theorem dL_end_2 : decode cL_end 2 = .ok (.aload_n 0, 1) := by decide +kernel
theorem dL_end_3 : decode cL_end 3 = .ok (.iload_n 1, 1) := by decide +kernel
theorem dL_end_4 : decode cL_end 4 = .ok (.iload_n 2, 1) := by decide +kernel
theorem dL_end_5 : decode cL_end 5 = .ok (.invokevirtual 51, 3) := by decide +kernel
theorem dL_end_8 : decode cL_end 8 = .ok (.i2l, 1) := by decide +kernel
theorem dL_end_9 : decode cL_end 9 = .ok (.lastore, 1) := by decide +kernel
theorem dL_end_10 : decode cL_end 10 = .ok (.goto 11, 3) := by decide +kernel
theorem dL_end_13 : decode cL_end 13 = .ok (.astore 4, 2) := by decide +kernel
theorem dL_end_15 : decode cL_end 15 = .ok (.iconst 1, 1) := by decide +kernel
theorem dL_end_16 : decode cL_end 16 = .ok (.ireturn, 1) := by decide +kernel
theorem dL_end_17 : decode cL_end 17 = .ok (.astore 4, 2) := by decide +kernel
theorem dL_end_19 : decode cL_end 19 = .ok (.iconst 2, 1) := by decide +kernel
theorem dL_end_20 : decode cL_end 20 = .ok (.ireturn, 1) := by decide +kernel
theorem dL_end_21 : decode cL_end 21 = .ok (.iconst 0, 1) := by decide +kernel
theorem dL_end_22 : decode cL_end 22 = .ok (.ireturn, 1) := by decide +kernel
set_option maxRecDepth 20000 in
theorem ggL_setNight_X9_setNight : GoodIn wsL_setNight wsX9_setNight := goodIn_ca (goodIn_r _ [6, 7, 8, 9, 10, 11, 5, 12, 13, 14, 15, 16, 17, 18, 19, 20, 21, 22, 23] (by decide +kernel) (by decide +kernel)) (goodIn_sub (fun _ h => List.mem_cons_of_mem _ (List.mem_append_right _ h)) (by decide +kernel))
set_option maxRecDepth 20000 in
theorem gL_setNight_X9_setNight : GoodIn wsL_setNight (wsV RL 54 RX9 yX9_setNight wsX9_setNight) := goodIn_app (goodIn_of _ (by decide +kernel)) ggL_setNight_X9_setNight
theorem dL_setNight_0 : decode cL_setNight 0 = .ok (.aload_n 0, 1) := by decide +kernel
theorem dL_setNight_1 : decode cL_setNight 1 = .ok (.iload_n 1, 1) := by decide +kernel
theorem dL_setNight_2 : decode cL_setNight 2 = .ok (.iload_n 2, 1) := by decide +kernel
theorem dL_setNight_3 : decode cL_setNight 3 = .ok (.invokevirtual 54, 3) := by decide +kernel
theorem dL_setNight_6 : decode cL_setNight 6 = .ok (.goto 6, 3) := by decide +kernel
theorem dL_setNight_9 : decode cL_setNight 9 = .ok (.astore_n 3, 1) := by decide +kernel
theorem dL_setNight_10 : decode cL_setNight 10 = .ok (.iconst 1, 1) := by decide +kernel
theorem dL_setNight_11 : decode cL_setNight 11 = .ok (.ireturn, 1) := by decide +kernel
theorem dL_setNight_12 : decode cL_setNight 12 = .ok (.iconst 0, 1) := by decide +kernel
theorem dL_setNight_13 : decode cL_setNight 13 = .ok (.ireturn, 1) := by decide +kernel
set_option maxRecDepth 20000 in
theorem ggL_bid_X9_bid : GoodIn wsL_bid wsX9_bid := goodIn_ca (goodIn_r _ [6, 7, 8, 9, 10, 5, 11, 12, 13, 14, 15, 16, 17, 18, 19, 20, 21, 22, 23, 24, 25, 26, 27, 28, 29, 30, 31, 32, 33, 34, 35, 36] (by decide +kernel) (by decide +kernel)) (goodIn_sub (fun _ h => List.mem_cons_of_mem _ (List.mem_append_right _ h)) (by decide +kernel))
set_option maxRecDepth 20000 in
theorem gL_bid_X9_bid : GoodIn wsL_bid (wsV RL 58 RX9 yX9_bid wsX9_bid) := goodIn_app (goodIn_of _ (by decide +kernel)) ggL_bid_X9_bid
theorem dL_bid_0 : decode cL_bid 0 = .ok (.aload_n 3, 1) := by decide +kernel
theorem dL_bid_1 : decode cL_bid 1 = .ok (.iconst 0, 1) := by decide +kernel
theorem dL_bid_2 : decode cL_bid 2 = .ok (.aload_n 0, 1) := by decide +kernel
theorem dL_bid_3 : decode cL_bid 3 = .ok (.iload_n 1, 1) := by decide +kernel
theorem dL_bid_4 : decode cL_bid 4 = .ok (.iload_n 2, 1) := by decide +kernel
theorem dL_bid_5 : decode cL_bid 5 = .ok (.invokevirtual 58, 3) := by decide +kernel
theorem dL_bid_8 : decode cL_bid 8 = .ok (.i2l, 1) := by decide +kernel
theorem dL_bid_9 : decode cL_bid 9 = .ok (.lastore, 1) := by decide +kernel
theorem dL_bid_10 : decode cL_bid 10 = .ok (.goto 7, 3) := by decide +kernel
theorem dL_bid_13 : decode cL_bid 13 = .ok (.astore 4, 2) := by decide +kernel
theorem dL_bid_15 : decode cL_bid 15 = .ok (.iconst 1, 1) := by decide +kernel
theorem dL_bid_16 : decode cL_bid 16 = .ok (.ireturn, 1) := by decide +kernel
theorem dL_bid_17 : decode cL_bid 17 = .ok (.iconst 0, 1) := by decide +kernel
theorem dL_bid_18 : decode cL_bid 18 = .ok (.ireturn, 1) := by decide +kernel
set_option maxRecDepth 20000 in
theorem ggL_setChain_X9_setChain : GoodIn wsL_setChain wsX9_setChain := goodIn_ca (goodIn_r _ [6, 7, 8, 9, 10, 11, 5, 12, 13, 14, 15, 16, 17, 18, 19, 20, 21, 22, 23, 24, 25, 26, 27, 28, 29, 30, 31, 32, 33, 34, 35, 36, 37] (by decide +kernel) (by decide +kernel)) (goodIn_sub (fun _ h => List.mem_cons_of_mem _ (List.mem_append_right _ h)) (by decide +kernel))
set_option maxRecDepth 20000 in
theorem gL_setChain_X9_setChain : GoodIn wsL_setChain (wsV RL 61 RX9 yX9_setChain wsX9_setChain) := goodIn_app (goodIn_of _ (by decide +kernel)) ggL_setChain_X9_setChain
theorem dL_setChain_0 : decode cL_setChain 0 = .ok (.aload_n 0, 1) := by decide +kernel
theorem dL_setChain_1 : decode cL_setChain 1 = .ok (.iload_n 1, 1) := by decide +kernel
theorem dL_setChain_2 : decode cL_setChain 2 = .ok (.iload_n 2, 1) := by decide +kernel
theorem dL_setChain_3 : decode cL_setChain 3 = .ok (.iload_n 3, 1) := by decide +kernel
theorem dL_setChain_4 : decode cL_setChain 4 = .ok (.invokevirtual 61, 3) := by decide +kernel
theorem dL_setChain_7 : decode cL_setChain 7 = .ok (.goto 7, 3) := by decide +kernel
theorem dL_setChain_10 : decode cL_setChain 10 = .ok (.astore 4, 2) := by decide +kernel
theorem dL_setChain_12 : decode cL_setChain 12 = .ok (.iconst 1, 1) := by decide +kernel
theorem dL_setChain_13 : decode cL_setChain 13 = .ok (.ireturn, 1) := by decide +kernel
theorem dL_setChain_14 : decode cL_setChain 14 = .ok (.iconst 0, 1) := by decide +kernel
theorem dL_setChain_15 : decode cL_setChain 15 = .ok (.ireturn, 1) := by decide +kernel
set_option maxRecDepth 20000 in
theorem ggL_forBase_X9_forBase : GoodIn wsL_forBase wsX9_forBase := goodIn_ca (goodIn_r _ [6, 7, 8, 9, 5, 10, 11, 12, 13, 14, 15, 16, 17, 18, 19, 20, 21, 22, 23, 24, 25, 26, 27, 28, 29, 30, 31, 32, 33, 34, 35, 36, 37, 38, 39, 40, 41, 42, 43, 44, 45, 46, 47, 48, 49, 50, 51, 52, 53, 54, 55, 56, 57, 58, 59, 60, 61, 62, 63, 64, 65, 66, 67, 68, 69, 70, 71, 72, 73, 74, 75, 76, 77, 78, 79, 80, 81, 82, 83, 84, 85, 86, 87, 88, 89, 90, 91, 92, 93, 94, 95, 96, 97, 98, 99, 100, 101, 102, 103, 104, 105, 106, 107, 108, 109, 110, 111, 112, 113, 114, 115, 116, 117, 118, 119, 120, 121, 122, 123, 124, 125, 126] (by decide +kernel) (by decide +kernel)) (goodIn_sub (fun _ h => List.mem_cons_of_mem _ (List.mem_append_right _ h)) (by decide +kernel))
set_option maxRecDepth 20000 in
theorem gL_forBase_X9_forBase : GoodIn wsL_forBase (wsV RL 64 RX9 yX9_forBase wsX9_forBase) := goodIn_app (goodIn_of _ (by decide +kernel)) ggL_forBase_X9_forBase
theorem dL_forBase_0 : decode cL_forBase 0 = .ok (.aload_n 2, 1) := by decide +kernel
theorem dL_forBase_1 : decode cL_forBase 1 = .ok (.iconst 0, 1) := by decide +kernel
theorem dL_forBase_2 : decode cL_forBase 2 = .ok (.aload_n 0, 1) := by decide +kernel
theorem dL_forBase_3 : decode cL_forBase 3 = .ok (.iload_n 1, 1) := by decide +kernel
theorem dL_forBase_4 : decode cL_forBase 4 = .ok (.invokevirtual 64, 3) := by decide +kernel
theorem dL_forBase_7 : decode cL_forBase 7 = .ok (.i2l, 1) := by decide +kernel
theorem dL_forBase_8 : decode cL_forBase 8 = .ok (.lastore, 1) := by decide +kernel
theorem dL_forBase_9 : decode cL_forBase 9 = .ok (.goto 6, 3) := by decide +kernel
theorem dL_forBase_12 : decode cL_forBase 12 = .ok (.astore_n 3, 1) := by decide +kernel
theorem dL_forBase_13 : decode cL_forBase 13 = .ok (.iconst 1, 1) := by decide +kernel
theorem dL_forBase_14 : decode cL_forBase 14 = .ok (.ireturn, 1) := by decide +kernel
theorem dL_forBase_15 : decode cL_forBase 15 = .ok (.iconst 0, 1) := by decide +kernel
theorem dL_forBase_16 : decode cL_forBase 16 = .ok (.ireturn, 1) := by decide +kernel
set_option maxRecDepth 20000 in
theorem ggL_forDifference_X9_forDifference : GoodIn wsL_forDifference wsX9_forDifference := goodIn_ca (goodIn_ca (goodIn_r _ [7, 8, 9, 10, 11, 12, 13, 6, 14, 15, 16, 17, 18, 19, 20, 21, 22, 23, 24, 25, 26, 27, 28, 29, 30, 31, 32, 33, 34, 35, 36, 37, 38, 39, 40, 41, 42, 43, 44, 45, 46, 47, 48, 49, 50, 51, 52, 53, 54, 55, 56, 57, 58, 59, 60, 61, 62, 63, 64, 65, 66, 67, 68, 69, 70, 71, 72, 73, 74, 75, 76, 77, 78, 79, 80, 81, 82, 83, 84, 85, 86, 87, 88, 89, 90, 91, 92, 93, 94, 95, 96, 97, 98, 99, 100, 101, 102, 103, 104, 105, 106, 107, 108, 109, 110, 111, 112, 113, 114, 115, 116, 117, 118, 119, 120, 121, 122, 123, 124, 125, 126, 127, 128, 129, 130] (by decide +kernel) (by decide +kernel)) (goodIn_sub (fun _ h => List.mem_cons_of_mem _ (List.mem_append_left _ (List.mem_append_right _ h))) (by decide +kernel))) (goodIn_sub (fun _ h => List.mem_cons_of_mem _ (List.mem_append_right _ h)) (by decide +kernel))
set_option maxRecDepth 20000 in
theorem gL_forDifference_X9_forDifference : GoodIn wsL_forDifference (wsV RL 67 RX9 yX9_forDifference wsX9_forDifference) := goodIn_app (goodIn_of _ (by decide +kernel)) ggL_forDifference_X9_forDifference
theorem dL_forDifference_0 : decode cL_forDifference 0 = .ok (.aload_n 2, 1) := by decide +kernel
theorem dL_forDifference_1 : decode cL_forDifference 1 = .ok (.iconst 0, 1) := by decide +kernel
theorem dL_forDifference_2 : decode cL_forDifference 2 = .ok (.aload_n 0, 1) := by decide +kernel
theorem dL_forDifference_3 : decode cL_forDifference 3 = .ok (.iload_n 1, 1) := by decide +kernel
theorem dL_forDifference_4 : decode cL_forDifference 4 = .ok (.invokevirtual 67, 3) := by decide +kernel
theorem dL_forDifference_7 : decode cL_forDifference 7 = .ok (.i2l, 1) := by decide +kernel
theorem dL_forDifference_8 : decode cL_forDifference 8 = .ok (.lastore, 1) := by decide +kernel
theorem dL_forDifference_9 : decode cL_forDifference 9 = .ok (.goto 9, 3) := by decide +kernel
theorem dL_forDifference_12 : decode cL_forDifference 12 = .ok (.astore_n 3, 1) := by decide +kernel
theorem dL_forDifference_13 : decode cL_forDifference 13 = .ok (.iconst 1, 1) := by decide +kernel
theorem dL_forDifference_14 : decode cL_forDifference 14 = .ok (.ireturn, 1) := by decide +kernel
theorem dL_forDifference_15 : decode cL_forDifference 15 = .ok (.astore_n 3, 1) := by decide +kernel
theorem dL_forDifference_16 : decode cL_forDifference 16 = .ok (.iconst 2, 1) := by decide +kernel
theorem dL_forDifference_17 : decode cL_forDifference 17 = .ok (.ireturn, 1) := by decide +kernel
theorem dL_forDifference_18 : decode cL_forDifference 18 = .ok (.iconst 0, 1) := by decide +kernel
theorem dL_forDifference_19 : decode cL_forDifference 19 = .ok (.ireturn, 1) := by decide +kernel
set_option maxRecDepth 20000 in
theorem ggL_would_X9_would : GoodIn wsL_would wsX9_would := goodIn_ca (goodIn_r _ [6, 7, 8, 9, 10, 11, 12, 13, 5, 14, 15, 16, 17, 18, 19, 20, 21, 22, 23, 24, 25, 26, 27, 28, 29, 30, 31, 32, 33, 34, 35, 36, 37, 38, 39, 40, 41, 42, 43, 44, 45, 46, 47, 48, 49, 50, 51, 52, 53, 54, 55, 56, 57, 58, 59, 60, 61, 62, 63, 64, 65, 66, 67, 68, 69, 70, 71, 72, 73, 74, 75, 76, 77, 78, 79, 80, 81, 82, 83, 84, 85, 86, 87, 88, 89, 90, 91, 92, 93, 94, 95, 96, 97, 98, 99, 100, 101, 102, 103, 104, 105, 106, 107, 108, 109, 110, 111, 112, 113, 114, 115, 116, 117, 118, 119, 120, 121, 122, 123, 124, 125, 126, 127, 128, 129, 130, 131, 132, 133, 134, 135, 136, 137, 138, 139, 140, 141, 142, 143, 144, 145, 146, 147, 148, 149, 150, 151, 152, 153, 154, 155, 156, 157, 158, 159, 160, 161, 162, 163, 164, 165, 166, 167, 168, 169, 170, 171, 172, 173, 174, 175, 176, 177, 178, 179, 180, 181, 182, 183, 184, 185] (by decide +kernel) (by decide +kernel)) (goodIn_sub (fun _ h => List.mem_cons_of_mem _ (List.mem_append_right _ h)) (by decide +kernel))
set_option maxRecDepth 20000 in
theorem gL_would_X9_would : GoodIn wsL_would (wsV RL 70 RX9 yX9_would wsX9_would) := goodIn_app (goodIn_of _ (by decide +kernel)) ggL_would_X9_would
theorem dL_would_0 : decode cL_would 0 = .ok (.aload_n 2, 1) := by decide +kernel
theorem dL_would_1 : decode cL_would 1 = .ok (.iconst 0, 1) := by decide +kernel
theorem dL_would_2 : decode cL_would 2 = .ok (.aload_n 0, 1) := by decide +kernel
theorem dL_would_3 : decode cL_would 3 = .ok (.iload_n 1, 1) := by decide +kernel
theorem dL_would_4 : decode cL_would 4 = .ok (.invokevirtual 70, 3) := by decide +kernel
theorem dL_would_7 : decode cL_would 7 = .ok (.i2l, 1) := by decide +kernel
theorem dL_would_8 : decode cL_would 8 = .ok (.lastore, 1) := by decide +kernel
theorem dL_would_9 : decode cL_would 9 = .ok (.goto 6, 3) := by decide +kernel
theorem dL_would_12 : decode cL_would 12 = .ok (.astore_n 3, 1) := by decide +kernel
theorem dL_would_13 : decode cL_would 13 = .ok (.iconst 1, 1) := by decide +kernel
theorem dL_would_14 : decode cL_would 14 = .ok (.ireturn, 1) := by decide +kernel
theorem dL_would_15 : decode cL_would 15 = .ok (.iconst 0, 1) := by decide +kernel
theorem dL_would_16 : decode cL_would 16 = .ok (.ireturn, 1) := by decide +kernel
set_option maxRecDepth 20000 in
theorem ggL_night_X9_night : GoodIn wsL_night wsX9_night := goodIn_ca (goodIn_r _ [6, 7, 8, 9, 10, 11, 12, 13, 14, 15, 16, 17, 18, 19, 20, 21, 22, 23, 24, 25, 26, 27, 28, 29, 30, 31, 32, 33, 34, 35, 36, 37, 38, 39, 40, 41, 42, 43, 44, 45, 46, 47, 48, 49, 50, 51, 52, 53, 54, 55, 56, 57, 58, 59, 60, 61, 62, 63, 64, 65, 66, 67, 68, 69, 70, 71, 72, 73, 74, 75, 76, 77, 78, 79, 80, 81, 82, 83, 84, 85, 86, 87, 88, 89, 90, 91, 92, 93, 94, 95, 96, 97, 98, 99, 100, 101, 102, 103, 104, 105, 106, 107, 108, 109, 110, 111, 112, 113, 114, 115, 116, 117, 118, 119, 120, 121, 122, 123, 124, 125, 126, 127, 128, 129, 130, 131, 132, 133, 134, 135, 136, 137, 138, 139, 140, 141, 142, 143, 144, 145, 146, 147, 148, 149, 5, 150, 151, 152, 153, 154, 155, 156, 157, 158, 159, 160, 161, 162, 163, 164, 165, 166, 167, 168, 169, 170, 171, 172, 173, 174, 175, 176, 177, 178, 179, 180, 181, 182, 183, 184, 185, 186, 187, 188, 189, 190, 191, 192, 193, 194, 195, 196, 197, 198, 199, 200, 201, 202, 203, 204, 205, 206, 207, 208, 209, 210, 211, 212, 213, 214, 215, 216, 217, 218, 219, 220, 221, 222, 223, 224, 225, 226, 227, 228, 229, 230, 231, 232, 233, 234, 235, 236, 237, 238, 239, 240, 241, 242, 243, 244, 245, 246, 247, 248, 249, 250, 251, 252, 253, 254, 255, 256, 257, 258, 259, 260, 261, 262, 263, 264, 265, 266, 267, 268, 269, 270, 271] (by decide +kernel) (by decide +kernel)) (goodIn_sub (fun _ h => List.mem_cons_of_mem _ (List.mem_append_right _ h)) (by decide +kernel))
set_option maxRecDepth 20000 in
theorem gL_night_X9_night : GoodIn wsL_night (wsV RL 73 RX9 yX9_night wsX9_night) := goodIn_app (goodIn_of _ (by decide +kernel)) ggL_night_X9_night
theorem dL_night_0 : decode cL_night 0 = .ok (.aload_n 1, 1) := by decide +kernel
theorem dL_night_1 : decode cL_night 1 = .ok (.iconst 0, 1) := by decide +kernel
theorem dL_night_2 : decode cL_night 2 = .ok (.aload_n 0, 1) := by decide +kernel
theorem dL_night_3 : decode cL_night 3 = .ok (.invokevirtual 73, 3) := by decide +kernel
theorem dL_night_6 : decode cL_night 6 = .ok (.i2l, 1) := by decide +kernel
theorem dL_night_7 : decode cL_night 7 = .ok (.lastore, 1) := by decide +kernel
theorem dL_night_8 : decode cL_night 8 = .ok (.goto 6, 3) := by decide +kernel
theorem dL_night_11 : decode cL_night 11 = .ok (.astore_n 2, 1) := by decide +kernel
theorem dL_night_12 : decode cL_night 12 = .ok (.iconst 1, 1) := by decide +kernel
theorem dL_night_13 : decode cL_night 13 = .ok (.ireturn, 1) := by decide +kernel
theorem dL_night_14 : decode cL_night 14 = .ok (.iconst 0, 1) := by decide +kernel
theorem dL_night_15 : decode cL_night 15 = .ok (.ireturn, 1) := by decide +kernel
set_option maxRecDepth 20000 in
theorem ggL_got_X9_got : GoodIn wsL_got wsX9_got := goodIn_ca (goodIn_ca (goodIn_r _ [7, 8, 9, 10, 11, 6, 12, 13, 14, 15, 16, 17, 18, 19, 20, 21, 22, 23, 24, 25, 26, 27, 28, 29, 30, 31, 32, 33, 34, 35, 36, 37, 38, 39, 40, 41, 42, 43, 44, 45, 46, 47, 48, 49, 50] (by decide +kernel) (by decide +kernel)) (goodIn_sub (fun _ h => List.mem_cons_of_mem _ (List.mem_append_left _ (List.mem_append_right _ h))) (by decide +kernel))) (goodIn_sub (fun _ h => List.mem_cons_of_mem _ (List.mem_append_right _ h)) (by decide +kernel))
set_option maxRecDepth 20000 in
theorem gL_got_X9_got : GoodIn wsL_got (wsV RL 77 RX9 yX9_got wsX9_got) := goodIn_app (goodIn_of _ (by decide +kernel)) ggL_got_X9_got
theorem dL_got_0 : decode cL_got 0 = .ok (.aload_n 3, 1) := by decide +kernel
theorem dL_got_1 : decode cL_got 1 = .ok (.iconst 0, 1) := by decide +kernel
theorem dL_got_2 : decode cL_got 2 = .ok (.aload_n 0, 1) := by decide +kernel
theorem dL_got_3 : decode cL_got 3 = .ok (.iload_n 1, 1) := by decide +kernel
theorem dL_got_4 : decode cL_got 4 = .ok (.iload_n 2, 1) := by decide +kernel
theorem dL_got_5 : decode cL_got 5 = .ok (.invokevirtual 77, 3) := by decide +kernel
theorem dL_got_8 : decode cL_got 8 = .ok (.i2l, 1) := by decide +kernel
theorem dL_got_9 : decode cL_got 9 = .ok (.lastore, 1) := by decide +kernel
theorem dL_got_10 : decode cL_got 10 = .ok (.goto 11, 3) := by decide +kernel
theorem dL_got_13 : decode cL_got 13 = .ok (.astore 4, 2) := by decide +kernel
theorem dL_got_15 : decode cL_got 15 = .ok (.iconst 1, 1) := by decide +kernel
theorem dL_got_16 : decode cL_got 16 = .ok (.ireturn, 1) := by decide +kernel
theorem dL_got_17 : decode cL_got 17 = .ok (.astore 4, 2) := by decide +kernel
theorem dL_got_19 : decode cL_got 19 = .ok (.iconst 2, 1) := by decide +kernel
theorem dL_got_20 : decode cL_got 20 = .ok (.ireturn, 1) := by decide +kernel
theorem dL_got_21 : decode cL_got 21 = .ok (.iconst 0, 1) := by decide +kernel
theorem dL_got_22 : decode cL_got 22 = .ok (.ireturn, 1) := by decide +kernel
set_option maxRecDepth 20000 in
theorem ggL_dayOf_X9_dayOf : GoodIn wsL_dayOf wsX9_dayOf := goodIn_ca (goodIn_ca (goodIn_r _ [7, 8, 9, 10, 6, 11, 12, 13, 14, 15, 16, 17, 18, 19, 20, 21, 22, 23, 24, 25, 26, 27, 28, 29, 30, 31, 32, 33, 34, 35, 36, 37, 38, 39, 40, 41, 42, 43, 44, 45, 46, 47, 48, 49, 50] (by decide +kernel) (by decide +kernel)) (goodIn_sub (fun _ h => List.mem_cons_of_mem _ (List.mem_append_left _ (List.mem_append_right _ h))) (by decide +kernel))) (goodIn_sub (fun _ h => List.mem_cons_of_mem _ (List.mem_append_right _ h)) (by decide +kernel))
set_option maxRecDepth 20000 in
theorem gL_dayOf_X9_dayOf : GoodIn wsL_dayOf (wsV RL 80 RX9 yX9_dayOf wsX9_dayOf) := goodIn_app (goodIn_of _ (by decide +kernel)) ggL_dayOf_X9_dayOf
theorem dL_dayOf_0 : decode cL_dayOf 0 = .ok (.aload_n 3, 1) := by decide +kernel
theorem dL_dayOf_1 : decode cL_dayOf 1 = .ok (.iconst 0, 1) := by decide +kernel
theorem dL_dayOf_2 : decode cL_dayOf 2 = .ok (.aload_n 0, 1) := by decide +kernel
theorem dL_dayOf_3 : decode cL_dayOf 3 = .ok (.iload_n 1, 1) := by decide +kernel
theorem dL_dayOf_4 : decode cL_dayOf 4 = .ok (.iload_n 2, 1) := by decide +kernel
theorem dL_dayOf_5 : decode cL_dayOf 5 = .ok (.invokevirtual 80, 3) := by decide +kernel
theorem dL_dayOf_8 : decode cL_dayOf 8 = .ok (.i2l, 1) := by decide +kernel
theorem dL_dayOf_9 : decode cL_dayOf 9 = .ok (.lastore, 1) := by decide +kernel
theorem dL_dayOf_10 : decode cL_dayOf 10 = .ok (.goto 11, 3) := by decide +kernel
theorem dL_dayOf_13 : decode cL_dayOf 13 = .ok (.astore 4, 2) := by decide +kernel
theorem dL_dayOf_15 : decode cL_dayOf 15 = .ok (.iconst 1, 1) := by decide +kernel
theorem dL_dayOf_16 : decode cL_dayOf 16 = .ok (.ireturn, 1) := by decide +kernel
theorem dL_dayOf_17 : decode cL_dayOf 17 = .ok (.astore 4, 2) := by decide +kernel
theorem dL_dayOf_19 : decode cL_dayOf 19 = .ok (.iconst 2, 1) := by decide +kernel
theorem dL_dayOf_20 : decode cL_dayOf 20 = .ok (.ireturn, 1) := by decide +kernel
theorem dL_dayOf_21 : decode cL_dayOf 21 = .ok (.iconst 0, 1) := by decide +kernel
theorem dL_dayOf_22 : decode cL_dayOf 22 = .ok (.ireturn, 1) := by decide +kernel
set_option maxRecDepth 20000 in
theorem ggL_chain_X9_chain : GoodIn wsL_chain wsX9_chain := goodIn_ca (goodIn_r _ [6, 7, 8, 9, 10, 5, 11, 12, 13, 14, 15, 16, 17, 18, 19, 20, 21, 22, 23, 24, 25, 26, 27, 28, 29, 30, 31, 32, 33, 34, 35, 36, 37, 38, 39, 40, 41, 42] (by decide +kernel) (by decide +kernel)) (goodIn_sub (fun _ h => List.mem_cons_of_mem _ (List.mem_append_right _ h)) (by decide +kernel))
set_option maxRecDepth 20000 in
theorem gL_chain_X9_chain : GoodIn wsL_chain (wsV RL 83 RX9 yX9_chain wsX9_chain) := goodIn_app (goodIn_of _ (by decide +kernel)) ggL_chain_X9_chain
theorem dL_chain_0 : decode cL_chain 0 = .ok (.aload_n 2, 1) := by decide +kernel
theorem dL_chain_1 : decode cL_chain 1 = .ok (.iconst 0, 1) := by decide +kernel
theorem dL_chain_2 : decode cL_chain 2 = .ok (.aload_n 0, 1) := by decide +kernel
theorem dL_chain_3 : decode cL_chain 3 = .ok (.iload_n 1, 1) := by decide +kernel
theorem dL_chain_4 : decode cL_chain 4 = .ok (.invokevirtual 83, 3) := by decide +kernel
theorem dL_chain_7 : decode cL_chain 7 = .ok (.i2l, 1) := by decide +kernel
theorem dL_chain_8 : decode cL_chain 8 = .ok (.lastore, 1) := by decide +kernel
theorem dL_chain_9 : decode cL_chain 9 = .ok (.goto 6, 3) := by decide +kernel
theorem dL_chain_12 : decode cL_chain 12 = .ok (.astore_n 3, 1) := by decide +kernel
theorem dL_chain_13 : decode cL_chain 13 = .ok (.iconst 1, 1) := by decide +kernel
theorem dL_chain_14 : decode cL_chain 14 = .ok (.ireturn, 1) := by decide +kernel
theorem dL_chain_15 : decode cL_chain 15 = .ok (.iconst 0, 1) := by decide +kernel
theorem dL_chain_16 : decode cL_chain 16 = .ok (.ireturn, 1) := by decide +kernel
set_option maxRecDepth 20000 in
theorem ggL_bytes_X9_bytes : GoodIn wsL_bytes wsX9_bytes := goodIn_ca (goodIn_ca (goodIn_ca (goodIn_r _ [8, 9, 10, 11, 7, 12, 13, 14, 15, 16, 17, 18, 19, 20, 21, 22, 23, 24, 25, 26, 27, 28, 29, 30, 31, 32, 33, 34, 35, 36, 37, 38, 39, 40, 41, 42, 43, 44, 45, 46, 47, 48, 49, 50, 51, 52, 53, 54, 55, 56, 57, 58, 59, 60, 61, 62, 63, 64, 65, 66, 67, 68, 69, 70, 71, 72, 73, 74, 75, 76, 77, 78, 79, 80, 81, 82, 83, 84, 85] (by decide +kernel) (by decide +kernel)) (goodIn_sub (fun _ h => List.mem_cons_of_mem _ (List.mem_append_left _ (List.mem_append_left _ (List.mem_append_right _ h)))) (by decide +kernel))) (goodIn_sub (fun _ h => List.mem_cons_of_mem _ (List.mem_append_left _ (List.mem_append_right _ h))) (by decide +kernel))) (goodIn_sub (fun _ h => List.mem_cons_of_mem _ (List.mem_append_right _ h)) (by decide +kernel))
set_option maxRecDepth 20000 in
theorem gL_bytes_X9_bytes : GoodIn wsL_bytes (wsV RL 86 RX9 yX9_bytes wsX9_bytes) := goodIn_app (goodIn_of _ (by decide +kernel)) ggL_bytes_X9_bytes
theorem dL_bytes_0 : decode cL_bytes 0 = .ok (.aload_n 3, 1) := by decide +kernel
theorem dL_bytes_1 : decode cL_bytes 1 = .ok (.iconst 0, 1) := by decide +kernel
theorem dL_bytes_2 : decode cL_bytes 2 = .ok (.aload_n 0, 1) := by decide +kernel
theorem dL_bytes_3 : decode cL_bytes 3 = .ok (.iload_n 1, 1) := by decide +kernel
theorem dL_bytes_4 : decode cL_bytes 4 = .ok (.iload_n 2, 1) := by decide +kernel
theorem dL_bytes_5 : decode cL_bytes 5 = .ok (.invokevirtual 86, 3) := by decide +kernel
theorem dL_bytes_8 : decode cL_bytes 8 = .ok (.i2l, 1) := by decide +kernel
theorem dL_bytes_9 : decode cL_bytes 9 = .ok (.lastore, 1) := by decide +kernel
theorem dL_bytes_10 : decode cL_bytes 10 = .ok (.goto 15, 3) := by decide +kernel
theorem dL_bytes_13 : decode cL_bytes 13 = .ok (.astore 4, 2) := by decide +kernel
theorem dL_bytes_15 : decode cL_bytes 15 = .ok (.iconst 1, 1) := by decide +kernel
theorem dL_bytes_16 : decode cL_bytes 16 = .ok (.ireturn, 1) := by decide +kernel
theorem dL_bytes_17 : decode cL_bytes 17 = .ok (.astore 4, 2) := by decide +kernel
theorem dL_bytes_19 : decode cL_bytes 19 = .ok (.iconst 2, 1) := by decide +kernel
theorem dL_bytes_20 : decode cL_bytes 20 = .ok (.ireturn, 1) := by decide +kernel
theorem dL_bytes_21 : decode cL_bytes 21 = .ok (.astore 4, 2) := by decide +kernel
theorem dL_bytes_23 : decode cL_bytes 23 = .ok (.iconst 3, 1) := by decide +kernel
theorem dL_bytes_24 : decode cL_bytes 24 = .ok (.ireturn, 1) := by decide +kernel
theorem dL_bytes_25 : decode cL_bytes 25 = .ok (.iconst 0, 1) := by decide +kernel
theorem dL_bytes_26 : decode cL_bytes 26 = .ok (.ireturn, 1) := by decide +kernel
set_option maxRecDepth 20000 in
theorem ggL_held_X9_held : GoodIn wsL_held wsX9_held := goodIn_ca (goodIn_ca (goodIn_ca (goodIn_r _ [8, 9, 10, 11, 12, 13, 7, 14, 15, 16, 17, 18, 19, 20, 21, 22, 23, 24, 25, 26, 27, 28, 29, 30, 31, 32, 33, 34, 35, 36, 37, 38, 39, 40, 41, 42, 43, 44, 45, 46, 47, 48, 49, 50, 51, 52, 53, 54, 55, 56, 57, 58, 59, 60] (by decide +kernel) (by decide +kernel)) (goodIn_sub (fun _ h => List.mem_cons_of_mem _ (List.mem_append_left _ (List.mem_append_left _ (List.mem_append_right _ h)))) (by decide +kernel))) (goodIn_sub (fun _ h => List.mem_cons_of_mem _ (List.mem_append_left _ (List.mem_append_right _ h))) (by decide +kernel))) (goodIn_sub (fun _ h => List.mem_cons_of_mem _ (List.mem_append_right _ h)) (by decide +kernel))
set_option maxRecDepth 20000 in
theorem gL_held_X9_held : GoodIn wsL_held (wsV RL 89 RX9 yX9_held wsX9_held) := goodIn_app (goodIn_of _ (by decide +kernel)) ggL_held_X9_held
theorem dL_held_0 : decode cL_held 0 = .ok (.aload_n 3, 1) := by decide +kernel
theorem dL_held_1 : decode cL_held 1 = .ok (.iconst 0, 1) := by decide +kernel
theorem dL_held_2 : decode cL_held 2 = .ok (.aload_n 0, 1) := by decide +kernel
theorem dL_held_3 : decode cL_held 3 = .ok (.iload_n 1, 1) := by decide +kernel
theorem dL_held_4 : decode cL_held 4 = .ok (.iload_n 2, 1) := by decide +kernel
theorem dL_held_5 : decode cL_held 5 = .ok (.invokevirtual 89, 3) := by decide +kernel
theorem dL_held_8 : decode cL_held 8 = .ok (.i2l, 1) := by decide +kernel
theorem dL_held_9 : decode cL_held 9 = .ok (.lastore, 1) := by decide +kernel
theorem dL_held_10 : decode cL_held 10 = .ok (.goto 15, 3) := by decide +kernel
theorem dL_held_13 : decode cL_held 13 = .ok (.astore 4, 2) := by decide +kernel
theorem dL_held_15 : decode cL_held 15 = .ok (.iconst 1, 1) := by decide +kernel
theorem dL_held_16 : decode cL_held 16 = .ok (.ireturn, 1) := by decide +kernel
theorem dL_held_17 : decode cL_held 17 = .ok (.astore 4, 2) := by decide +kernel
theorem dL_held_19 : decode cL_held 19 = .ok (.iconst 2, 1) := by decide +kernel
theorem dL_held_20 : decode cL_held 20 = .ok (.ireturn, 1) := by decide +kernel
theorem dL_held_21 : decode cL_held 21 = .ok (.astore 4, 2) := by decide +kernel
theorem dL_held_23 : decode cL_held 23 = .ok (.iconst 3, 1) := by decide +kernel
theorem dL_held_24 : decode cL_held 24 = .ok (.ireturn, 1) := by decide +kernel
theorem dL_held_25 : decode cL_held 25 = .ok (.iconst 0, 1) := by decide +kernel
theorem dL_held_26 : decode cL_held 26 = .ok (.ireturn, 1) := by decide +kernel
set_option maxRecDepth 20000 in
theorem ggL_lengthOf_X9_lengthOf : GoodIn wsL_lengthOf wsX9_lengthOf := goodIn_ca (goodIn_ca (goodIn_ca (goodIn_r _ [8, 9, 10, 11, 12, 7, 13, 14, 15, 16, 17, 18, 19, 20, 21, 22, 23, 24, 25, 26, 27, 28, 29, 30, 31, 32, 33, 34, 35, 36, 37, 38, 39, 40, 41, 42, 43, 44, 45, 46, 47, 48, 49, 50, 51, 52, 53, 54, 55, 56, 57, 58, 59, 60, 61, 62, 63, 64, 65, 66, 67, 68, 69, 70, 71, 72, 73, 74, 75, 76, 77, 78] (by decide +kernel) (by decide +kernel)) (goodIn_sub (fun _ h => List.mem_cons_of_mem _ (List.mem_append_left _ (List.mem_append_left _ (List.mem_append_right _ h)))) (by decide +kernel))) (goodIn_sub (fun _ h => List.mem_cons_of_mem _ (List.mem_append_left _ (List.mem_append_right _ h))) (by decide +kernel))) (goodIn_sub (fun _ h => List.mem_cons_of_mem _ (List.mem_append_right _ h)) (by decide +kernel))
set_option maxRecDepth 20000 in
theorem gL_lengthOf_X9_lengthOf : GoodIn wsL_lengthOf (wsV RL 92 RX9 yX9_lengthOf wsX9_lengthOf) := goodIn_app (goodIn_of _ (by decide +kernel)) ggL_lengthOf_X9_lengthOf
theorem dL_lengthOf_0 : decode cL_lengthOf 0 = .ok (.aload_n 3, 1) := by decide +kernel
theorem dL_lengthOf_1 : decode cL_lengthOf 1 = .ok (.iconst 0, 1) := by decide +kernel
theorem dL_lengthOf_2 : decode cL_lengthOf 2 = .ok (.aload_n 0, 1) := by decide +kernel
theorem dL_lengthOf_3 : decode cL_lengthOf 3 = .ok (.iload_n 1, 1) := by decide +kernel
theorem dL_lengthOf_4 : decode cL_lengthOf 4 = .ok (.iload_n 2, 1) := by decide +kernel
theorem dL_lengthOf_5 : decode cL_lengthOf 5 = .ok (.invokevirtual 92, 3) := by decide +kernel
theorem dL_lengthOf_8 : decode cL_lengthOf 8 = .ok (.i2l, 1) := by decide +kernel
theorem dL_lengthOf_9 : decode cL_lengthOf 9 = .ok (.lastore, 1) := by decide +kernel
theorem dL_lengthOf_10 : decode cL_lengthOf 10 = .ok (.goto 15, 3) := by decide +kernel
theorem dL_lengthOf_13 : decode cL_lengthOf 13 = .ok (.astore 4, 2) := by decide +kernel
theorem dL_lengthOf_15 : decode cL_lengthOf 15 = .ok (.iconst 1, 1) := by decide +kernel
theorem dL_lengthOf_16 : decode cL_lengthOf 16 = .ok (.ireturn, 1) := by decide +kernel
theorem dL_lengthOf_17 : decode cL_lengthOf 17 = .ok (.astore 4, 2) := by decide +kernel
theorem dL_lengthOf_19 : decode cL_lengthOf 19 = .ok (.iconst 2, 1) := by decide +kernel
theorem dL_lengthOf_20 : decode cL_lengthOf 20 = .ok (.ireturn, 1) := by decide +kernel
theorem dL_lengthOf_21 : decode cL_lengthOf 21 = .ok (.astore 4, 2) := by decide +kernel
theorem dL_lengthOf_23 : decode cL_lengthOf 23 = .ok (.iconst 3, 1) := by decide +kernel
theorem dL_lengthOf_24 : decode cL_lengthOf 24 = .ok (.ireturn, 1) := by decide +kernel
theorem dL_lengthOf_25 : decode cL_lengthOf 25 = .ok (.iconst 0, 1) := by decide +kernel
theorem dL_lengthOf_26 : decode cL_lengthOf 26 = .ok (.ireturn, 1) := by decide +kernel
set_option maxRecDepth 20000 in
theorem ggL_digestOf_X9_digestOf : GoodIn wsL_digestOf wsX9_digestOf := goodIn_ca (goodIn_ca (goodIn_ca (goodIn_r _ [8, 9, 10, 11, 7, 12, 13, 14, 15, 16, 17, 18, 19, 20, 21, 22, 23, 24, 25, 26, 27, 28, 29, 30, 31, 32, 33, 34, 35, 36, 37, 38, 39, 40, 41, 42, 43, 44, 45, 46, 47, 48, 49, 50, 51, 52, 53, 54, 55, 56, 57, 58, 59, 60, 61, 62, 63, 64, 65, 66, 67, 68, 69, 70, 71, 72, 73, 74, 75, 76, 77, 78, 79, 80, 81, 82, 83, 84, 85, 86, 87, 88, 89, 90, 91, 92, 93, 94, 95, 96] (by decide +kernel) (by decide +kernel)) (goodIn_sub (fun _ h => List.mem_cons_of_mem _ (List.mem_append_left _ (List.mem_append_left _ (List.mem_append_right _ h)))) (by decide +kernel))) (goodIn_sub (fun _ h => List.mem_cons_of_mem _ (List.mem_append_left _ (List.mem_append_right _ h))) (by decide +kernel))) (goodIn_sub (fun _ h => List.mem_cons_of_mem _ (List.mem_append_right _ h)) (by decide +kernel))
set_option maxRecDepth 20000 in
theorem gL_digestOf_X9_digestOf : GoodIn wsL_digestOf (wsV RL 95 RX9 yX9_digestOf wsX9_digestOf) := goodIn_app (goodIn_of _ (by decide +kernel)) ggL_digestOf_X9_digestOf
theorem dL_digestOf_0 : decode cL_digestOf 0 = .ok (.aload_n 3, 1) := by decide +kernel
theorem dL_digestOf_1 : decode cL_digestOf 1 = .ok (.iconst 0, 1) := by decide +kernel
theorem dL_digestOf_2 : decode cL_digestOf 2 = .ok (.aload_n 0, 1) := by decide +kernel
theorem dL_digestOf_3 : decode cL_digestOf 3 = .ok (.iload_n 1, 1) := by decide +kernel
theorem dL_digestOf_4 : decode cL_digestOf 4 = .ok (.iload_n 2, 1) := by decide +kernel
theorem dL_digestOf_5 : decode cL_digestOf 5 = .ok (.invokevirtual 95, 3) := by decide +kernel
theorem dL_digestOf_8 : decode cL_digestOf 8 = .ok (.lastore, 1) := by decide +kernel
theorem dL_digestOf_9 : decode cL_digestOf 9 = .ok (.goto 15, 3) := by decide +kernel
theorem dL_digestOf_12 : decode cL_digestOf 12 = .ok (.astore 4, 2) := by decide +kernel
theorem dL_digestOf_14 : decode cL_digestOf 14 = .ok (.iconst 1, 1) := by decide +kernel
theorem dL_digestOf_15 : decode cL_digestOf 15 = .ok (.ireturn, 1) := by decide +kernel
theorem dL_digestOf_16 : decode cL_digestOf 16 = .ok (.astore 4, 2) := by decide +kernel
theorem dL_digestOf_18 : decode cL_digestOf 18 = .ok (.iconst 2, 1) := by decide +kernel
theorem dL_digestOf_19 : decode cL_digestOf 19 = .ok (.ireturn, 1) := by decide +kernel
theorem dL_digestOf_20 : decode cL_digestOf 20 = .ok (.astore 4, 2) := by decide +kernel
theorem dL_digestOf_22 : decode cL_digestOf 22 = .ok (.iconst 3, 1) := by decide +kernel
theorem dL_digestOf_23 : decode cL_digestOf 23 = .ok (.ireturn, 1) := by decide +kernel
theorem dL_digestOf_24 : decode cL_digestOf 24 = .ok (.iconst 0, 1) := by decide +kernel
theorem dL_digestOf_25 : decode cL_digestOf 25 = .ok (.ireturn, 1) := by decide +kernel
set_option maxRecDepth 20000 in
theorem ggL_digestByChunks_X9_digestByChunks : GoodIn wsL_digestByChunks wsX9_digestByChunks := goodIn_ca (goodIn_ca (goodIn_ca (goodIn_r _ [8, 9, 10, 11, 12, 7, 13, 14, 15, 16, 17, 18, 19, 20, 21, 22, 23, 24, 25, 26, 27, 28, 29, 30, 31, 32, 33, 34, 35, 36, 37, 38, 39, 40, 41, 42, 43, 44, 45, 46, 47, 48, 49, 50, 51, 52, 53, 54, 55, 56, 57, 58, 59, 60, 61, 62, 63, 64, 65, 66, 67, 68, 69, 70, 71, 72, 73, 74, 75, 76, 77, 78, 79, 80] (by decide +kernel) (by decide +kernel)) (goodIn_sub (fun _ h => List.mem_cons_of_mem _ (List.mem_append_left _ (List.mem_append_left _ (List.mem_append_right _ h)))) (by decide +kernel))) (goodIn_sub (fun _ h => List.mem_cons_of_mem _ (List.mem_append_left _ (List.mem_append_right _ h))) (by decide +kernel))) (goodIn_sub (fun _ h => List.mem_cons_of_mem _ (List.mem_append_right _ h)) (by decide +kernel))
set_option maxRecDepth 20000 in
theorem gL_digestByChunks_X9_digestByChunks : GoodIn wsL_digestByChunks (wsV RL 99 RX9 yX9_digestByChunks wsX9_digestByChunks) := goodIn_app (goodIn_of _ (by decide +kernel)) ggL_digestByChunks_X9_digestByChunks
theorem dL_digestByChunks_0 : decode cL_digestByChunks 0 = .ok (.aload_n 3, 1) := by decide +kernel
theorem dL_digestByChunks_1 : decode cL_digestByChunks 1 = .ok (.iconst 0, 1) := by decide +kernel
theorem dL_digestByChunks_2 : decode cL_digestByChunks 2 = .ok (.aload_n 0, 1) := by decide +kernel
theorem dL_digestByChunks_3 : decode cL_digestByChunks 3 = .ok (.iload_n 1, 1) := by decide +kernel
theorem dL_digestByChunks_4 : decode cL_digestByChunks 4 = .ok (.iload_n 2, 1) := by decide +kernel
theorem dL_digestByChunks_5 : decode cL_digestByChunks 5 = .ok (.invokevirtual 99, 3) := by decide +kernel
theorem dL_digestByChunks_8 : decode cL_digestByChunks 8 = .ok (.lastore, 1) := by decide +kernel
theorem dL_digestByChunks_9 : decode cL_digestByChunks 9 = .ok (.goto 15, 3) := by decide +kernel
theorem dL_digestByChunks_12 : decode cL_digestByChunks 12 = .ok (.astore 4, 2) := by decide +kernel
theorem dL_digestByChunks_14 : decode cL_digestByChunks 14 = .ok (.iconst 1, 1) := by decide +kernel
theorem dL_digestByChunks_15 : decode cL_digestByChunks 15 = .ok (.ireturn, 1) := by decide +kernel
theorem dL_digestByChunks_16 : decode cL_digestByChunks 16 = .ok (.astore 4, 2) := by decide +kernel
theorem dL_digestByChunks_18 : decode cL_digestByChunks 18 = .ok (.iconst 2, 1) := by decide +kernel
theorem dL_digestByChunks_19 : decode cL_digestByChunks 19 = .ok (.ireturn, 1) := by decide +kernel
theorem dL_digestByChunks_20 : decode cL_digestByChunks 20 = .ok (.astore 4, 2) := by decide +kernel
theorem dL_digestByChunks_22 : decode cL_digestByChunks 22 = .ok (.iconst 3, 1) := by decide +kernel
theorem dL_digestByChunks_23 : decode cL_digestByChunks 23 = .ok (.ireturn, 1) := by decide +kernel
theorem dL_digestByChunks_24 : decode cL_digestByChunks 24 = .ok (.iconst 0, 1) := by decide +kernel
theorem dL_digestByChunks_25 : decode cL_digestByChunks 25 = .ok (.ireturn, 1) := by decide +kernel
set_option maxRecDepth 20000 in
theorem ggL_restore_X9_restore : GoodIn wsL_restore wsX9_restore := goodIn_ca (goodIn_ca (goodIn_ca (goodIn_r _ [8, 9, 10, 11, 12, 13, 7, 14, 15, 16, 17, 18, 19, 20, 21, 22, 23, 24, 25, 26, 27, 28, 29, 30, 31, 32, 33, 34, 35, 36, 37, 38, 39, 40, 41, 42, 43, 44, 45, 46, 47, 48, 49, 50, 51, 52, 53, 54, 55, 56, 57, 58, 59, 60, 61, 62, 63, 64, 65, 66, 67, 68, 69, 70, 71, 72, 73, 74, 75, 76, 77, 78, 79, 80, 81, 82, 83, 84, 85, 86, 87, 88, 89, 90, 91, 92, 93, 94, 95] (by decide +kernel) (by decide +kernel)) (goodIn_sub (fun _ h => List.mem_cons_of_mem _ (List.mem_append_left _ (List.mem_append_left _ (List.mem_append_right _ h)))) (by decide +kernel))) (goodIn_sub (fun _ h => List.mem_cons_of_mem _ (List.mem_append_left _ (List.mem_append_right _ h))) (by decide +kernel))) (goodIn_sub (fun _ h => List.mem_cons_of_mem _ (List.mem_append_right _ h)) (by decide +kernel))
set_option maxRecDepth 20000 in
theorem gL_restore_X9_restore : GoodIn wsL_restore (wsV RL 102 RX9 yX9_restore wsX9_restore) := goodIn_app (goodIn_of _ (by decide +kernel)) ggL_restore_X9_restore
theorem dL_restore_0 : decode cL_restore 0 = .ok (.aload_n 3, 1) := by decide +kernel
theorem dL_restore_1 : decode cL_restore 1 = .ok (.iconst 0, 1) := by decide +kernel
theorem dL_restore_2 : decode cL_restore 2 = .ok (.aload_n 0, 1) := by decide +kernel
theorem dL_restore_3 : decode cL_restore 3 = .ok (.iload_n 1, 1) := by decide +kernel
theorem dL_restore_4 : decode cL_restore 4 = .ok (.iload_n 2, 1) := by decide +kernel
theorem dL_restore_5 : decode cL_restore 5 = .ok (.invokevirtual 102, 3) := by decide +kernel
theorem dL_restore_8 : decode cL_restore 8 = .ok (.i2l, 1) := by decide +kernel
theorem dL_restore_9 : decode cL_restore 9 = .ok (.lastore, 1) := by decide +kernel
theorem dL_restore_10 : decode cL_restore 10 = .ok (.goto 15, 3) := by decide +kernel
theorem dL_restore_13 : decode cL_restore 13 = .ok (.astore 4, 2) := by decide +kernel
theorem dL_restore_15 : decode cL_restore 15 = .ok (.iconst 1, 1) := by decide +kernel
theorem dL_restore_16 : decode cL_restore 16 = .ok (.ireturn, 1) := by decide +kernel
theorem dL_restore_17 : decode cL_restore 17 = .ok (.astore 4, 2) := by decide +kernel
theorem dL_restore_19 : decode cL_restore 19 = .ok (.iconst 2, 1) := by decide +kernel
theorem dL_restore_20 : decode cL_restore 20 = .ok (.ireturn, 1) := by decide +kernel
theorem dL_restore_21 : decode cL_restore 21 = .ok (.astore 4, 2) := by decide +kernel
theorem dL_restore_23 : decode cL_restore 23 = .ok (.iconst 3, 1) := by decide +kernel
theorem dL_restore_24 : decode cL_restore 24 = .ok (.ireturn, 1) := by decide +kernel
theorem dL_restore_25 : decode cL_restore 25 = .ok (.iconst 0, 1) := by decide +kernel
theorem dL_restore_26 : decode cL_restore 26 = .ok (.ireturn, 1) := by decide +kernel
set_option maxRecDepth 20000 in
theorem ggL_setSpeed_X9_setSpeed : GoodIn wsL_setSpeed wsX9_setSpeed := goodIn_ca (goodIn_r _ [6, 7, 8, 9, 10, 11, 5, 12, 13, 14, 15, 16, 17, 18, 19, 20, 21, 22] (by decide +kernel) (by decide +kernel)) (goodIn_sub (fun _ h => List.mem_cons_of_mem _ (List.mem_append_right _ h)) (by decide +kernel))
set_option maxRecDepth 20000 in
theorem gL_setSpeed_X9_setSpeed : GoodIn wsL_setSpeed (wsV RL 105 RX9 yX9_setSpeed wsX9_setSpeed) := goodIn_app (goodIn_of _ (by decide +kernel)) ggL_setSpeed_X9_setSpeed
theorem dL_setSpeed_0 : decode cL_setSpeed 0 = .ok (.aload_n 0, 1) := by decide +kernel
theorem dL_setSpeed_1 : decode cL_setSpeed 1 = .ok (.iload_n 1, 1) := by decide +kernel
theorem dL_setSpeed_2 : decode cL_setSpeed 2 = .ok (.iload_n 2, 1) := by decide +kernel
theorem dL_setSpeed_3 : decode cL_setSpeed 3 = .ok (.invokevirtual 105, 3) := by decide +kernel
theorem dL_setSpeed_6 : decode cL_setSpeed 6 = .ok (.goto 6, 3) := by decide +kernel
theorem dL_setSpeed_9 : decode cL_setSpeed 9 = .ok (.astore_n 3, 1) := by decide +kernel
theorem dL_setSpeed_10 : decode cL_setSpeed 10 = .ok (.iconst 1, 1) := by decide +kernel
theorem dL_setSpeed_11 : decode cL_setSpeed 11 = .ok (.ireturn, 1) := by decide +kernel
theorem dL_setSpeed_12 : decode cL_setSpeed 12 = .ok (.iconst 0, 1) := by decide +kernel
theorem dL_setSpeed_13 : decode cL_setSpeed 13 = .ok (.ireturn, 1) := by decide +kernel
set_option maxRecDepth 20000 in
theorem ggL_mounts_X9_mounts : GoodIn wsL_mounts wsX9_mounts := goodIn_ca (goodIn_ca (goodIn_ca (goodIn_r _ [8, 9, 10, 11, 7, 12, 13, 14, 15, 16, 17, 18, 19, 20, 21, 22, 23, 24, 25, 26, 27, 28, 29, 30, 31, 32, 33, 34, 35, 36, 37, 38, 39, 40, 41, 42, 43, 44, 45, 46, 47, 48, 49, 50, 51, 52, 53, 54, 55, 56, 57, 58, 59, 60, 61, 62, 63, 64, 65, 66, 67, 68, 69, 70, 71, 72, 73, 74, 75, 76, 77, 78, 79, 80, 81, 82, 83, 84, 85, 86] (by decide +kernel) (by decide +kernel)) (goodIn_sub (fun _ h => List.mem_cons_of_mem _ (List.mem_append_left _ (List.mem_append_left _ (List.mem_append_right _ h)))) (by decide +kernel))) (goodIn_sub (fun _ h => List.mem_cons_of_mem _ (List.mem_append_left _ (List.mem_append_right _ h))) (by decide +kernel))) (goodIn_sub (fun _ h => List.mem_cons_of_mem _ (List.mem_append_right _ h)) (by decide +kernel))
set_option maxRecDepth 20000 in
theorem gL_mounts_X9_mounts : GoodIn wsL_mounts (wsV RL 108 RX9 yX9_mounts wsX9_mounts) := goodIn_app (goodIn_of _ (by decide +kernel)) ggL_mounts_X9_mounts
theorem dL_mounts_0 : decode cL_mounts 0 = .ok (.aload_n 3, 1) := by decide +kernel
theorem dL_mounts_1 : decode cL_mounts 1 = .ok (.iconst 0, 1) := by decide +kernel
theorem dL_mounts_2 : decode cL_mounts 2 = .ok (.aload_n 0, 1) := by decide +kernel
theorem dL_mounts_3 : decode cL_mounts 3 = .ok (.iload_n 1, 1) := by decide +kernel
theorem dL_mounts_4 : decode cL_mounts 4 = .ok (.iload_n 2, 1) := by decide +kernel
theorem dL_mounts_5 : decode cL_mounts 5 = .ok (.invokevirtual 108, 3) := by decide +kernel
theorem dL_mounts_8 : decode cL_mounts 8 = .ok (.i2l, 1) := by decide +kernel
theorem dL_mounts_9 : decode cL_mounts 9 = .ok (.lastore, 1) := by decide +kernel
theorem dL_mounts_10 : decode cL_mounts 10 = .ok (.goto 15, 3) := by decide +kernel
theorem dL_mounts_13 : decode cL_mounts 13 = .ok (.astore 4, 2) := by decide +kernel
theorem dL_mounts_15 : decode cL_mounts 15 = .ok (.iconst 1, 1) := by decide +kernel
theorem dL_mounts_16 : decode cL_mounts 16 = .ok (.ireturn, 1) := by decide +kernel
theorem dL_mounts_17 : decode cL_mounts 17 = .ok (.astore 4, 2) := by decide +kernel
theorem dL_mounts_19 : decode cL_mounts 19 = .ok (.iconst 2, 1) := by decide +kernel
theorem dL_mounts_20 : decode cL_mounts 20 = .ok (.ireturn, 1) := by decide +kernel
theorem dL_mounts_21 : decode cL_mounts 21 = .ok (.astore 4, 2) := by decide +kernel
theorem dL_mounts_23 : decode cL_mounts 23 = .ok (.iconst 3, 1) := by decide +kernel
theorem dL_mounts_24 : decode cL_mounts 24 = .ok (.ireturn, 1) := by decide +kernel
theorem dL_mounts_25 : decode cL_mounts 25 = .ok (.iconst 0, 1) := by decide +kernel
theorem dL_mounts_26 : decode cL_mounts 26 = .ok (.ireturn, 1) := by decide +kernel
set_option maxRecDepth 20000 in
theorem ggL_minutes_X9_minutes : GoodIn wsL_minutes wsX9_minutes := goodIn_ca (goodIn_ca (goodIn_ca (goodIn_r _ [8, 9, 10, 11, 12, 7, 13, 14, 15, 16, 17, 18, 19, 20, 21, 22, 23, 24, 25, 26, 27, 28, 29, 30, 31, 32, 33, 34, 35, 36, 37, 38, 39, 40, 41, 42, 43, 44, 45, 46, 47, 48, 49, 50, 51, 52, 53, 54, 55, 56, 57, 58, 59, 60, 61, 62, 63, 64, 65, 66, 67, 68, 69, 70, 71, 72, 73, 74, 75, 76, 77, 78, 79, 80, 81, 82, 83, 84, 85, 86, 87, 88, 89, 90, 91, 92, 93, 94, 95, 96, 97, 98, 99, 100, 101, 102, 103, 104, 105, 106, 107, 108, 109, 110, 111, 112, 113, 114, 115, 116, 117] (by decide +kernel) (by decide +kernel)) (goodIn_sub (fun _ h => List.mem_cons_of_mem _ (List.mem_append_left _ (List.mem_append_left _ (List.mem_append_right _ h)))) (by decide +kernel))) (goodIn_sub (fun _ h => List.mem_cons_of_mem _ (List.mem_append_left _ (List.mem_append_right _ h))) (by decide +kernel))) (goodIn_sub (fun _ h => List.mem_cons_of_mem _ (List.mem_append_right _ h)) (by decide +kernel))
set_option maxRecDepth 20000 in
theorem gL_minutes_X9_minutes : GoodIn wsL_minutes (wsV RL 111 RX9 yX9_minutes wsX9_minutes) := goodIn_app (goodIn_of _ (by decide +kernel)) ggL_minutes_X9_minutes
theorem dL_minutes_0 : decode cL_minutes 0 = .ok (.aload_n 3, 1) := by decide +kernel
theorem dL_minutes_1 : decode cL_minutes 1 = .ok (.iconst 0, 1) := by decide +kernel
theorem dL_minutes_2 : decode cL_minutes 2 = .ok (.aload_n 0, 1) := by decide +kernel
theorem dL_minutes_3 : decode cL_minutes 3 = .ok (.iload_n 1, 1) := by decide +kernel
theorem dL_minutes_4 : decode cL_minutes 4 = .ok (.iload_n 2, 1) := by decide +kernel
theorem dL_minutes_5 : decode cL_minutes 5 = .ok (.invokevirtual 111, 3) := by decide +kernel
theorem dL_minutes_8 : decode cL_minutes 8 = .ok (.f2d, 1) := by decide +kernel
theorem dL_minutes_9 : decode cL_minutes 9 = .ok (.dastore, 1) := by decide +kernel
theorem dL_minutes_10 : decode cL_minutes 10 = .ok (.goto 15, 3) := by decide +kernel
theorem dL_minutes_13 : decode cL_minutes 13 = .ok (.astore 4, 2) := by decide +kernel
theorem dL_minutes_15 : decode cL_minutes 15 = .ok (.iconst 1, 1) := by decide +kernel
theorem dL_minutes_16 : decode cL_minutes 16 = .ok (.ireturn, 1) := by decide +kernel
theorem dL_minutes_17 : decode cL_minutes 17 = .ok (.astore 4, 2) := by decide +kernel
theorem dL_minutes_19 : decode cL_minutes 19 = .ok (.iconst 2, 1) := by decide +kernel
theorem dL_minutes_20 : decode cL_minutes 20 = .ok (.ireturn, 1) := by decide +kernel
theorem dL_minutes_21 : decode cL_minutes 21 = .ok (.astore 4, 2) := by decide +kernel
theorem dL_minutes_23 : decode cL_minutes 23 = .ok (.iconst 3, 1) := by decide +kernel
theorem dL_minutes_24 : decode cL_minutes 24 = .ok (.ireturn, 1) := by decide +kernel
theorem dL_minutes_25 : decode cL_minutes 25 = .ok (.iconst 0, 1) := by decide +kernel
theorem dL_minutes_26 : decode cL_minutes 26 = .ok (.ireturn, 1) := by decide +kernel
set_option maxRecDepth 20000 in
theorem ggL_hourBits_X9_hourBits : GoodIn wsL_hourBits wsX9_hourBits := goodIn_ca (goodIn_ca (goodIn_ca (goodIn_r _ [8, 9, 10, 11, 12, 13, 7, 14, 15, 16, 17, 18, 19, 20, 21, 22, 23, 24, 25, 26, 27, 28, 29, 30, 31, 32, 33, 34, 35, 36, 37, 38, 39, 40, 41, 42, 43, 44, 45, 46, 47, 48, 49, 50, 51, 52, 53, 54, 55, 56, 57, 58, 59, 60, 61, 62, 63, 64, 65, 66, 67, 68, 69, 70, 71, 72, 73, 74, 75, 76, 77, 78, 79, 80, 81, 82, 83, 84, 85, 86, 87, 88, 89, 90, 91, 92, 93, 94, 95, 96, 97, 98, 99, 100, 101, 102, 103, 104, 105, 106, 107, 108, 109, 110, 111, 112, 113, 114, 115, 116, 117, 118, 119, 120, 121, 122] (by decide +kernel) (by decide +kernel)) (goodIn_sub (fun _ h => List.mem_cons_of_mem _ (List.mem_append_left _ (List.mem_append_left _ (List.mem_append_right _ h)))) (by decide +kernel))) (goodIn_sub (fun _ h => List.mem_cons_of_mem _ (List.mem_append_left _ (List.mem_append_right _ h))) (by decide +kernel))) (goodIn_sub (fun _ h => List.mem_cons_of_mem _ (List.mem_append_right _ h)) (by decide +kernel))
set_option maxRecDepth 20000 in
theorem gL_hourBits_X9_hourBits : GoodIn wsL_hourBits (wsV RL 115 RX9 yX9_hourBits wsX9_hourBits) := goodIn_app (goodIn_of _ (by decide +kernel)) ggL_hourBits_X9_hourBits
theorem dL_hourBits_0 : decode cL_hourBits 0 = .ok (.aload_n 3, 1) := by decide +kernel
theorem dL_hourBits_1 : decode cL_hourBits 1 = .ok (.iconst 0, 1) := by decide +kernel
theorem dL_hourBits_2 : decode cL_hourBits 2 = .ok (.aload_n 0, 1) := by decide +kernel
theorem dL_hourBits_3 : decode cL_hourBits 3 = .ok (.iload_n 1, 1) := by decide +kernel
theorem dL_hourBits_4 : decode cL_hourBits 4 = .ok (.iload_n 2, 1) := by decide +kernel
theorem dL_hourBits_5 : decode cL_hourBits 5 = .ok (.invokevirtual 115, 3) := by decide +kernel
theorem dL_hourBits_8 : decode cL_hourBits 8 = .ok (.i2l, 1) := by decide +kernel
theorem dL_hourBits_9 : decode cL_hourBits 9 = .ok (.lastore, 1) := by decide +kernel
theorem dL_hourBits_10 : decode cL_hourBits 10 = .ok (.goto 15, 3) := by decide +kernel
theorem dL_hourBits_13 : decode cL_hourBits 13 = .ok (.astore 4, 2) := by decide +kernel
theorem dL_hourBits_15 : decode cL_hourBits 15 = .ok (.iconst 1, 1) := by decide +kernel
theorem dL_hourBits_16 : decode cL_hourBits 16 = .ok (.ireturn, 1) := by decide +kernel
theorem dL_hourBits_17 : decode cL_hourBits 17 = .ok (.astore 4, 2) := by decide +kernel
theorem dL_hourBits_19 : decode cL_hourBits 19 = .ok (.iconst 2, 1) := by decide +kernel
theorem dL_hourBits_20 : decode cL_hourBits 20 = .ok (.ireturn, 1) := by decide +kernel
theorem dL_hourBits_21 : decode cL_hourBits 21 = .ok (.astore 4, 2) := by decide +kernel
theorem dL_hourBits_23 : decode cL_hourBits 23 = .ok (.iconst 3, 1) := by decide +kernel
theorem dL_hourBits_24 : decode cL_hourBits 24 = .ok (.ireturn, 1) := by decide +kernel
theorem dL_hourBits_25 : decode cL_hourBits 25 = .ok (.iconst 0, 1) := by decide +kernel
theorem dL_hourBits_26 : decode cL_hourBits 26 = .ok (.ireturn, 1) := by decide +kernel
set_option maxRecDepth 20000 in
theorem ggL_promise_X9_promise : GoodIn wsL_promise wsX9_promise := goodIn_ca (goodIn_r _ [6, 7, 8, 9, 10, 11, 5, 12, 13, 14, 15, 16, 17, 18, 19, 20, 21, 22, 23, 24, 25, 26, 27, 28, 29, 30, 31, 32, 33, 34, 35, 36, 37] (by decide +kernel) (by decide +kernel)) (goodIn_sub (fun _ h => List.mem_cons_of_mem _ (List.mem_append_right _ h)) (by decide +kernel))
set_option maxRecDepth 20000 in
theorem gL_promise_X9_promise : GoodIn wsL_promise (wsV RL 118 RX9 yX9_promise wsX9_promise) := goodIn_app (goodIn_of _ (by decide +kernel)) ggL_promise_X9_promise
theorem dL_promise_0 : decode cL_promise 0 = .ok (.aload_n 0, 1) := by decide +kernel
theorem dL_promise_1 : decode cL_promise 1 = .ok (.iload_n 1, 1) := by decide +kernel
theorem dL_promise_2 : decode cL_promise 2 = .ok (.iload_n 2, 1) := by decide +kernel
theorem dL_promise_3 : decode cL_promise 3 = .ok (.iload_n 3, 1) := by decide +kernel
theorem dL_promise_4 : decode cL_promise 4 = .ok (.invokevirtual 118, 3) := by decide +kernel
theorem dL_promise_7 : decode cL_promise 7 = .ok (.goto 7, 3) := by decide +kernel
theorem dL_promise_10 : decode cL_promise 10 = .ok (.astore 4, 2) := by decide +kernel
theorem dL_promise_12 : decode cL_promise 12 = .ok (.iconst 1, 1) := by decide +kernel
theorem dL_promise_13 : decode cL_promise 13 = .ok (.ireturn, 1) := by decide +kernel
theorem dL_promise_14 : decode cL_promise 14 = .ok (.iconst 0, 1) := by decide +kernel
theorem dL_promise_15 : decode cL_promise 15 = .ok (.ireturn, 1) := by decide +kernel
set_option maxRecDepth 20000 in
theorem ggL_drill_X9_drill : GoodIn wsL_drill wsX9_drill := goodIn_ca (goodIn_ca (goodIn_r _ [7, 8, 9, 10, 11, 12, 13, 14, 15, 6, 16, 17, 18, 19, 20, 21, 22, 23, 24, 25, 26, 27, 28, 29, 30, 31, 32, 33, 34, 35, 36, 37, 38, 39, 40, 41, 42, 43, 44, 45, 46, 47, 48, 49, 50, 51, 52, 53, 54, 55, 56, 57, 58, 59, 60, 61, 62, 63, 64, 65, 66, 67, 68, 69, 70, 71, 72, 73, 74, 75, 76, 77, 78, 79, 80, 81, 82, 83, 84, 85, 86, 87, 88, 89, 90, 91, 92, 93, 94, 95, 96, 97, 98, 99, 100, 101, 102, 103, 104, 105, 106, 107, 108, 109] (by decide +kernel) (by decide +kernel)) (goodIn_sub (fun _ h => List.mem_cons_of_mem _ (List.mem_append_left _ (List.mem_append_right _ h))) (by decide +kernel))) (goodIn_sub (fun _ h => List.mem_cons_of_mem _ (List.mem_append_right _ h)) (by decide +kernel))
set_option maxRecDepth 20000 in
theorem gL_drill_X9_drill : GoodIn wsL_drill (wsV RL 121 RX9 yX9_drill wsX9_drill) := goodIn_app (goodIn_of _ (by decide +kernel)) ggL_drill_X9_drill
theorem dL_drill_0 : decode cL_drill 0 = .ok (.aload_n 2, 1) := by decide +kernel
theorem dL_drill_1 : decode cL_drill 1 = .ok (.iconst 0, 1) := by decide +kernel
theorem dL_drill_2 : decode cL_drill 2 = .ok (.aload_n 0, 1) := by decide +kernel
theorem dL_drill_3 : decode cL_drill 3 = .ok (.iload_n 1, 1) := by decide +kernel
theorem dL_drill_4 : decode cL_drill 4 = .ok (.invokevirtual 121, 3) := by decide +kernel
theorem dL_drill_7 : decode cL_drill 7 = .ok (.i2l, 1) := by decide +kernel
theorem dL_drill_8 : decode cL_drill 8 = .ok (.lastore, 1) := by decide +kernel
theorem dL_drill_9 : decode cL_drill 9 = .ok (.goto 9, 3) := by decide +kernel
theorem dL_drill_12 : decode cL_drill 12 = .ok (.astore_n 3, 1) := by decide +kernel
theorem dL_drill_13 : decode cL_drill 13 = .ok (.iconst 1, 1) := by decide +kernel
theorem dL_drill_14 : decode cL_drill 14 = .ok (.ireturn, 1) := by decide +kernel
theorem dL_drill_15 : decode cL_drill 15 = .ok (.astore_n 3, 1) := by decide +kernel
theorem dL_drill_16 : decode cL_drill 16 = .ok (.iconst 2, 1) := by decide +kernel
theorem dL_drill_17 : decode cL_drill 17 = .ok (.ireturn, 1) := by decide +kernel
theorem dL_drill_18 : decode cL_drill 18 = .ok (.iconst 0, 1) := by decide +kernel
theorem dL_drill_19 : decode cL_drill 19 = .ok (.ireturn, 1) := by decide +kernel
set_option maxRecDepth 20000 in
theorem ggL_paid_X9_paid : GoodIn wsL_paid wsX9_paid := goodIn_ca (goodIn_r _ [6, 7, 8, 9, 10, 5, 11, 12, 13, 14, 15, 16, 17, 18, 19, 20, 21, 22, 23, 24, 25, 26, 27, 28, 29, 30, 31, 32, 33] (by decide +kernel) (by decide +kernel)) (goodIn_sub (fun _ h => List.mem_cons_of_mem _ (List.mem_append_right _ h)) (by decide +kernel))
set_option maxRecDepth 20000 in
theorem gL_paid_X9_paid : GoodIn wsL_paid (wsV RL 124 RX9 yX9_paid wsX9_paid) := goodIn_app (goodIn_of _ (by decide +kernel)) ggL_paid_X9_paid
theorem dL_paid_0 : decode cL_paid 0 = .ok (.aload_n 2, 1) := by decide +kernel
theorem dL_paid_1 : decode cL_paid 1 = .ok (.iconst 0, 1) := by decide +kernel
theorem dL_paid_2 : decode cL_paid 2 = .ok (.aload_n 0, 1) := by decide +kernel
theorem dL_paid_3 : decode cL_paid 3 = .ok (.iload_n 1, 1) := by decide +kernel
theorem dL_paid_4 : decode cL_paid 4 = .ok (.invokevirtual 124, 3) := by decide +kernel
theorem dL_paid_7 : decode cL_paid 7 = .ok (.i2l, 1) := by decide +kernel
theorem dL_paid_8 : decode cL_paid 8 = .ok (.lastore, 1) := by decide +kernel
theorem dL_paid_9 : decode cL_paid 9 = .ok (.goto 6, 3) := by decide +kernel
theorem dL_paid_12 : decode cL_paid 12 = .ok (.astore_n 3, 1) := by decide +kernel
theorem dL_paid_13 : decode cL_paid 13 = .ok (.iconst 1, 1) := by decide +kernel
theorem dL_paid_14 : decode cL_paid 14 = .ok (.ireturn, 1) := by decide +kernel
theorem dL_paid_15 : decode cL_paid 15 = .ok (.iconst 0, 1) := by decide +kernel
theorem dL_paid_16 : decode cL_paid 16 = .ok (.ireturn, 1) := by decide +kernel
set_option maxRecDepth 20000 in
theorem ggL_owed_X9_owed : GoodIn wsL_owed wsX9_owed := goodIn_ca (goodIn_r _ [6, 7, 8, 9, 10, 5, 11, 12, 13, 14, 15, 16, 17, 18, 19, 20, 21, 22, 23, 24, 25, 26, 27, 28, 29, 30, 31, 32, 33] (by decide +kernel) (by decide +kernel)) (goodIn_sub (fun _ h => List.mem_cons_of_mem _ (List.mem_append_right _ h)) (by decide +kernel))
set_option maxRecDepth 20000 in
theorem gL_owed_X9_owed : GoodIn wsL_owed (wsV RL 127 RX9 yX9_owed wsX9_owed) := goodIn_app (goodIn_of _ (by decide +kernel)) ggL_owed_X9_owed
theorem dL_owed_0 : decode cL_owed 0 = .ok (.aload_n 2, 1) := by decide +kernel
theorem dL_owed_1 : decode cL_owed 1 = .ok (.iconst 0, 1) := by decide +kernel
theorem dL_owed_2 : decode cL_owed 2 = .ok (.aload_n 0, 1) := by decide +kernel
theorem dL_owed_3 : decode cL_owed 3 = .ok (.iload_n 1, 1) := by decide +kernel
theorem dL_owed_4 : decode cL_owed 4 = .ok (.invokevirtual 127, 3) := by decide +kernel
theorem dL_owed_7 : decode cL_owed 7 = .ok (.i2l, 1) := by decide +kernel
theorem dL_owed_8 : decode cL_owed 8 = .ok (.lastore, 1) := by decide +kernel
theorem dL_owed_9 : decode cL_owed 9 = .ok (.goto 6, 3) := by decide +kernel
theorem dL_owed_12 : decode cL_owed 12 = .ok (.astore_n 3, 1) := by decide +kernel
theorem dL_owed_13 : decode cL_owed 13 = .ok (.iconst 1, 1) := by decide +kernel
theorem dL_owed_14 : decode cL_owed 14 = .ok (.ireturn, 1) := by decide +kernel
theorem dL_owed_15 : decode cL_owed 15 = .ok (.iconst 0, 1) := by decide +kernel
theorem dL_owed_16 : decode cL_owed 16 = .ok (.ireturn, 1) := by decide +kernel
theorem dL_law_0 : decode cL_law 0 = .ok (.new 8, 3) := by decide +kernel
theorem dL_law_3 : decode cL_law 3 = .ok (.dup, 1) := by decide +kernel
theorem dL_law_4 : decode cL_law 4 = .ok (.invokespecial 130, 3) := by decide +kernel
theorem dL_law_7 : decode cL_law 7 = .ok (.astore_n 1, 1) := by decide +kernel
theorem dL_law_8 : decode cL_law 8 = .ok (.new 131, 3) := by decide +kernel
theorem dL_law_11 : decode cL_law 11 = .ok (.dup, 1) := by decide +kernel
theorem dL_law_12 : decode cL_law 12 = .ok (.invokespecial 133, 3) := by decide +kernel
theorem dL_law_15 : decode cL_law 15 = .ok (.astore_n 2, 1) := by decide +kernel
theorem dL_law_16 : decode cL_law 16 = .ok (.iconst 1, 1) := by decide +kernel
theorem dL_law_17 : decode cL_law 17 = .ok (.newarray .long, 2) := by decide +kernel
theorem dL_law_19 : decode cL_law 19 = .ok (.astore_n 3, 1) := by decide +kernel

