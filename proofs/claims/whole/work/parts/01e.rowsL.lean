theorem dJ9_max_7cf53_0 : decode cJ9_max_7cf53 0 = .ok (.iload_n 0, 1) := by decide +kernel
theorem dJ9_max_7cf53_1 : decode cJ9_max_7cf53 1 = .ok (.iload_n 1, 1) := by decide +kernel
theorem dJ9_max_7cf53_2 : decode cJ9_max_7cf53 2 = .ok (.if_icmp .lt 7, 3) := by decide +kernel
theorem dJ9_max_7cf53_5 : decode cJ9_max_7cf53 5 = .ok (.iload_n 0, 1) := by decide +kernel
theorem dJ9_max_7cf53_6 : decode cJ9_max_7cf53 6 = .ok (.goto 4, 3) := by decide +kernel
theorem dJ9_max_7cf53_9 : decode cJ9_max_7cf53 9 = .ok (.iload_n 1, 1) := by decide +kernel
theorem dJ9_max_7cf53_10 : decode cJ9_max_7cf53 10 = .ok (.ireturn, 1) := by decide +kernel
set_option maxRecDepth 20000 in
theorem ggL_put_X4_put : GoodIn wsL_put wsX4_put := goodIn_ca (goodIn_ca (goodIn_ca (goodIn_r _ [8, 9, 10, 11, 7, 12, 13, 14, 15, 16, 17, 18, 19, 20, 21, 22, 23, 24, 25, 26, 27, 28, 29, 30, 31, 32, 33, 34, 35, 36, 37, 38, 39, 40, 41, 42, 43, 44, 45, 46, 47, 48, 49, 50, 51, 52, 53, 54, 55, 56, 57, 58, 59, 60, 61] (by decide +kernel) (by decide +kernel)) (goodIn_sub (fun _ h => List.mem_cons_of_mem _ (List.mem_append_left _ (List.mem_append_left _ (List.mem_append_right _ h)))) (by decide +kernel))) (goodIn_sub (fun _ h => List.mem_cons_of_mem _ (List.mem_append_left _ (List.mem_append_right _ h))) (by decide +kernel))) (goodIn_sub (fun _ h => List.mem_cons_of_mem _ (List.mem_append_right _ h)) (by decide +kernel))
set_option maxRecDepth 20000 in
theorem gL_put_X4_put : GoodIn wsL_put (wsV RL 7 RX4 yX4_put wsX4_put) := goodIn_app (goodIn_of _ (by decide +kernel)) ggL_put_X4_put
theorem dL_put_0 : decode cL_put 0 = .ok (.aload 6, 2) := by decide +kernel
theorem dL_put_2 : decode cL_put 2 = .ok (.iconst 0, 1) := by decide +kernel
theorem dL_put_3 : decode cL_put 3 = .ok (.aload_n 0, 1) := by decide +kernel
theorem dL_put_4 : decode cL_put 4 = .ok (.iload_n 1, 1) := by decide +kernel
theorem dL_put_5 : decode cL_put 5 = .ok (.iload_n 2, 1) := by decide +kernel
theorem dL_put_6 : decode cL_put 6 = .ok (.iload_n 3, 1) := by decide +kernel
theorem dL_put_7 : decode cL_put 7 = .ok (.iload 4, 2) := by decide +kernel
theorem dL_put_9 : decode cL_put 9 = .ok (.iload 5, 2) := by decide +kernel
theorem dL_put_11 : decode cL_put 11 = .ok (.invokevirtual 7, 3) := by decide +kernel
theorem dL_put_14 : decode cL_put 14 = .ok (.ifCond .eq 7, 3) := by decide +kernel
theorem dL_put_17 : decode cL_put 17 = .ok (.lconst 1, 1) := by decide +kernel
theorem dL_put_18 : decode cL_put 18 = .ok (.goto 4, 3) := by decide +kernel
theorem dL_put_21 : decode cL_put 21 = .ok (.lconst 0, 1) := by decide +kernel
theorem dL_put_22 : decode cL_put 22 = .ok (.lastore, 1) := by decide +kernel
theorem dL_put_23 : decode cL_put 23 = .ok (.goto 15, 3) := by decide +kernel
theorem dL_put_26 : decode cL_put 26 = .ok (.astore 7, 2) := by decide +kernel
theorem dL_put_28 : decode cL_put 28 = .ok (.iconst 1, 1) := by decide +kernel
theorem dL_put_29 : decode cL_put 29 = .ok (.ireturn, 1) := by decide +kernel
theorem dL_put_30 : decode cL_put 30 = .ok (.astore 7, 2) := by decide +kernel
theorem dL_put_32 : decode cL_put 32 = .ok (.iconst 2, 1) := by decide +kernel
theorem dL_put_33 : decode cL_put 33 = .ok (.ireturn, 1) := by decide +kernel
theorem dL_put_34 : decode cL_put 34 = .ok (.astore 7, 2) := by decide +kernel
theorem dL_put_36 : decode cL_put 36 = .ok (.iconst 3, 1) := by decide +kernel
theorem dL_put_37 : decode cL_put 37 = .ok (.ireturn, 1) := by decide +kernel
theorem dL_put_38 : decode cL_put 38 = .ok (.iconst 0, 1) := by decide +kernel
theorem dL_put_39 : decode cL_put 39 = .ok (.ireturn, 1) := by decide +kernel
set_option maxRecDepth 20000 in
theorem ggL_take_X4_take : GoodIn wsL_take wsX4_take := goodIn_ca (goodIn_ca (goodIn_r _ [7, 8, 9, 10, 11, 12, 6, 13, 14, 15, 16, 17, 18, 19, 20, 21, 22, 23, 24, 25, 26, 27, 28, 29, 30, 31, 32, 33, 34, 35, 36, 37, 38, 39, 40, 41, 42, 43, 44, 45, 46, 47, 48, 49, 50, 51, 52] (by decide +kernel) (by decide +kernel)) (goodIn_sub (fun _ h => List.mem_cons_of_mem _ (List.mem_append_left _ (List.mem_append_right _ h))) (by decide +kernel))) (goodIn_sub (fun _ h => List.mem_cons_of_mem _ (List.mem_append_right _ h)) (by decide +kernel))
set_option maxRecDepth 20000 in
theorem gL_take_X4_take : GoodIn wsL_take (wsV RL 19 RX4 yX4_take wsX4_take) := goodIn_app (goodIn_of _ (by decide +kernel)) ggL_take_X4_take
theorem dL_take_0 : decode cL_take 0 = .ok (.aload_n 0, 1) := by decide +kernel
theorem dL_take_1 : decode cL_take 1 = .ok (.iload_n 1, 1) := by decide +kernel
theorem dL_take_2 : decode cL_take 2 = .ok (.iload_n 2, 1) := by decide +kernel
theorem dL_take_3 : decode cL_take 3 = .ok (.invokevirtual 19, 3) := by decide +kernel
theorem dL_take_6 : decode cL_take 6 = .ok (.goto 9, 3) := by decide +kernel
theorem dL_take_9 : decode cL_take 9 = .ok (.astore_n 3, 1) := by decide +kernel
theorem dL_take_10 : decode cL_take 10 = .ok (.iconst 1, 1) := by decide +kernel
theorem dL_take_11 : decode cL_take 11 = .ok (.ireturn, 1) := by decide +kernel
theorem dL_take_12 : decode cL_take 12 = .ok (.astore_n 3, 1) := by decide +kernel
theorem dL_take_13 : decode cL_take 13 = .ok (.iconst 2, 1) := by decide +kernel
theorem dL_take_14 : decode cL_take 14 = .ok (.ireturn, 1) := by decide +kernel
theorem dL_take_15 : decode cL_take 15 = .ok (.iconst 0, 1) := by decide +kernel
theorem dL_take_16 : decode cL_take 16 = .ok (.ireturn, 1) := by decide +kernel
set_option maxRecDepth 20000 in
theorem ggL_truncate_X4_truncate : GoodIn wsL_truncate wsX4_truncate := goodIn_ca (goodIn_ca (goodIn_r _ [7, 8, 9, 10, 6, 11, 12, 13, 14, 15, 16, 17, 18, 19, 20, 21, 22, 23, 24, 25, 26, 27, 28, 29, 30, 31, 32, 33, 34, 35, 36, 37, 38, 39, 40, 41, 42, 43, 44, 45, 46, 47, 48, 49] (by decide +kernel) (by decide +kernel)) (goodIn_sub (fun _ h => List.mem_cons_of_mem _ (List.mem_append_left _ (List.mem_append_right _ h))) (by decide +kernel))) (goodIn_sub (fun _ h => List.mem_cons_of_mem _ (List.mem_append_right _ h)) (by decide +kernel))
set_option maxRecDepth 20000 in
theorem gL_truncate_X4_truncate : GoodIn wsL_truncate (wsV RL 23 RX4 yX4_truncate wsX4_truncate) := goodIn_app (goodIn_of _ (by decide +kernel)) ggL_truncate_X4_truncate
theorem dL_truncate_0 : decode cL_truncate 0 = .ok (.aload_n 2, 1) := by decide +kernel
theorem dL_truncate_1 : decode cL_truncate 1 = .ok (.iconst 0, 1) := by decide +kernel
theorem dL_truncate_2 : decode cL_truncate 2 = .ok (.aload_n 0, 1) := by decide +kernel
theorem dL_truncate_3 : decode cL_truncate 3 = .ok (.iload_n 1, 1) := by decide +kernel
theorem dL_truncate_4 : decode cL_truncate 4 = .ok (.invokevirtual 23, 3) := by decide +kernel
theorem dL_truncate_7 : decode cL_truncate 7 = .ok (.i2l, 1) := by decide +kernel
theorem dL_truncate_8 : decode cL_truncate 8 = .ok (.lastore, 1) := by decide +kernel
theorem dL_truncate_9 : decode cL_truncate 9 = .ok (.goto 9, 3) := by decide +kernel
theorem dL_truncate_12 : decode cL_truncate 12 = .ok (.astore_n 3, 1) := by decide +kernel
theorem dL_truncate_13 : decode cL_truncate 13 = .ok (.iconst 1, 1) := by decide +kernel
theorem dL_truncate_14 : decode cL_truncate 14 = .ok (.ireturn, 1) := by decide +kernel
theorem dL_truncate_15 : decode cL_truncate 15 = .ok (.astore_n 3, 1) := by decide +kernel
theorem dL_truncate_16 : decode cL_truncate 16 = .ok (.iconst 2, 1) := by decide +kernel
theorem dL_truncate_17 : decode cL_truncate 17 = .ok (.ireturn, 1) := by decide +kernel
theorem dL_truncate_18 : decode cL_truncate 18 = .ok (.iconst 0, 1) := by decide +kernel
theorem dL_truncate_19 : decode cL_truncate 19 = .ok (.ireturn, 1) := by decide +kernel
set_option maxRecDepth 20000 in
theorem ggL_commit_X4_commit : GoodIn wsL_commit wsX4_commit := goodIn_ca (goodIn_r _ [6, 7, 8, 9, 10, 11, 12, 13, 14, 15, 16, 17, 18, 19, 20, 21, 22, 23, 24, 5, 25, 26, 27, 28, 29, 30, 31, 32, 33, 34, 35, 36, 37, 38, 39, 40, 41, 42, 43, 44, 45, 46, 47, 48, 49, 50, 51, 52, 53, 54, 55] (by decide +kernel) (by decide +kernel)) (goodIn_sub (fun _ h => List.mem_cons_of_mem _ (List.mem_append_right _ h)) (by decide +kernel))
set_option maxRecDepth 20000 in
theorem gL_commit_X4_commit : GoodIn wsL_commit (wsV RL 27 RX4 yX4_commit wsX4_commit) := goodIn_app (goodIn_of _ (by decide +kernel)) ggL_commit_X4_commit
theorem dL_commit_0 : decode cL_commit 0 = .ok (.aload_n 1, 1) := by decide +kernel
theorem dL_commit_1 : decode cL_commit 1 = .ok (.iconst 0, 1) := by decide +kernel
theorem dL_commit_2 : decode cL_commit 2 = .ok (.aload_n 0, 1) := by decide +kernel
theorem dL_commit_3 : decode cL_commit 3 = .ok (.invokevirtual 27, 3) := by decide +kernel
theorem dL_commit_6 : decode cL_commit 6 = .ok (.i2l, 1) := by decide +kernel
theorem dL_commit_7 : decode cL_commit 7 = .ok (.lastore, 1) := by decide +kernel
theorem dL_commit_8 : decode cL_commit 8 = .ok (.goto 6, 3) := by decide +kernel
theorem dL_commit_11 : decode cL_commit 11 = .ok (.astore_n 2, 1) := by decide +kernel
theorem dL_commit_12 : decode cL_commit 12 = .ok (.iconst 1, 1) := by decide +kernel
theorem dL_commit_13 : decode cL_commit 13 = .ok (.ireturn, 1) := by decide +kernel
theorem dL_commit_14 : decode cL_commit 14 = .ok (.iconst 0, 1) := by decide +kernel
theorem dL_commit_15 : decode cL_commit 15 = .ok (.ireturn, 1) := by decide +kernel
set_option maxRecDepth 20000 in
theorem ggL_at_X4_at : GoodIn wsL_at wsX4_at := goodIn_ca (goodIn_r _ [6, 7, 8, 9, 5, 10, 11, 12, 13, 14, 15, 16, 17, 18, 19, 20, 21, 22, 23, 24, 25, 26, 27, 28, 29, 30, 31, 32, 33, 34, 35, 36] (by decide +kernel) (by decide +kernel)) (goodIn_sub (fun _ h => List.mem_cons_of_mem _ (List.mem_append_right _ h)) (by decide +kernel))
set_option maxRecDepth 20000 in
theorem gL_at_X4_at : GoodIn wsL_at (wsV RL 31 RX4 yX4_at wsX4_at) := goodIn_app (goodIn_of _ (by decide +kernel)) ggL_at_X4_at
theorem dL_at_0 : decode cL_at 0 = .ok (.aload 4, 2) := by decide +kernel
theorem dL_at_2 : decode cL_at 2 = .ok (.iconst 0, 1) := by decide +kernel
theorem dL_at_3 : decode cL_at 3 = .ok (.aload_n 0, 1) := by decide +kernel
theorem dL_at_4 : decode cL_at 4 = .ok (.iload_n 1, 1) := by decide +kernel
theorem dL_at_5 : decode cL_at 5 = .ok (.iload_n 2, 1) := by decide +kernel
theorem dL_at_6 : decode cL_at 6 = .ok (.iload_n 3, 1) := by decide +kernel
theorem dL_at_7 : decode cL_at 7 = .ok (.invokevirtual 31, 3) := by decide +kernel
theorem dL_at_10 : decode cL_at 10 = .ok (.i2l, 1) := by decide +kernel
theorem dL_at_11 : decode cL_at 11 = .ok (.lastore, 1) := by decide +kernel
theorem dL_at_12 : decode cL_at 12 = .ok (.goto 7, 3) := by decide +kernel
theorem dL_at_15 : decode cL_at 15 = .ok (.astore 5, 2) := by decide +kernel
theorem dL_at_17 : decode cL_at 17 = .ok (.iconst 1, 1) := by decide +kernel
theorem dL_at_18 : decode cL_at 18 = .ok (.ireturn, 1) := by decide +kernel
theorem dL_at_19 : decode cL_at 19 = .ok (.iconst 0, 1) := by decide +kernel
theorem dL_at_20 : decode cL_at 20 = .ok (.ireturn, 1) := by decide +kernel
set_option maxRecDepth 20000 in
theorem ggL_setLimit_X4_setLimit : GoodIn wsL_setLimit wsX4_setLimit := goodIn_ca (goodIn_r _ [6, 7, 8, 9, 10, 11, 12, 5, 13, 14, 15, 16, 17, 18, 19, 20, 21, 22, 23, 24, 25, 26, 27, 28, 29, 30, 31, 32, 33, 34, 35, 36, 37, 38, 39, 40, 41, 42, 43] (by decide +kernel) (by decide +kernel)) (goodIn_sub (fun _ h => List.mem_cons_of_mem _ (List.mem_append_right _ h)) (by decide +kernel))
set_option maxRecDepth 20000 in
theorem gL_setLimit_X4_setLimit : GoodIn wsL_setLimit (wsV RL 35 RX4 yX4_setLimit wsX4_setLimit) := goodIn_app (goodIn_of _ (by decide +kernel)) ggL_setLimit_X4_setLimit
theorem dL_setLimit_0 : decode cL_setLimit 0 = .ok (.aload_n 2, 1) := by decide +kernel
theorem dL_setLimit_1 : decode cL_setLimit 1 = .ok (.iconst 0, 1) := by decide +kernel
theorem dL_setLimit_2 : decode cL_setLimit 2 = .ok (.aload_n 0, 1) := by decide +kernel
theorem dL_setLimit_3 : decode cL_setLimit 3 = .ok (.iload_n 1, 1) := by decide +kernel
theorem dL_setLimit_4 : decode cL_setLimit 4 = .ok (.invokevirtual 35, 3) := by decide +kernel
theorem dL_setLimit_7 : decode cL_setLimit 7 = .ok (.i2l, 1) := by decide +kernel
theorem dL_setLimit_8 : decode cL_setLimit 8 = .ok (.lastore, 1) := by decide +kernel
theorem dL_setLimit_9 : decode cL_setLimit 9 = .ok (.goto 6, 3) := by decide +kernel
theorem dL_setLimit_12 : decode cL_setLimit 12 = .ok (.astore_n 3, 1) := by decide +kernel
theorem dL_setLimit_13 : decode cL_setLimit 13 = .ok (.iconst 1, 1) := by decide +kernel
theorem dL_setLimit_14 : decode cL_setLimit 14 = .ok (.ireturn, 1) := by decide +kernel
theorem dL_setLimit_15 : decode cL_setLimit 15 = .ok (.iconst 0, 1) := by decide +kernel
theorem dL_setLimit_16 : decode cL_setLimit 16 = .ok (.ireturn, 1) := by decide +kernel
set_option maxRecDepth 20000 in
theorem ggL_setCondition_X4_setCondition : GoodIn wsL_setCondition wsX4_setCondition := goodIn_ca (goodIn_ca (goodIn_r _ [7, 8, 9, 10, 11, 12, 6, 13, 14, 15, 16, 17, 18, 19, 20, 21, 22, 23, 24, 25, 26, 27, 28, 29, 30, 31, 32, 33, 34, 35, 36, 37, 38, 39, 40, 41, 42, 43] (by decide +kernel) (by decide +kernel)) (goodIn_sub (fun _ h => List.mem_cons_of_mem _ (List.mem_append_left _ (List.mem_append_right _ h))) (by decide +kernel))) (goodIn_sub (fun _ h => List.mem_cons_of_mem _ (List.mem_append_right _ h)) (by decide +kernel))
set_option maxRecDepth 20000 in
theorem gL_setCondition_X4_setCondition : GoodIn wsL_setCondition (wsV RL 38 RX4 yX4_setCondition wsX4_setCondition) := goodIn_app (goodIn_of _ (by decide +kernel)) ggL_setCondition_X4_setCondition
theorem dL_setCondition_0 : decode cL_setCondition 0 = .ok (.aload 6, 2) := by decide +kernel
theorem dL_setCondition_2 : decode cL_setCondition 2 = .ok (.iconst 0, 1) := by decide +kernel
theorem dL_setCondition_3 : decode cL_setCondition 3 = .ok (.aload_n 0, 1) := by decide +kernel
theorem dL_setCondition_4 : decode cL_setCondition 4 = .ok (.iload_n 1, 1) := by decide +kernel
theorem dL_setCondition_5 : decode cL_setCondition 5 = .ok (.iload_n 2, 1) := by decide +kernel
theorem dL_setCondition_6 : decode cL_setCondition 6 = .ok (.iload_n 3, 1) := by decide +kernel
theorem dL_setCondition_7 : decode cL_setCondition 7 = .ok (.iload 4, 2) := by decide +kernel
theorem dL_setCondition_9 : decode cL_setCondition 9 = .ok (.iload 5, 2) := by decide +kernel
theorem dL_setCondition_11 : decode cL_setCondition 11 = .ok (.invokevirtual 38, 3) := by decide +kernel
theorem dL_setCondition_14 : decode cL_setCondition 14 = .ok (.i2l, 1) := by decide +kernel
theorem dL_setCondition_15 : decode cL_setCondition 15 = .ok (.lastore, 1) := by decide +kernel
theorem dL_setCondition_16 : decode cL_setCondition 16 = .ok (.goto 11, 3) := by decide +kernel
theorem dL_setCondition_19 : decode cL_setCondition 19 = .ok (.astore 7, 2) := by decide +kernel
theorem dL_setCondition_21 : decode cL_setCondition 21 = .ok (.iconst 1, 1) := by decide +kernel
theorem dL_setCondition_22 : decode cL_setCondition 22 = .ok (.ireturn, 1) := by decide +kernel
theorem dL_setCondition_23 : decode cL_setCondition 23 = .ok (.astore 7, 2) := by decide +kernel
theorem dL_setCondition_25 : decode cL_setCondition 25 = .ok (.iconst 2, 1) := by decide +kernel
theorem dL_setCondition_26 : decode cL_setCondition 26 = .ok (.ireturn, 1) := by decide +kernel
theorem dL_setCondition_27 : decode cL_setCondition 27 = .ok (.iconst 0, 1) := by decide +kernel
theorem dL_setCondition_28 : decode cL_setCondition 28 = .ok (.ireturn, 1) := by decide +kernel
set_option maxRecDepth 20000 in
theorem ggL_setColumns_X4_setColumns : GoodIn wsL_setColumns wsX4_setColumns := goodIn_ca (goodIn_ca (goodIn_r _ [7, 8, 9, 10, 11, 12, 6, 13, 14, 15, 16, 17, 18, 19, 20, 21, 22, 23, 24, 25, 26, 27, 28, 29, 30, 31, 32, 33, 34, 35, 36, 37, 38, 39, 40] (by decide +kernel) (by decide +kernel)) (goodIn_sub (fun _ h => List.mem_cons_of_mem _ (List.mem_append_left _ (List.mem_append_right _ h))) (by decide +kernel))) (goodIn_sub (fun _ h => List.mem_cons_of_mem _ (List.mem_append_right _ h)) (by decide +kernel))
set_option maxRecDepth 20000 in
theorem gL_setColumns_X4_setColumns : GoodIn wsL_setColumns (wsV RL 42 RX4 yX4_setColumns wsX4_setColumns) := goodIn_app (goodIn_of _ (by decide +kernel)) ggL_setColumns_X4_setColumns
theorem dL_setColumns_0 : decode cL_setColumns 0 = .ok (.aload 4, 2) := by decide +kernel
theorem dL_setColumns_2 : decode cL_setColumns 2 = .ok (.iconst 0, 1) := by decide +kernel
theorem dL_setColumns_3 : decode cL_setColumns 3 = .ok (.aload_n 0, 1) := by decide +kernel
theorem dL_setColumns_4 : decode cL_setColumns 4 = .ok (.iload_n 1, 1) := by decide +kernel
theorem dL_setColumns_5 : decode cL_setColumns 5 = .ok (.iload_n 2, 1) := by decide +kernel
theorem dL_setColumns_6 : decode cL_setColumns 6 = .ok (.iload_n 3, 1) := by decide +kernel
theorem dL_setColumns_7 : decode cL_setColumns 7 = .ok (.invokevirtual 42, 3) := by decide +kernel
theorem dL_setColumns_10 : decode cL_setColumns 10 = .ok (.i2l, 1) := by decide +kernel
theorem dL_setColumns_11 : decode cL_setColumns 11 = .ok (.lastore, 1) := by decide +kernel
theorem dL_setColumns_12 : decode cL_setColumns 12 = .ok (.goto 11, 3) := by decide +kernel
theorem dL_setColumns_15 : decode cL_setColumns 15 = .ok (.astore 5, 2) := by decide +kernel
theorem dL_setColumns_17 : decode cL_setColumns 17 = .ok (.iconst 1, 1) := by decide +kernel
theorem dL_setColumns_18 : decode cL_setColumns 18 = .ok (.ireturn, 1) := by decide +kernel
theorem dL_setColumns_19 : decode cL_setColumns 19 = .ok (.astore 5, 2) := by decide +kernel
theorem dL_setColumns_21 : decode cL_setColumns 21 = .ok (.iconst 2, 1) := by decide +kernel
theorem dL_setColumns_22 : decode cL_setColumns 22 = .ok (.ireturn, 1) := by decide +kernel
theorem dL_setColumns_23 : decode cL_setColumns 23 = .ok (.iconst 0, 1) := by decide +kernel
theorem dL_setColumns_24 : decode cL_setColumns 24 = .ok (.ireturn, 1) := by decide +kernel
set_option maxRecDepth 20000 in
theorem ggL_subscribe_X4_subscribe : GoodIn wsL_subscribe wsX4_subscribe := goodIn_ca (goodIn_r _ [6, 7, 8, 9, 10, 11, 5, 12, 13, 14, 15, 16, 17, 18, 19, 20, 21, 22, 23, 24, 25, 26, 27, 28, 29, 30, 31, 32, 33, 34, 35, 36, 37, 38, 39, 40, 41, 42, 43, 44, 45, 46, 47] (by decide +kernel) (by decide +kernel)) (goodIn_sub (fun _ h => List.mem_cons_of_mem _ (List.mem_append_right _ h)) (by decide +kernel))
set_option maxRecDepth 20000 in
theorem gL_subscribe_X4_subscribe : GoodIn wsL_subscribe (wsV RL 45 RX4 yX4_subscribe wsX4_subscribe) := goodIn_app (goodIn_of _ (by decide +kernel)) ggL_subscribe_X4_subscribe
theorem dL_subscribe_0 : decode cL_subscribe 0 = .ok (.aload_n 3, 1) := by decide +kernel
theorem dL_subscribe_1 : decode cL_subscribe 1 = .ok (.iconst 0, 1) := by decide +kernel
theorem dL_subscribe_2 : decode cL_subscribe 2 = .ok (.aload_n 0, 1) := by decide +kernel
theorem dL_subscribe_3 : decode cL_subscribe 3 = .ok (.iload_n 1, 1) := by decide +kernel
theorem dL_subscribe_4 : decode cL_subscribe 4 = .ok (.iload_n 2, 1) := by decide +kernel
theorem dL_subscribe_5 : decode cL_subscribe 5 = .ok (.invokevirtual 45, 3) := by decide +kernel
theorem dL_subscribe_8 : decode cL_subscribe 8 = .ok (.i2l, 1) := by decide +kernel
theorem dL_subscribe_9 : decode cL_subscribe 9 = .ok (.lastore, 1) := by decide +kernel
theorem dL_subscribe_10 : decode cL_subscribe 10 = .ok (.goto 7, 3) := by decide +kernel
theorem dL_subscribe_13 : decode cL_subscribe 13 = .ok (.astore 4, 2) := by decide +kernel
theorem dL_subscribe_15 : decode cL_subscribe 15 = .ok (.iconst 1, 1) := by decide +kernel
theorem dL_subscribe_16 : decode cL_subscribe 16 = .ok (.ireturn, 1) := by decide +kernel
theorem dL_subscribe_17 : decode cL_subscribe 17 = .ok (.iconst 0, 1) := by decide +kernel
theorem dL_subscribe_18 : decode cL_subscribe 18 = .ok (.ireturn, 1) := by decide +kernel
set_option maxRecDepth 20000 in
theorem ggL_drop_X4_drop : GoodIn wsL_drop wsX4_drop := goodIn_ca (goodIn_r _ [6, 7, 8, 9, 5, 10, 11, 12, 13, 14, 15, 16, 17, 18, 19, 20, 21, 22, 23, 24, 25, 26, 27, 28, 29, 30, 31, 32, 33, 34] (by decide +kernel) (by decide +kernel)) (goodIn_sub (fun _ h => List.mem_cons_of_mem _ (List.mem_append_right _ h)) (by decide +kernel))
set_option maxRecDepth 20000 in
theorem gL_drop_X4_drop : GoodIn wsL_drop (wsV RL 49 RX4 yX4_drop wsX4_drop) := goodIn_app (goodIn_of _ (by decide +kernel)) ggL_drop_X4_drop
theorem dL_drop_0 : decode cL_drop 0 = .ok (.aload_n 2, 1) := by decide +kernel
theorem dL_drop_1 : decode cL_drop 1 = .ok (.iconst 0, 1) := by decide +kernel
theorem dL_drop_2 : decode cL_drop 2 = .ok (.aload_n 0, 1) := by decide +kernel
theorem dL_drop_3 : decode cL_drop 3 = .ok (.iload_n 1, 1) := by decide +kernel
theorem dL_drop_4 : decode cL_drop 4 = .ok (.invokevirtual 49, 3) := by decide +kernel
theorem dL_drop_7 : decode cL_drop 7 = .ok (.i2l, 1) := by decide +kernel
theorem dL_drop_8 : decode cL_drop 8 = .ok (.lastore, 1) := by decide +kernel
theorem dL_drop_9 : decode cL_drop 9 = .ok (.goto 6, 3) := by decide +kernel
theorem dL_drop_12 : decode cL_drop 12 = .ok (.astore_n 3, 1) := by decide +kernel
theorem dL_drop_13 : decode cL_drop 13 = .ok (.iconst 1, 1) := by decide +kernel
theorem dL_drop_14 : decode cL_drop 14 = .ok (.ireturn, 1) := by decide +kernel
theorem dL_drop_15 : decode cL_drop 15 = .ok (.iconst 0, 1) := by decide +kernel
theorem dL_drop_16 : decode cL_drop 16 = .ok (.ireturn, 1) := by decide +kernel
set_option maxRecDepth 20000 in
theorem ggL_copy_X4_copy : GoodIn wsL_copy wsX4_copy := goodIn_ca (goodIn_ca (goodIn_r _ [7, 8, 9, 10, 11, 12, 13, 6, 14, 15, 16, 17, 18, 19, 20, 21, 22, 23, 24, 25, 26, 27, 28, 29, 30, 31, 32, 33, 34, 35, 36, 37, 38, 39, 40, 41, 42, 43, 44, 45, 46, 47, 48, 49, 50, 51, 52, 53, 54, 55, 56, 57, 58, 59, 60, 61, 62, 63, 64, 65] (by decide +kernel) (by decide +kernel)) (goodIn_sub (fun _ h => List.mem_cons_of_mem _ (List.mem_append_left _ (List.mem_append_right _ h))) (by decide +kernel))) (goodIn_sub (fun _ h => List.mem_cons_of_mem _ (List.mem_append_right _ h)) (by decide +kernel))
set_option maxRecDepth 20000 in
theorem gL_copy_X4_copy : GoodIn wsL_copy (wsV RL 52 RX4 yX4_copy wsX4_copy) := goodIn_app (goodIn_of _ (by decide +kernel)) ggL_copy_X4_copy
theorem dL_copy_0 : decode cL_copy 0 = .ok (.aload_n 3, 1) := by decide +kernel
theorem dL_copy_1 : decode cL_copy 1 = .ok (.iconst 0, 1) := by decide +kernel
theorem dL_copy_2 : decode cL_copy 2 = .ok (.aload_n 0, 1) := by decide +kernel
theorem dL_copy_3 : decode cL_copy 3 = .ok (.iload_n 1, 1) := by decide +kernel
theorem dL_copy_4 : decode cL_copy 4 = .ok (.iload_n 2, 1) := by decide +kernel
theorem dL_copy_5 : decode cL_copy 5 = .ok (.invokevirtual 52, 3) := by decide +kernel
theorem dL_copy_8 : decode cL_copy 8 = .ok (.i2l, 1) := by decide +kernel
theorem dL_copy_9 : decode cL_copy 9 = .ok (.lastore, 1) := by decide +kernel
theorem dL_copy_10 : decode cL_copy 10 = .ok (.goto 11, 3) := by decide +kernel
theorem dL_copy_13 : decode cL_copy 13 = .ok (.astore 4, 2) := by decide +kernel
theorem dL_copy_15 : decode cL_copy 15 = .ok (.iconst 1, 1) := by decide +kernel
theorem dL_copy_16 : decode cL_copy 16 = .ok (.ireturn, 1) := by decide +kernel
theorem dL_copy_17 : decode cL_copy 17 = .ok (.astore 4, 2) := by decide +kernel
theorem dL_copy_19 : decode cL_copy 19 = .ok (.iconst 2, 1) := by decide +kernel
theorem dL_copy_20 : decode cL_copy 20 = .ok (.ireturn, 1) := by decide +kernel
theorem dL_copy_21 : decode cL_copy 21 = .ok (.iconst 0, 1) := by decide +kernel
theorem dL_copy_22 : decode cL_copy 22 = .ok (.ireturn, 1) := by decide +kernel
set_option maxRecDepth 20000 in
theorem ggL_receive_X4_receive : GoodIn wsL_receive wsX4_receive := goodIn_ca (goodIn_ca (goodIn_ca (goodIn_r _ [8, 9, 10, 11, 12, 13, 14, 15, 16, 17, 7, 18, 19, 20, 21, 22, 23, 24, 25, 26, 27, 28, 29, 30, 31, 32, 33, 34, 35, 36, 37, 38, 39, 40, 41, 42, 43, 44, 45, 46, 47, 48, 49, 50, 51, 52, 53, 54, 55, 56, 57, 58, 59, 60, 61, 62, 63, 64, 65, 66, 67, 68, 69, 70, 71, 72, 73, 74, 75, 76, 77, 78, 79, 80, 81, 82, 83, 84, 85, 86, 87, 88, 89, 90, 91, 92] (by decide +kernel) (by decide +kernel)) (goodIn_sub (fun _ h => List.mem_cons_of_mem _ (List.mem_append_left _ (List.mem_append_left _ (List.mem_append_right _ h)))) (by decide +kernel))) (goodIn_sub (fun _ h => List.mem_cons_of_mem _ (List.mem_append_left _ (List.mem_append_right _ h))) (by decide +kernel))) (goodIn_sub (fun _ h => List.mem_cons_of_mem _ (List.mem_append_right _ h)) (by decide +kernel))
set_option maxRecDepth 20000 in
theorem gL_receive_X4_receive : GoodIn wsL_receive (wsV RL 55 RX4 yX4_receive wsX4_receive) := goodIn_app (goodIn_of _ (by decide +kernel)) ggL_receive_X4_receive
theorem dL_receive_0 : decode cL_receive 0 = .ok (.aload_n 3, 1) := by decide +kernel
theorem dL_receive_1 : decode cL_receive 1 = .ok (.iconst 0, 1) := by decide +kernel
theorem dL_receive_2 : decode cL_receive 2 = .ok (.aload_n 0, 1) := by decide +kernel
theorem dL_receive_3 : decode cL_receive 3 = .ok (.iload_n 1, 1) := by decide +kernel
theorem dL_receive_4 : decode cL_receive 4 = .ok (.iload_n 2, 1) := by decide +kernel
theorem dL_receive_5 : decode cL_receive 5 = .ok (.invokevirtual 55, 3) := by decide +kernel
theorem dL_receive_8 : decode cL_receive 8 = .ok (.i2l, 1) := by decide +kernel
theorem dL_receive_9 : decode cL_receive 9 = .ok (.lastore, 1) := by decide +kernel
theorem dL_receive_10 : decode cL_receive 10 = .ok (.goto 15, 3) := by decide +kernel
theorem dL_receive_13 : decode cL_receive 13 = .ok (.astore 4, 2) := by decide +kernel
theorem dL_receive_15 : decode cL_receive 15 = .ok (.iconst 1, 1) := by decide +kernel
theorem dL_receive_16 : decode cL_receive 16 = .ok (.ireturn, 1) := by decide +kernel
theorem dL_receive_17 : decode cL_receive 17 = .ok (.astore 4, 2) := by decide +kernel
theorem dL_receive_19 : decode cL_receive 19 = .ok (.iconst 2, 1) := by decide +kernel
theorem dL_receive_20 : decode cL_receive 20 = .ok (.ireturn, 1) := by decide +kernel
theorem dL_receive_21 : decode cL_receive 21 = .ok (.astore 4, 2) := by decide +kernel
theorem dL_receive_23 : decode cL_receive 23 = .ok (.iconst 3, 1) := by decide +kernel
theorem dL_receive_24 : decode cL_receive 24 = .ok (.ireturn, 1) := by decide +kernel
theorem dL_receive_25 : decode cL_receive 25 = .ok (.iconst 0, 1) := by decide +kernel
theorem dL_receive_26 : decode cL_receive 26 = .ok (.ireturn, 1) := by decide +kernel
set_option maxRecDepth 20000 in
theorem ggL_goOn_X4_goOn : GoodIn wsL_goOn wsX4_goOn := goodIn_ca (goodIn_ca (goodIn_r _ [7, 8, 9, 10, 11, 12, 13, 6, 14, 15, 16, 17, 18, 19, 20, 21, 22, 23, 24, 25, 26, 27, 28, 29, 30, 31, 32, 33] (by decide +kernel) (by decide +kernel)) (goodIn_sub (fun _ h => List.mem_cons_of_mem _ (List.mem_append_left _ (List.mem_append_right _ h))) (by decide +kernel))) (goodIn_sub (fun _ h => List.mem_cons_of_mem _ (List.mem_append_right _ h)) (by decide +kernel))
set_option maxRecDepth 20000 in
theorem gL_goOn_X4_goOn : GoodIn wsL_goOn (wsV RL 58 RX4 yX4_goOn wsX4_goOn) := goodIn_app (goodIn_of _ (by decide +kernel)) ggL_goOn_X4_goOn
theorem dL_goOn_0 : decode cL_goOn 0 = .ok (.aload_n 3, 1) := by decide +kernel
theorem dL_goOn_1 : decode cL_goOn 1 = .ok (.iconst 0, 1) := by decide +kernel
theorem dL_goOn_2 : decode cL_goOn 2 = .ok (.aload_n 0, 1) := by decide +kernel
theorem dL_goOn_3 : decode cL_goOn 3 = .ok (.iload_n 1, 1) := by decide +kernel
theorem dL_goOn_4 : decode cL_goOn 4 = .ok (.iload_n 2, 1) := by decide +kernel
theorem dL_goOn_5 : decode cL_goOn 5 = .ok (.invokevirtual 58, 3) := by decide +kernel
theorem dL_goOn_8 : decode cL_goOn 8 = .ok (.i2l, 1) := by decide +kernel
theorem dL_goOn_9 : decode cL_goOn 9 = .ok (.lastore, 1) := by decide +kernel
theorem dL_goOn_10 : decode cL_goOn 10 = .ok (.goto 11, 3) := by decide +kernel
theorem dL_goOn_13 : decode cL_goOn 13 = .ok (.astore 4, 2) := by decide +kernel
theorem dL_goOn_15 : decode cL_goOn 15 = .ok (.iconst 1, 1) := by decide +kernel
theorem dL_goOn_16 : decode cL_goOn 16 = .ok (.ireturn, 1) := by decide +kernel
theorem dL_goOn_17 : decode cL_goOn 17 = .ok (.astore 4, 2) := by decide +kernel
theorem dL_goOn_19 : decode cL_goOn 19 = .ok (.iconst 2, 1) := by decide +kernel
theorem dL_goOn_20 : decode cL_goOn 20 = .ok (.ireturn, 1) := by decide +kernel
theorem dL_goOn_21 : decode cL_goOn 21 = .ok (.iconst 0, 1) := by decide +kernel
theorem dL_goOn_22 : decode cL_goOn 22 = .ok (.ireturn, 1) := by decide +kernel
set_option maxRecDepth 20000 in
theorem ggL_own_X4_own : GoodIn wsL_own wsX4_own := goodIn_ca (goodIn_ca (goodIn_r _ [7, 8, 9, 10, 6, 11, 12, 13, 14, 15, 16, 17, 18, 19, 20, 21, 22, 23, 24, 25, 26, 27, 28, 29, 30, 31, 32, 33, 34, 35, 36, 37, 38, 39, 40] (by decide +kernel) (by decide +kernel)) (goodIn_sub (fun _ h => List.mem_cons_of_mem _ (List.mem_append_left _ (List.mem_append_right _ h))) (by decide +kernel))) (goodIn_sub (fun _ h => List.mem_cons_of_mem _ (List.mem_append_right _ h)) (by decide +kernel))
set_option maxRecDepth 20000 in
theorem gL_own_X4_own : GoodIn wsL_own (wsV RL 62 RX4 yX4_own wsX4_own) := goodIn_app (goodIn_of _ (by decide +kernel)) ggL_own_X4_own
theorem dL_own_0 : decode cL_own 0 = .ok (.aload 5, 2) := by decide +kernel
theorem dL_own_2 : decode cL_own 2 = .ok (.iconst 0, 1) := by decide +kernel
theorem dL_own_3 : decode cL_own 3 = .ok (.aload_n 0, 1) := by decide +kernel
theorem dL_own_4 : decode cL_own 4 = .ok (.iload_n 1, 1) := by decide +kernel
theorem dL_own_5 : decode cL_own 5 = .ok (.iload_n 2, 1) := by decide +kernel
theorem dL_own_6 : decode cL_own 6 = .ok (.iload_n 3, 1) := by decide +kernel
theorem dL_own_7 : decode cL_own 7 = .ok (.iload 4, 2) := by decide +kernel
theorem dL_own_9 : decode cL_own 9 = .ok (.invokevirtual 62, 3) := by decide +kernel
theorem dL_own_12 : decode cL_own 12 = .ok (.ifCond .eq 7, 3) := by decide +kernel
theorem dL_own_15 : decode cL_own 15 = .ok (.lconst 1, 1) := by decide +kernel
theorem dL_own_16 : decode cL_own 16 = .ok (.goto 4, 3) := by decide +kernel
theorem dL_own_19 : decode cL_own 19 = .ok (.lconst 0, 1) := by decide +kernel
theorem dL_own_20 : decode cL_own 20 = .ok (.lastore, 1) := by decide +kernel
theorem dL_own_21 : decode cL_own 21 = .ok (.goto 11, 3) := by decide +kernel
theorem dL_own_24 : decode cL_own 24 = .ok (.astore 6, 2) := by decide +kernel
theorem dL_own_26 : decode cL_own 26 = .ok (.iconst 1, 1) := by decide +kernel
theorem dL_own_27 : decode cL_own 27 = .ok (.ireturn, 1) := by decide +kernel
theorem dL_own_28 : decode cL_own 28 = .ok (.astore 6, 2) := by decide +kernel
theorem dL_own_30 : decode cL_own 30 = .ok (.iconst 2, 1) := by decide +kernel
theorem dL_own_31 : decode cL_own 31 = .ok (.ireturn, 1) := by decide +kernel
theorem dL_own_32 : decode cL_own 32 = .ok (.iconst 0, 1) := by decide +kernel
theorem dL_own_33 : decode cL_own 33 = .ok (.ireturn, 1) := by decide +kernel
set_option maxRecDepth 20000 in
theorem ggL_state_X4_state : GoodIn wsL_state wsX4_state := goodIn_ca (goodIn_r _ [6, 7, 8, 9, 5, 10, 11, 12, 13, 14, 15, 16, 17, 18, 19, 20, 21, 22] (by decide +kernel) (by decide +kernel)) (goodIn_sub (fun _ h => List.mem_cons_of_mem _ (List.mem_append_right _ h)) (by decide +kernel))
set_option maxRecDepth 20000 in
theorem gL_state_X4_state : GoodIn wsL_state (wsV RL 66 RX4 yX4_state wsX4_state) := goodIn_app (goodIn_of _ (by decide +kernel)) ggL_state_X4_state
theorem dL_state_0 : decode cL_state 0 = .ok (.aload_n 2, 1) := by decide +kernel
theorem dL_state_1 : decode cL_state 1 = .ok (.iconst 0, 1) := by decide +kernel
theorem dL_state_2 : decode cL_state 2 = .ok (.aload_n 0, 1) := by decide +kernel
theorem dL_state_3 : decode cL_state 3 = .ok (.iload_n 1, 1) := by decide +kernel
theorem dL_state_4 : decode cL_state 4 = .ok (.invokevirtual 66, 3) := by decide +kernel
theorem dL_state_7 : decode cL_state 7 = .ok (.i2l, 1) := by decide +kernel
theorem dL_state_8 : decode cL_state 8 = .ok (.lastore, 1) := by decide +kernel
theorem dL_state_9 : decode cL_state 9 = .ok (.goto 6, 3) := by decide +kernel
theorem dL_state_12 : decode cL_state 12 = .ok (.astore_n 3, 1) := by decide +kernel
theorem dL_state_13 : decode cL_state 13 = .ok (.iconst 1, 1) := by decide +kernel
theorem dL_state_14 : decode cL_state 14 = .ok (.ireturn, 1) := by decide +kernel
theorem dL_state_15 : decode cL_state 15 = .ok (.iconst 0, 1) := by decide +kernel
theorem dL_state_16 : decode cL_state 16 = .ok (.ireturn, 1) := by decide +kernel
set_option maxRecDepth 20000 in
theorem ggL_lag_X4_lag : GoodIn wsL_lag wsX4_lag := goodIn_ca (goodIn_r _ [6, 7, 8, 9, 10, 5, 11, 12, 13, 14, 15, 16, 17, 18, 19, 20, 21, 22, 23, 24, 25, 26, 27, 28, 29, 30, 31, 32, 33, 34, 35, 36, 37, 38, 39, 40, 41] (by decide +kernel) (by decide +kernel)) (goodIn_sub (fun _ h => List.mem_cons_of_mem _ (List.mem_append_right _ h)) (by decide +kernel))
set_option maxRecDepth 20000 in
theorem gL_lag_X4_lag : GoodIn wsL_lag (wsV RL 69 RX4 yX4_lag wsX4_lag) := goodIn_app (goodIn_of _ (by decide +kernel)) ggL_lag_X4_lag
theorem dL_lag_0 : decode cL_lag 0 = .ok (.aload_n 2, 1) := by decide +kernel
theorem dL_lag_1 : decode cL_lag 1 = .ok (.iconst 0, 1) := by decide +kernel
theorem dL_lag_2 : decode cL_lag 2 = .ok (.aload_n 0, 1) := by decide +kernel
theorem dL_lag_3 : decode cL_lag 3 = .ok (.iload_n 1, 1) := by decide +kernel
theorem dL_lag_4 : decode cL_lag 4 = .ok (.invokevirtual 69, 3) := by decide +kernel
theorem dL_lag_7 : decode cL_lag 7 = .ok (.i2l, 1) := by decide +kernel
theorem dL_lag_8 : decode cL_lag 8 = .ok (.lastore, 1) := by decide +kernel
theorem dL_lag_9 : decode cL_lag 9 = .ok (.goto 6, 3) := by decide +kernel
theorem dL_lag_12 : decode cL_lag 12 = .ok (.astore_n 3, 1) := by decide +kernel
theorem dL_lag_13 : decode cL_lag 13 = .ok (.iconst 1, 1) := by decide +kernel
theorem dL_lag_14 : decode cL_lag 14 = .ok (.ireturn, 1) := by decide +kernel
theorem dL_lag_15 : decode cL_lag 15 = .ok (.iconst 0, 1) := by decide +kernel
theorem dL_lag_16 : decode cL_lag 16 = .ok (.ireturn, 1) := by decide +kernel
set_option maxRecDepth 20000 in
theorem ggL_copiedAt_X4_copiedAt : GoodIn wsL_copiedAt wsX4_copiedAt := goodIn_ca (goodIn_r _ [6, 7, 8, 9, 5, 10, 11, 12, 13, 14, 15, 16, 17, 18, 19, 20, 21, 22, 23, 24, 25] (by decide +kernel) (by decide +kernel)) (goodIn_sub (fun _ h => List.mem_cons_of_mem _ (List.mem_append_right _ h)) (by decide +kernel))
set_option maxRecDepth 20000 in
theorem gL_copiedAt_X4_copiedAt : GoodIn wsL_copiedAt (wsV RL 72 RX4 yX4_copiedAt wsX4_copiedAt) := goodIn_app (goodIn_of _ (by decide +kernel)) ggL_copiedAt_X4_copiedAt
theorem dL_copiedAt_0 : decode cL_copiedAt 0 = .ok (.aload_n 3, 1) := by decide +kernel
theorem dL_copiedAt_1 : decode cL_copiedAt 1 = .ok (.iconst 0, 1) := by decide +kernel
theorem dL_copiedAt_2 : decode cL_copiedAt 2 = .ok (.aload_n 0, 1) := by decide +kernel
theorem dL_copiedAt_3 : decode cL_copiedAt 3 = .ok (.iload_n 1, 1) := by decide +kernel
theorem dL_copiedAt_4 : decode cL_copiedAt 4 = .ok (.iload_n 2, 1) := by decide +kernel
theorem dL_copiedAt_5 : decode cL_copiedAt 5 = .ok (.invokevirtual 72, 3) := by decide +kernel
theorem dL_copiedAt_8 : decode cL_copiedAt 8 = .ok (.i2l, 1) := by decide +kernel
theorem dL_copiedAt_9 : decode cL_copiedAt 9 = .ok (.lastore, 1) := by decide +kernel
theorem dL_copiedAt_10 : decode cL_copiedAt 10 = .ok (.goto 7, 3) := by decide +kernel
theorem dL_copiedAt_13 : decode cL_copiedAt 13 = .ok (.astore 4, 2) := by decide +kernel
theorem dL_copiedAt_15 : decode cL_copiedAt 15 = .ok (.iconst 1, 1) := by decide +kernel
theorem dL_copiedAt_16 : decode cL_copiedAt 16 = .ok (.ireturn, 1) := by decide +kernel
theorem dL_copiedAt_17 : decode cL_copiedAt 17 = .ok (.iconst 0, 1) := by decide +kernel
theorem dL_copiedAt_18 : decode cL_copiedAt 18 = .ok (.ireturn, 1) := by decide +kernel
set_option maxRecDepth 20000 in
theorem ggL_seen_X4_seen : GoodIn wsL_seen wsX4_seen := goodIn_ca (goodIn_r _ [6, 7, 8, 9, 5, 10, 11, 12, 13, 14, 15, 16, 17, 18, 19, 20, 21, 22, 23, 24, 25, 26, 27, 28, 29, 30, 31, 32, 33, 34, 35, 36, 37] (by decide +kernel) (by decide +kernel)) (goodIn_sub (fun _ h => List.mem_cons_of_mem _ (List.mem_append_right _ h)) (by decide +kernel))
set_option maxRecDepth 20000 in
theorem gL_seen_X4_seen : GoodIn wsL_seen (wsV RL 75 RX4 yX4_seen wsX4_seen) := goodIn_app (goodIn_of _ (by decide +kernel)) ggL_seen_X4_seen
theorem dL_seen_0 : decode cL_seen 0 = .ok (.aload 5, 2) := by decide +kernel
theorem dL_seen_2 : decode cL_seen 2 = .ok (.iconst 0, 1) := by decide +kernel
theorem dL_seen_3 : decode cL_seen 3 = .ok (.aload_n 0, 1) := by decide +kernel
theorem dL_seen_4 : decode cL_seen 4 = .ok (.iload_n 1, 1) := by decide +kernel
theorem dL_seen_5 : decode cL_seen 5 = .ok (.iload_n 2, 1) := by decide +kernel
theorem dL_seen_6 : decode cL_seen 6 = .ok (.iload_n 3, 1) := by decide +kernel
theorem dL_seen_7 : decode cL_seen 7 = .ok (.iload 4, 2) := by decide +kernel
theorem dL_seen_9 : decode cL_seen 9 = .ok (.invokevirtual 75, 3) := by decide +kernel
theorem dL_seen_12 : decode cL_seen 12 = .ok (.i2l, 1) := by decide +kernel
theorem dL_seen_13 : decode cL_seen 13 = .ok (.lastore, 1) := by decide +kernel
theorem dL_seen_14 : decode cL_seen 14 = .ok (.goto 7, 3) := by decide +kernel
theorem dL_seen_17 : decode cL_seen 17 = .ok (.astore 6, 2) := by decide +kernel
theorem dL_seen_19 : decode cL_seen 19 = .ok (.iconst 1, 1) := by decide +kernel
theorem dL_seen_20 : decode cL_seen 20 = .ok (.ireturn, 1) := by decide +kernel
theorem dL_seen_21 : decode cL_seen 21 = .ok (.iconst 0, 1) := by decide +kernel
theorem dL_seen_22 : decode cL_seen 22 = .ok (.ireturn, 1) := by decide +kernel
set_option maxRecDepth 20000 in
theorem ggL_isFaithful_X4_isFaithful : GoodIn wsL_isFaithful wsX4_isFaithful := goodIn_ca (goodIn_ca (goodIn_r _ [7, 8, 9, 10, 11, 12, 13, 14, 15, 16, 17, 6, 18, 19, 20, 21, 22, 23, 24, 25, 26, 27, 28, 29, 30, 31, 32, 33, 34, 35, 36, 37, 38, 39, 40, 41, 42, 43, 44, 45, 46, 47, 48, 49, 50, 51, 52, 53, 54, 55, 56, 57, 58, 59, 60, 61, 62, 63, 64, 65, 66, 67, 68, 69, 70, 71, 72, 73, 74] (by decide +kernel) (by decide +kernel)) (goodIn_sub (fun _ h => List.mem_cons_of_mem _ (List.mem_append_left _ (List.mem_append_right _ h))) (by decide +kernel))) (goodIn_sub (fun _ h => List.mem_cons_of_mem _ (List.mem_append_right _ h)) (by decide +kernel))
set_option maxRecDepth 20000 in
theorem gL_isFaithful_X4_isFaithful : GoodIn wsL_isFaithful (wsV RL 79 RX4 yX4_isFaithful wsX4_isFaithful) := goodIn_app (goodIn_of _ (by decide +kernel)) ggL_isFaithful_X4_isFaithful
theorem dL_isFaithful_0 : decode cL_isFaithful 0 = .ok (.aload_n 3, 1) := by decide +kernel
theorem dL_isFaithful_1 : decode cL_isFaithful 1 = .ok (.iconst 0, 1) := by decide +kernel
theorem dL_isFaithful_2 : decode cL_isFaithful 2 = .ok (.aload_n 0, 1) := by decide +kernel
theorem dL_isFaithful_3 : decode cL_isFaithful 3 = .ok (.iload_n 1, 1) := by decide +kernel
theorem dL_isFaithful_4 : decode cL_isFaithful 4 = .ok (.iload_n 2, 1) := by decide +kernel
theorem dL_isFaithful_5 : decode cL_isFaithful 5 = .ok (.invokevirtual 79, 3) := by decide +kernel
theorem dL_isFaithful_8 : decode cL_isFaithful 8 = .ok (.ifCond .eq 7, 3) := by decide +kernel
theorem dL_isFaithful_11 : decode cL_isFaithful 11 = .ok (.lconst 1, 1) := by decide +kernel
theorem dL_isFaithful_12 : decode cL_isFaithful 12 = .ok (.goto 4, 3) := by decide +kernel
theorem dL_isFaithful_15 : decode cL_isFaithful 15 = .ok (.lconst 0, 1) := by decide +kernel
theorem dL_isFaithful_16 : decode cL_isFaithful 16 = .ok (.lastore, 1) := by decide +kernel
theorem dL_isFaithful_17 : decode cL_isFaithful 17 = .ok (.goto 11, 3) := by decide +kernel
theorem dL_isFaithful_20 : decode cL_isFaithful 20 = .ok (.astore 4, 2) := by decide +kernel
theorem dL_isFaithful_22 : decode cL_isFaithful 22 = .ok (.iconst 1, 1) := by decide +kernel
theorem dL_isFaithful_23 : decode cL_isFaithful 23 = .ok (.ireturn, 1) := by decide +kernel
theorem dL_isFaithful_24 : decode cL_isFaithful 24 = .ok (.astore 4, 2) := by decide +kernel
theorem dL_isFaithful_26 : decode cL_isFaithful 26 = .ok (.iconst 2, 1) := by decide +kernel
theorem dL_isFaithful_27 : decode cL_isFaithful 27 = .ok (.ireturn, 1) := by decide +kernel
theorem dL_isFaithful_28 : decode cL_isFaithful 28 = .ok (.iconst 0, 1) := by decide +kernel
theorem dL_isFaithful_29 : decode cL_isFaithful 29 = .ok (.ireturn, 1) := by decide +kernel
