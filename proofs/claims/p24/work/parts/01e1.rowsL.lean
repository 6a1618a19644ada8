theorem dJ9_max_7cf53_0 : decode cJ9_max_7cf53 0 = .ok (.iload_n 0, 1) := by decide +kernel
theorem dJ9_max_7cf53_1 : decode cJ9_max_7cf53 1 = .ok (.iload_n 1, 1) := by decide +kernel
theorem dJ9_max_7cf53_2 : decode cJ9_max_7cf53 2 = .ok (.if_icmp .lt 7, 3) := by decide +kernel
theorem dJ9_max_7cf53_5 : decode cJ9_max_7cf53 5 = .ok (.iload_n 0, 1) := by decide +kernel
theorem dJ9_max_7cf53_6 : decode cJ9_max_7cf53 6 = .ok (.goto 4, 3) := by decide +kernel
theorem dJ9_max_7cf53_9 : decode cJ9_max_7cf53 9 = .ok (.iload_n 1, 1) := by decide +kernel
theorem dJ9_max_7cf53_10 : decode cJ9_max_7cf53 10 = .ok (.ireturn, 1) := by decide +kernel
theorem dL_part_0 : decode cL_part 0 = .ok (.iload_n 1, 1) := by decide +kernel
theorem dL_part_1 : decode cL_part 1 = .ok (.aload_n 0, 1) := by decide +kernel
theorem dL_part_2 : decode cL_part 2 = .ok (.arraylength, 1) := by decide +kernel
theorem dL_part_3 : decode cL_part 3 = .ok (.if_icmp .ge 9, 3) := by decide +kernel
theorem dL_part_6 : decode cL_part 6 = .ok (.aload_n 0, 1) := by decide +kernel
theorem dL_part_7 : decode cL_part 7 = .ok (.iload_n 1, 1) := by decide +kernel
theorem dL_part_8 : decode cL_part 8 = .ok (.iaload, 1) := by decide +kernel
theorem dL_part_9 : decode cL_part 9 = .ok (.goto 16, 3) := by decide +kernel
theorem dL_part_12 : decode cL_part 12 = .ok (.sipush 389, 3) := by decide +kernel
theorem dL_part_15 : decode cL_part 15 = .ok (.iload_n 1, 1) := by decide +kernel
theorem dL_part_16 : decode cL_part 16 = .ok (.imul, 1) := by decide +kernel
theorem dL_part_17 : decode cL_part 17 = .ok (.sipush 257, 3) := by decide +kernel
theorem dL_part_20 : decode cL_part 20 = .ok (.iload_n 1, 1) := by decide +kernel
theorem dL_part_21 : decode cL_part 21 = .ok (.imul, 1) := by decide +kernel
theorem dL_part_22 : decode cL_part 22 = .ok (.iload_n 1, 1) := by decide +kernel
theorem dL_part_23 : decode cL_part 23 = .ok (.imul, 1) := by decide +kernel
theorem dL_part_24 : decode cL_part 24 = .ok (.iadd, 1) := by decide +kernel
theorem dL_part_25 : decode cL_part 25 = .ok (.istore_n 3, 1) := by decide +kernel
theorem dL_part_26 : decode cL_part 26 = .ok (.iload_n 3, 1) := by decide +kernel
theorem dL_part_27 : decode cL_part 27 = .ok (.ldc 7, 2) := by decide +kernel
theorem dL_part_29 : decode cL_part 29 = .ok (.iand, 1) := by decide +kernel
theorem dL_part_30 : decode cL_part 30 = .ok (.iload_n 2, 1) := by decide +kernel
theorem dL_part_31 : decode cL_part 31 = .ok (.irem, 1) := by decide +kernel
theorem dL_part_32 : decode cL_part 32 = .ok (.ireturn, 1) := by decide +kernel
set_option maxRecDepth 20000 in
theorem ggL_takes_X4_take : GoodIn wsL_takes wsX4_take := goodIn_ca (goodIn_ca (goodIn_r _ [5, 6, 7, 8, 9, 10, 4, 11, 12, 13, 14, 15, 16, 17, 18, 19, 20, 21, 22, 23, 24, 25, 26, 27, 28, 29, 30, 31, 32, 33, 34, 35, 36, 37, 38, 39, 40, 41, 42, 43, 44, 45, 46, 47, 48, 49, 50] (by decide +kernel) (by decide +kernel)) (goodIn_sub (fun _ h => List.mem_cons_of_mem _ (List.mem_append_left _ (List.mem_append_right _ h))) (by decide +kernel))) (goodIn_sub (fun _ h => List.mem_cons_of_mem _ (List.mem_append_right _ h)) (by decide +kernel))
set_option maxRecDepth 20000 in
theorem gL_takes_X4_take : GoodIn wsL_takes (wsV RL 8 RX4 yX4_take wsX4_take) := goodIn_app (goodIn_of _ (by decide +kernel)) ggL_takes_X4_take
theorem dL_takes_0 : decode cL_takes 0 = .ok (.aload_n 0, 1) := by decide +kernel
theorem dL_takes_1 : decode cL_takes 1 = .ok (.iload_n 1, 1) := by decide +kernel
theorem dL_takes_2 : decode cL_takes 2 = .ok (.iload_n 2, 1) := by decide +kernel
theorem dL_takes_3 : decode cL_takes 3 = .ok (.invokevirtual 8, 3) := by decide +kernel
theorem dL_takes_6 : decode cL_takes 6 = .ok (.iconst 0, 1) := by decide +kernel
theorem dL_takes_7 : decode cL_takes 7 = .ok (.ireturn, 1) := by decide +kernel
set_option maxRecDepth 20000 in
theorem ggL_does_X4_put : GoodIn wsL_does wsX4_put := goodIn_ca (goodIn_ca (goodIn_ca (goodIn_r _ [8, 9, 10, 11, 7, 12, 13, 14, 15, 16, 17, 18, 19, 20, 21, 22, 23, 24, 25, 26, 27, 28, 29, 30, 31, 32, 33, 34, 35, 36, 37, 38, 39, 40, 41, 42, 43, 44, 45, 46, 47, 48, 49, 202, 203, 204, 205, 206, 207, 208, 209, 210, 211, 212, 213] (by decide +kernel) (by decide +kernel)) (goodIn_sub (fun _ h => List.mem_cons_of_mem _ (List.mem_append_left _ (List.mem_append_left _ (List.mem_append_right _ h)))) (by decide +kernel))) (goodIn_sub (fun _ h => List.mem_cons_of_mem _ (List.mem_append_left _ (List.mem_append_right _ h))) (by decide +kernel))) (goodIn_sub (fun _ h => List.mem_cons_of_mem _ (List.mem_append_right _ h)) (by decide +kernel))
set_option maxRecDepth 20000 in
theorem gL_does_X4_put : GoodIn wsL_does (wsV RL 14 RX4 yX4_put wsX4_put) := goodIn_app (goodIn_of _ (by decide +kernel)) ggL_does_X4_put
set_option maxRecDepth 20000 in
theorem ggL_does_L_takes : GoodIn wsL_does wsL_takes := goodIn_ca (goodIn_ca (goodIn_r _ [53, 54, 55, 56, 7, 57, 27, 28, 9, 10, 11, 12, 13, 14, 15, 16, 17, 23, 24, 25, 26, 29, 30, 31, 32, 33, 34, 35, 36, 37, 38, 42, 43, 44, 45, 46, 47, 48, 49, 202, 203, 204, 205, 206, 207, 208, 209, 210, 211, 212, 213] (by decide +kernel) (by decide +kernel)) (goodIn_sub (fun _ h => List.mem_cons_of_mem _ (List.mem_append_right _ h)) (by decide +kernel))) (goodIn_sub (fun _ h => List.mem_cons_of_mem _ (List.mem_append_left _ (List.mem_append_left _ (List.mem_append_right _ h)))) (by decide +kernel))
set_option maxRecDepth 20000 in
theorem gL_does_L_takes : GoodIn wsL_does (va_wsS RL 18 yL_takes wsL_takes) := goodIn_app (goodIn_of _ (by decide +kernel)) ggL_does_L_takes
set_option maxRecDepth 20000 in
theorem ggL_does_X4_truncate : GoodIn wsL_does wsX4_truncate := goodIn_ca (goodIn_ca (goodIn_r _ [61, 9, 15, 16, 7, 17, 13, 14, 23, 24, 25, 26, 27, 28, 29, 30, 31, 32, 33, 34, 35, 36, 37, 38, 42, 43, 44, 45, 46, 47, 48, 49, 202, 203, 204, 205, 206, 207, 208, 209, 210, 211, 212, 213] (by decide +kernel) (by decide +kernel)) (goodIn_sub (fun _ h => List.mem_cons_of_mem _ (List.mem_append_left _ (List.mem_append_left _ (List.mem_append_right _ h)))) (by decide +kernel))) (goodIn_sub (fun _ h => List.mem_cons_of_mem _ (List.mem_append_right _ h)) (by decide +kernel))
set_option maxRecDepth 20000 in
theorem gL_does_X4_truncate : GoodIn wsL_does (wsV RL 24 RX4 yX4_truncate wsX4_truncate) := goodIn_app (goodIn_of _ (by decide +kernel)) ggL_does_X4_truncate
set_option maxRecDepth 20000 in
theorem ggL_does_X4_commit : GoodIn wsL_does wsX4_commit := goodIn_ca (goodIn_r _ [65, 27, 28, 9, 66, 67, 68, 32, 69, 35, 49, 70, 71, 72, 73, 74, 75, 76, 77, 7, 78, 79, 80, 81, 82, 83, 84, 85, 86, 87, 88, 89, 90, 91, 202, 203, 204, 205, 206, 207, 208, 209, 210, 211, 212, 213, 214, 215, 216, 217, 218] (by decide +kernel) (by decide +kernel)) (goodIn_sub (fun _ h => List.mem_cons_of_mem _ (List.mem_append_right _ h)) (by decide +kernel))
set_option maxRecDepth 20000 in
theorem gL_does_X4_commit : GoodIn wsL_does (wsV RL 28 RX4 yX4_commit wsX4_commit) := goodIn_app (goodIn_of _ (by decide +kernel)) ggL_does_X4_commit
set_option maxRecDepth 20000 in
theorem ggL_does_X4_setLimit : GoodIn wsL_does wsX4_setLimit := goodIn_ca (goodIn_r _ [95, 21, 22, 80, 75, 76, 77, 7, 78, 79, 9, 81, 82, 83, 84, 85, 86, 87, 88, 89, 90, 91, 202, 203, 204, 205, 206, 207, 208, 209, 210, 211, 212, 213, 214, 215, 216, 217, 218] (by decide +kernel) (by decide +kernel)) (goodIn_sub (fun _ h => List.mem_cons_of_mem _ (List.mem_append_left _ (List.mem_append_right _ h))) (by decide +kernel))
set_option maxRecDepth 20000 in
theorem gL_does_X4_setLimit : GoodIn wsL_does (wsV RL 32 RX4 yX4_setLimit wsX4_setLimit) := goodIn_app (goodIn_of _ (by decide +kernel)) ggL_does_X4_setLimit
set_option maxRecDepth 20000 in
theorem ggL_does_X4_setCondition : GoodIn wsL_does wsX4_setCondition := goodIn_ca (goodIn_ca (goodIn_r _ [99, 21, 22, 100, 101, 102, 7, 103, 13, 14, 15, 16, 17, 104, 105, 106, 18, 19, 20, 107, 108, 109, 110, 79, 202, 203, 204, 205, 206, 219, 220, 221, 222, 214, 215, 216, 217, 218] (by decide +kernel) (by decide +kernel)) (goodIn_sub (fun _ h => List.mem_cons_of_mem _ (List.mem_append_left _ (List.mem_append_right _ h))) (by decide +kernel))) (goodIn_sub (fun _ h => List.mem_cons_of_mem _ (List.mem_append_left _ (List.mem_append_left _ (List.mem_append_right _ h)))) (by decide +kernel))
set_option maxRecDepth 20000 in
theorem gL_does_X4_setCondition : GoodIn wsL_does (wsV RL 35 RX4 yX4_setCondition wsX4_setCondition) := goodIn_app (goodIn_of _ (by decide +kernel)) ggL_does_X4_setCondition
set_option maxRecDepth 20000 in
theorem ggL_does_X4_setColumns : GoodIn wsL_does wsX4_setColumns := goodIn_ca (goodIn_ca (goodIn_r _ [114, 21, 22, 100, 101, 102, 7, 103, 13, 14, 15, 16, 17, 115, 116, 117, 107, 108, 109, 110, 79, 202, 203, 204, 205, 206, 219, 220, 221, 222, 214, 215, 216, 217, 218] (by decide +kernel) (by decide +kernel)) (goodIn_sub (fun _ h => List.mem_cons_of_mem _ (List.mem_append_left _ (List.mem_append_right _ h))) (by decide +kernel))) (goodIn_sub (fun _ h => List.mem_cons_of_mem _ (List.mem_append_left _ (List.mem_append_left _ (List.mem_append_right _ h)))) (by decide +kernel))
set_option maxRecDepth 20000 in
theorem gL_does_X4_setColumns : GoodIn wsL_does (wsV RL 39 RX4 yX4_setColumns wsX4_setColumns) := goodIn_app (goodIn_of _ (by decide +kernel)) ggL_does_X4_setColumns
set_option maxRecDepth 20000 in
theorem ggL_does_X4_subscribe : GoodIn wsL_does wsX4_subscribe := goodIn_ca (goodIn_r _ [121, 79, 100, 9, 122, 123, 7, 124, 13, 14, 101, 102, 103, 125, 126, 127, 84, 128, 129, 91, 86, 130, 131, 132, 133, 134, 202, 203, 204, 205, 206, 214, 215, 216, 217, 218, 207, 208, 209, 210, 211, 212, 213] (by decide +kernel) (by decide +kernel)) (goodIn_sub (fun _ h => List.mem_cons_of_mem _ (List.mem_append_left _ (List.mem_append_left _ (List.mem_append_right _ h)))) (by decide +kernel))
set_option maxRecDepth 20000 in
theorem gL_does_X4_subscribe : GoodIn wsL_does (wsV RL 43 RX4 yX4_subscribe wsX4_subscribe) := goodIn_app (goodIn_of _ (by decide +kernel)) ggL_does_X4_subscribe
set_option maxRecDepth 20000 in
theorem ggL_does_X4_drop : GoodIn wsL_does wsX4_drop := goodIn_ca (goodIn_r _ [138, 79, 122, 123, 7, 124, 13, 14, 139, 140, 141, 84, 142, 129, 91, 130, 131, 132, 133, 134, 202, 203, 204, 205, 206, 214, 215, 216, 217, 218] (by decide +kernel) (by decide +kernel)) (goodIn_sub (fun _ h => List.mem_cons_of_mem _ (List.mem_append_left _ (List.mem_append_left _ (List.mem_append_right _ h)))) (by decide +kernel))
set_option maxRecDepth 20000 in
theorem gL_does_X4_drop : GoodIn wsL_does (wsV RL 47 RX4 yX4_drop wsX4_drop) := goodIn_app (goodIn_of _ (by decide +kernel)) ggL_does_X4_drop
set_option maxRecDepth 20000 in
theorem ggL_does_X4_copy : GoodIn wsL_does wsX4_copy := goodIn_ca (goodIn_ca (goodIn_r _ [146, 27, 28, 79, 9, 122, 123, 7, 124, 13, 14, 15, 16, 17, 29, 30, 31, 32, 33, 34, 35, 36, 37, 38, 147, 148, 149, 150, 151, 152, 153, 154, 155, 156, 157, 158, 159, 160, 161, 202, 203, 204, 205, 206, 214, 215, 216, 217, 218, 207, 208, 209, 210, 211, 212, 213, 219, 220, 221, 222] (by decide +kernel) (by decide +kernel)) (goodIn_sub (fun _ h => List.mem_cons_of_mem _ (List.mem_append_right _ h)) (by decide +kernel))) (goodIn_sub (fun _ h => List.mem_cons_of_mem _ (List.mem_append_left _ (List.mem_append_left _ (List.mem_append_right _ h)))) (by decide +kernel))
set_option maxRecDepth 20000 in
theorem gL_does_X4_copy : GoodIn wsL_does (wsV RL 50 RX4 yX4_copy wsX4_copy) := goodIn_app (goodIn_of _ (by decide +kernel)) ggL_does_X4_copy
set_option maxRecDepth 20000 in
theorem ggL_does_X4_receive : GoodIn wsL_does wsX4_receive := goodIn_ca (goodIn_ca (goodIn_ca (goodIn_r _ [165, 21, 22, 27, 28, 79, 9, 166, 122, 123, 7, 124, 13, 14, 167, 168, 169, 170, 171, 172, 173, 72, 73, 74, 174, 175, 176, 177, 84, 178, 134, 179, 180, 181, 182, 183, 184, 185, 186, 37, 38, 187, 148, 149, 150, 151, 152, 153, 154, 155, 156, 157, 158, 159, 160, 161, 188, 189, 190, 191, 192, 193, 86, 202, 203, 204, 205, 206, 214, 215, 216, 217, 218, 207, 208, 209, 210, 211, 212, 213, 223, 224, 219, 220, 221, 222] (by decide +kernel) (by decide +kernel)) (goodIn_sub (fun _ h => List.mem_cons_of_mem _ (List.mem_append_left _ (List.mem_append_right _ h))) (by decide +kernel))) (goodIn_sub (fun _ h => List.mem_cons_of_mem _ (List.mem_append_right _ h)) (by decide +kernel))) (goodIn_sub (fun _ h => List.mem_cons_of_mem _ (List.mem_append_left _ (List.mem_append_left _ (List.mem_append_right _ h)))) (by decide +kernel))
set_option maxRecDepth 20000 in
theorem gL_does_X4_receive : GoodIn wsL_does (wsV RL 53 RX4 yX4_receive wsX4_receive) := goodIn_app (goodIn_of _ (by decide +kernel)) ggL_does_X4_receive
set_option maxRecDepth 20000 in
theorem ggL_does_X4_goOn : GoodIn wsL_does wsX4_goOn := goodIn_ca (goodIn_ca (goodIn_r _ [197, 27, 28, 79, 9, 122, 123, 7, 124, 13, 14, 202, 203, 204, 205, 206, 214, 215, 216, 217, 218, 207, 208, 209, 210, 211, 212, 213] (by decide +kernel) (by decide +kernel)) (goodIn_sub (fun _ h => List.mem_cons_of_mem _ (List.mem_append_right _ h)) (by decide +kernel))) (goodIn_sub (fun _ h => List.mem_cons_of_mem _ (List.mem_append_left _ (List.mem_append_left _ (List.mem_append_right _ h)))) (by decide +kernel))
set_option maxRecDepth 20000 in
theorem gL_does_X4_goOn : GoodIn wsL_does (wsV RL 56 RX4 yX4_goOn wsX4_goOn) := goodIn_app (goodIn_of _ (by decide +kernel)) ggL_does_X4_goOn
set_option maxRecDepth 20000 in
theorem ggL_does_X4_own : GoodIn wsL_does wsX4_own := goodIn_ca (goodIn_ca (goodIn_r _ [201, 79, 122, 123, 7, 124, 13, 14, 10, 11, 12, 15, 16, 17, 18, 19, 20, 21, 22, 36, 37, 38, 39, 40, 41, 202, 203, 204, 205, 206, 214, 215, 216, 217, 218] (by decide +kernel) (by decide +kernel)) (goodIn_sub (fun _ h => List.mem_cons_of_mem _ (List.mem_append_left _ (List.mem_append_left _ (List.mem_append_right _ h)))) (by decide +kernel))) (goodIn_sub (fun _ h => List.mem_cons_of_mem _ (List.mem_append_left _ (List.mem_append_right _ h))) (by decide +kernel))
set_option maxRecDepth 20000 in
theorem gL_does_X4_own : GoodIn wsL_does (wsV RL 60 RX4 yX4_own wsX4_own) := goodIn_app (goodIn_of _ (by decide +kernel)) ggL_does_X4_own
theorem dL_does_0 : decode cL_does 0 = .ok (.iload_n 1, 1) := by decide +kernel
theorem dL_does_1 : decode cL_does 1 = .ok (.ifCond .ne 26, 3) := by decide +kernel
theorem dL_does_4 : decode cL_does 4 = .ok (.aload_n 0, 1) := by decide +kernel
theorem dL_does_5 : decode cL_does 5 = .ok (.iload_n 2, 1) := by decide +kernel
theorem dL_does_6 : decode cL_does 6 = .ok (.iload_n 3, 1) := by decide +kernel
theorem dL_does_7 : decode cL_does 7 = .ok (.iload 4, 2) := by decide +kernel
theorem dL_does_9 : decode cL_does 9 = .ok (.iload 5, 2) := by decide +kernel
theorem dL_does_11 : decode cL_does 11 = .ok (.iload 6, 2) := by decide +kernel
theorem dL_does_13 : decode cL_does 13 = .ok (.invokevirtual 14, 3) := by decide +kernel
theorem dL_does_16 : decode cL_does 16 = .ok (.ifCond .eq 7, 3) := by decide +kernel
theorem dL_does_19 : decode cL_does 19 = .ok (.iconst 1, 1) := by decide +kernel
theorem dL_does_20 : decode cL_does 20 = .ok (.goto 197, 3) := by decide +kernel
theorem dL_does_23 : decode cL_does 23 = .ok (.iconst 0, 1) := by decide +kernel
theorem dL_does_24 : decode cL_does 24 = .ok (.goto 193, 3) := by decide +kernel
theorem dL_does_27 : decode cL_does 27 = .ok (.iload_n 1, 1) := by decide +kernel
theorem dL_does_28 : decode cL_does 28 = .ok (.iconst 1, 1) := by decide +kernel
theorem dL_does_29 : decode cL_does 29 = .ok (.if_icmp .ne 12, 3) := by decide +kernel
theorem dL_does_32 : decode cL_does 32 = .ok (.aload_n 0, 1) := by decide +kernel
theorem dL_does_33 : decode cL_does 33 = .ok (.iload_n 2, 1) := by decide +kernel
theorem dL_does_34 : decode cL_does 34 = .ok (.iload_n 3, 1) := by decide +kernel
theorem dL_does_35 : decode cL_does 35 = .ok (.invokestatic 18, 3) := by decide +kernel
theorem dL_does_38 : decode cL_does 38 = .ok (.goto 179, 3) := by decide +kernel
theorem dL_does_41 : decode cL_does 41 = .ok (.iload_n 1, 1) := by decide +kernel
theorem dL_does_42 : decode cL_does 42 = .ok (.iconst 2, 1) := by decide +kernel
theorem dL_does_43 : decode cL_does 43 = .ok (.if_icmp .ne 11, 3) := by decide +kernel
theorem dL_does_46 : decode cL_does 46 = .ok (.aload_n 0, 1) := by decide +kernel
theorem dL_does_47 : decode cL_does 47 = .ok (.iload_n 2, 1) := by decide +kernel
theorem dL_does_48 : decode cL_does 48 = .ok (.invokevirtual 24, 3) := by decide +kernel
theorem dL_does_51 : decode cL_does 51 = .ok (.goto 166, 3) := by decide +kernel
theorem dL_does_54 : decode cL_does 54 = .ok (.iload_n 1, 1) := by decide +kernel
theorem dL_does_55 : decode cL_does 55 = .ok (.iconst 3, 1) := by decide +kernel
theorem dL_does_56 : decode cL_does 56 = .ok (.if_icmp .ne 10, 3) := by decide +kernel
theorem dL_does_59 : decode cL_does 59 = .ok (.aload_n 0, 1) := by decide +kernel
theorem dL_does_60 : decode cL_does 60 = .ok (.invokevirtual 28, 3) := by decide +kernel
theorem dL_does_63 : decode cL_does 63 = .ok (.goto 154, 3) := by decide +kernel
theorem dL_does_66 : decode cL_does 66 = .ok (.iload_n 1, 1) := by decide +kernel
theorem dL_does_67 : decode cL_does 67 = .ok (.iconst 4, 1) := by decide +kernel
theorem dL_does_68 : decode cL_does 68 = .ok (.if_icmp .ne 11, 3) := by decide +kernel
theorem dL_does_71 : decode cL_does 71 = .ok (.aload_n 0, 1) := by decide +kernel
theorem dL_does_72 : decode cL_does 72 = .ok (.iload_n 2, 1) := by decide +kernel
theorem dL_does_73 : decode cL_does 73 = .ok (.invokevirtual 32, 3) := by decide +kernel
theorem dL_does_76 : decode cL_does 76 = .ok (.goto 141, 3) := by decide +kernel
theorem dL_does_79 : decode cL_does 79 = .ok (.iload_n 1, 1) := by decide +kernel
theorem dL_does_80 : decode cL_does 80 = .ok (.iconst 5, 1) := by decide +kernel
theorem dL_does_81 : decode cL_does 81 = .ok (.if_icmp .ne 18, 3) := by decide +kernel
theorem dL_does_84 : decode cL_does 84 = .ok (.aload_n 0, 1) := by decide +kernel
theorem dL_does_85 : decode cL_does 85 = .ok (.iload_n 2, 1) := by decide +kernel
theorem dL_does_86 : decode cL_does 86 = .ok (.iload_n 3, 1) := by decide +kernel
theorem dL_does_87 : decode cL_does 87 = .ok (.iload 4, 2) := by decide +kernel
theorem dL_does_89 : decode cL_does 89 = .ok (.iload 5, 2) := by decide +kernel
theorem dL_does_91 : decode cL_does 91 = .ok (.iload 6, 2) := by decide +kernel
theorem dL_does_93 : decode cL_does 93 = .ok (.invokevirtual 35, 3) := by decide +kernel
theorem dL_does_96 : decode cL_does 96 = .ok (.goto 121, 3) := by decide +kernel
theorem dL_does_99 : decode cL_does 99 = .ok (.iload_n 1, 1) := by decide +kernel
theorem dL_does_100 : decode cL_does 100 = .ok (.bipush 6, 2) := by decide +kernel
theorem dL_does_102 : decode cL_does 102 = .ok (.if_icmp .ne 14, 3) := by decide +kernel
theorem dL_does_105 : decode cL_does 105 = .ok (.aload_n 0, 1) := by decide +kernel
theorem dL_does_106 : decode cL_does 106 = .ok (.iload_n 2, 1) := by decide +kernel
theorem dL_does_107 : decode cL_does 107 = .ok (.iload_n 3, 1) := by decide +kernel
theorem dL_does_108 : decode cL_does 108 = .ok (.iload 4, 2) := by decide +kernel
theorem dL_does_110 : decode cL_does 110 = .ok (.invokevirtual 39, 3) := by decide +kernel
theorem dL_does_113 : decode cL_does 113 = .ok (.goto 104, 3) := by decide +kernel
theorem dL_does_116 : decode cL_does 116 = .ok (.iload_n 1, 1) := by decide +kernel
theorem dL_does_117 : decode cL_does 117 = .ok (.bipush 7, 2) := by decide +kernel
theorem dL_does_119 : decode cL_does 119 = .ok (.if_icmp .ne 12, 3) := by decide +kernel
theorem dL_does_122 : decode cL_does 122 = .ok (.aload_n 0, 1) := by decide +kernel
theorem dL_does_123 : decode cL_does 123 = .ok (.iload_n 2, 1) := by decide +kernel
theorem dL_does_124 : decode cL_does 124 = .ok (.iload_n 3, 1) := by decide +kernel
theorem dL_does_125 : decode cL_does 125 = .ok (.invokevirtual 43, 3) := by decide +kernel
theorem dL_does_128 : decode cL_does 128 = .ok (.goto 89, 3) := by decide +kernel
theorem dL_does_131 : decode cL_does 131 = .ok (.iload_n 1, 1) := by decide +kernel
theorem dL_does_132 : decode cL_does 132 = .ok (.bipush 8, 2) := by decide +kernel
theorem dL_does_134 : decode cL_does 134 = .ok (.if_icmp .ne 11, 3) := by decide +kernel
theorem dL_does_137 : decode cL_does 137 = .ok (.aload_n 0, 1) := by decide +kernel
theorem dL_does_138 : decode cL_does 138 = .ok (.iload_n 2, 1) := by decide +kernel
theorem dL_does_139 : decode cL_does 139 = .ok (.invokevirtual 47, 3) := by decide +kernel
theorem dL_does_142 : decode cL_does 142 = .ok (.goto 75, 3) := by decide +kernel
theorem dL_does_145 : decode cL_does 145 = .ok (.iload_n 1, 1) := by decide +kernel
theorem dL_does_146 : decode cL_does 146 = .ok (.bipush 9, 2) := by decide +kernel
theorem dL_does_148 : decode cL_does 148 = .ok (.if_icmp .ne 12, 3) := by decide +kernel
theorem dL_does_151 : decode cL_does 151 = .ok (.aload_n 0, 1) := by decide +kernel
theorem dL_does_152 : decode cL_does 152 = .ok (.iload_n 2, 1) := by decide +kernel
theorem dL_does_153 : decode cL_does 153 = .ok (.iload_n 3, 1) := by decide +kernel
theorem dL_does_154 : decode cL_does 154 = .ok (.invokevirtual 50, 3) := by decide +kernel
theorem dL_does_157 : decode cL_does 157 = .ok (.goto 60, 3) := by decide +kernel
theorem dL_does_160 : decode cL_does 160 = .ok (.iload_n 1, 1) := by decide +kernel
theorem dL_does_161 : decode cL_does 161 = .ok (.bipush 10, 2) := by decide +kernel
theorem dL_does_163 : decode cL_does 163 = .ok (.if_icmp .ne 12, 3) := by decide +kernel
theorem dL_does_166 : decode cL_does 166 = .ok (.aload_n 0, 1) := by decide +kernel
theorem dL_does_167 : decode cL_does 167 = .ok (.iload_n 2, 1) := by decide +kernel
theorem dL_does_168 : decode cL_does 168 = .ok (.iload_n 3, 1) := by decide +kernel
theorem dL_does_169 : decode cL_does 169 = .ok (.invokevirtual 53, 3) := by decide +kernel
theorem dL_does_172 : decode cL_does 172 = .ok (.goto 45, 3) := by decide +kernel
theorem dL_does_175 : decode cL_does 175 = .ok (.iload_n 1, 1) := by decide +kernel
theorem dL_does_176 : decode cL_does 176 = .ok (.bipush 11, 2) := by decide +kernel
theorem dL_does_178 : decode cL_does 178 = .ok (.if_icmp .ne 21, 3) := by decide +kernel
theorem dL_does_181 : decode cL_does 181 = .ok (.aload_n 0, 1) := by decide +kernel
theorem dL_does_182 : decode cL_does 182 = .ok (.iload_n 2, 1) := by decide +kernel
theorem dL_does_183 : decode cL_does 183 = .ok (.iload_n 3, 1) := by decide +kernel
theorem dL_does_184 : decode cL_does 184 = .ok (.iconst 1, 1) := by decide +kernel
theorem dL_does_185 : decode cL_does 185 = .ok (.if_icmp .ne 7, 3) := by decide +kernel
theorem dL_does_188 : decode cL_does 188 = .ok (.iconst 1, 1) := by decide +kernel
theorem dL_does_189 : decode cL_does 189 = .ok (.goto 4, 3) := by decide +kernel
theorem dL_does_192 : decode cL_does 192 = .ok (.iconst 0, 1) := by decide +kernel
theorem dL_does_193 : decode cL_does 193 = .ok (.invokevirtual 56, 3) := by decide +kernel
theorem dL_does_196 : decode cL_does 196 = .ok (.goto 21, 3) := by decide +kernel
theorem dL_does_199 : decode cL_does 199 = .ok (.aload_n 0, 1) := by decide +kernel
theorem dL_does_200 : decode cL_does 200 = .ok (.iload_n 2, 1) := by decide +kernel
theorem dL_does_201 : decode cL_does 201 = .ok (.iload_n 3, 1) := by decide +kernel
theorem dL_does_202 : decode cL_does 202 = .ok (.iload 4, 2) := by decide +kernel
theorem dL_does_204 : decode cL_does 204 = .ok (.iload 5, 2) := by decide +kernel
theorem dL_does_206 : decode cL_does 206 = .ok (.invokevirtual 60, 3) := by decide +kernel
theorem dL_does_209 : decode cL_does 209 = .ok (.ifCond .eq 7, 3) := by decide +kernel
theorem dL_does_212 : decode cL_does 212 = .ok (.iconst 1, 1) := by decide +kernel
theorem dL_does_213 : decode cL_does 213 = .ok (.goto 4, 3) := by decide +kernel
theorem dL_does_216 : decode cL_does 216 = .ok (.iconst 0, 1) := by decide +kernel
theorem dL_does_217 : decode cL_does 217 = .ok (.ireturn, 1) := by decide +kernel
theorem dL_does_218 : decode cL_does 218 = .ok (.astore 7, 2) := by decide +kernel
theorem dL_does_220 : decode cL_does 220 = .ok (.bipush (-30), 2) := by decide +kernel
theorem dL_does_222 : decode cL_does 222 = .ok (.ireturn, 1) := by decide +kernel
theorem dL_does_223 : decode cL_does 223 = .ok (.astore 7, 2) := by decide +kernel
theorem dL_does_225 : decode cL_does 225 = .ok (.bipush (-20), 2) := by decide +kernel
theorem dL_does_227 : decode cL_does 227 = .ok (.ireturn, 1) := by decide +kernel
theorem dL_does_228 : decode cL_does 228 = .ok (.astore 7, 2) := by decide +kernel
theorem dL_does_230 : decode cL_does 230 = .ok (.bipush (-10), 2) := by decide +kernel
theorem dL_does_232 : decode cL_does 232 = .ok (.ireturn, 1) := by decide +kernel
set_option maxRecDepth 20000 in
theorem ggL_asks_X4_at : GoodIn wsL_asks wsX4_at := goodIn_ca (goodIn_r _ [7, 8, 9, 10, 6, 11, 12, 13, 14, 15, 16, 17, 18, 19, 20, 21, 22, 23, 24, 25, 87, 88, 89, 90, 91, 92, 93, 94, 95, 96, 97, 98] (by decide +kernel) (by decide +kernel)) (goodIn_sub (fun _ h => List.mem_cons_of_mem _ (List.mem_append_left _ (List.mem_append_right _ h))) (by decide +kernel))
set_option maxRecDepth 20000 in
theorem gL_asks_X4_at : GoodIn wsL_asks (wsV RL 70 RX4 yX4_at wsX4_at) := goodIn_app (goodIn_of _ (by decide +kernel)) ggL_asks_X4_at
set_option maxRecDepth 20000 in
theorem ggL_asks_X4_state : GoodIn wsL_asks wsX4_state := goodIn_ca (goodIn_r _ [29, 30, 31, 32, 6, 33, 12, 13, 87, 88, 89, 90, 91, 99, 100, 101, 102, 103] (by decide +kernel) (by decide +kernel)) (goodIn_sub (fun _ h => List.mem_cons_of_mem _ (List.mem_append_left _ (List.mem_append_right _ h))) (by decide +kernel))
set_option maxRecDepth 20000 in
theorem gL_asks_X4_state : GoodIn wsL_asks (wsV RL 73 RX4 yX4_state wsX4_state) := goodIn_app (goodIn_of _ (by decide +kernel)) ggL_asks_X4_state
set_option maxRecDepth 20000 in
theorem ggL_asks_X4_lag : GoodIn wsL_asks wsX4_lag := goodIn_ca (goodIn_r _ [37, 30, 8, 31, 32, 6, 33, 12, 13, 38, 39, 40, 41, 42, 43, 44, 45, 46, 47, 48, 87, 88, 89, 90, 91, 92, 93, 94, 95, 96, 97, 98, 99, 100, 101, 102, 103] (by decide +kernel) (by decide +kernel)) (goodIn_sub (fun _ h => List.mem_cons_of_mem _ (List.mem_append_left _ (List.mem_append_right _ h))) (by decide +kernel))
set_option maxRecDepth 20000 in
theorem gL_asks_X4_lag : GoodIn wsL_asks (wsV RL 76 RX4 yX4_lag wsX4_lag) := goodIn_app (goodIn_of _ (by decide +kernel)) ggL_asks_X4_lag
set_option maxRecDepth 20000 in
theorem ggL_asks_X4_copiedAt : GoodIn wsL_asks wsX4_copiedAt := goodIn_ca (goodIn_r _ [52, 30, 31, 32, 6, 33, 12, 13, 14, 15, 16, 87, 88, 89, 90, 91, 99, 100, 101, 102, 103] (by decide +kernel) (by decide +kernel)) (goodIn_sub (fun _ h => List.mem_cons_of_mem _ (List.mem_append_left _ (List.mem_append_right _ h))) (by decide +kernel))
set_option maxRecDepth 20000 in
theorem gL_asks_X4_copiedAt : GoodIn wsL_asks (wsV RL 79 RX4 yX4_copiedAt wsX4_copiedAt) := goodIn_app (goodIn_of _ (by decide +kernel)) ggL_asks_X4_copiedAt
set_option maxRecDepth 20000 in
theorem ggL_asks_X4_seen : GoodIn wsL_asks wsX4_seen := goodIn_ca (goodIn_r _ [56, 30, 31, 32, 6, 33, 12, 13, 9, 10, 11, 14, 15, 16, 17, 18, 19, 20, 21, 22, 23, 24, 25, 87, 88, 89, 90, 91, 99, 100, 101, 102, 103] (by decide +kernel) (by decide +kernel)) (goodIn_sub (fun _ h => List.mem_cons_of_mem _ (List.mem_append_left _ (List.mem_append_right _ h))) (by decide +kernel))
set_option maxRecDepth 20000 in
theorem gL_asks_X4_seen : GoodIn wsL_asks (wsV RL 82 RX4 yX4_seen wsX4_seen) := goodIn_app (goodIn_of _ (by decide +kernel)) ggL_asks_X4_seen
set_option maxRecDepth 20000 in
theorem ggL_asks_X4_isFaithful : GoodIn wsL_asks wsX4_isFaithful := goodIn_ca (goodIn_ca (goodIn_r _ [60, 61, 62, 30, 63, 64, 65, 66, 8, 31, 32, 6, 33, 12, 13, 14, 15, 16, 67, 45, 46, 41, 47, 48, 20, 21, 22, 68, 69, 70, 71, 72, 73, 74, 75, 76, 77, 78, 79, 80, 24, 25, 81, 82, 83, 84, 85, 86, 87, 88, 89, 90, 91, 99, 100, 101, 102, 103, 92, 93, 94, 95, 96, 97, 98, 104, 105, 106, 107] (by decide +kernel) (by decide +kernel)) (goodIn_sub (fun _ h => List.mem_cons_of_mem _ (List.mem_append_right _ h)) (by decide +kernel))) (goodIn_sub (fun _ h => List.mem_cons_of_mem _ (List.mem_append_left _ (List.mem_append_right _ h))) (by decide +kernel))
set_option maxRecDepth 20000 in
theorem gL_asks_X4_isFaithful : GoodIn wsL_asks (wsV RL 86 RX4 yX4_isFaithful wsX4_isFaithful) := goodIn_app (goodIn_of _ (by decide +kernel)) ggL_asks_X4_isFaithful
theorem dL_asks_0 : decode cL_asks 0 = .ok (.iload_n 1, 1) := by decide +kernel
theorem dL_asks_1 : decode cL_asks 1 = .ok (.ifCond .ne 14, 3) := by decide +kernel
theorem dL_asks_4 : decode cL_asks 4 = .ok (.aload_n 0, 1) := by decide +kernel
theorem dL_asks_5 : decode cL_asks 5 = .ok (.iload_n 2, 1) := by decide +kernel
theorem dL_asks_6 : decode cL_asks 6 = .ok (.iload_n 3, 1) := by decide +kernel
theorem dL_asks_7 : decode cL_asks 7 = .ok (.iload 4, 2) := by decide +kernel
theorem dL_asks_9 : decode cL_asks 9 = .ok (.invokevirtual 70, 3) := by decide +kernel
theorem dL_asks_12 : decode cL_asks 12 = .ok (.goto 75, 3) := by decide +kernel
theorem dL_asks_15 : decode cL_asks 15 = .ok (.iload_n 1, 1) := by decide +kernel
theorem dL_asks_16 : decode cL_asks 16 = .ok (.iconst 1, 1) := by decide +kernel
theorem dL_asks_17 : decode cL_asks 17 = .ok (.if_icmp .ne 11, 3) := by decide +kernel
theorem dL_asks_20 : decode cL_asks 20 = .ok (.aload_n 0, 1) := by decide +kernel
theorem dL_asks_21 : decode cL_asks 21 = .ok (.iload_n 2, 1) := by decide +kernel
theorem dL_asks_22 : decode cL_asks 22 = .ok (.invokevirtual 73, 3) := by decide +kernel
theorem dL_asks_25 : decode cL_asks 25 = .ok (.goto 62, 3) := by decide +kernel
theorem dL_asks_28 : decode cL_asks 28 = .ok (.iload_n 1, 1) := by decide +kernel
theorem dL_asks_29 : decode cL_asks 29 = .ok (.iconst 2, 1) := by decide +kernel
theorem dL_asks_30 : decode cL_asks 30 = .ok (.if_icmp .ne 11, 3) := by decide +kernel
theorem dL_asks_33 : decode cL_asks 33 = .ok (.aload_n 0, 1) := by decide +kernel
theorem dL_asks_34 : decode cL_asks 34 = .ok (.iload_n 2, 1) := by decide +kernel
theorem dL_asks_35 : decode cL_asks 35 = .ok (.invokevirtual 76, 3) := by decide +kernel
theorem dL_asks_38 : decode cL_asks 38 = .ok (.goto 49, 3) := by decide +kernel
theorem dL_asks_41 : decode cL_asks 41 = .ok (.iload_n 1, 1) := by decide +kernel
theorem dL_asks_42 : decode cL_asks 42 = .ok (.iconst 3, 1) := by decide +kernel
theorem dL_asks_43 : decode cL_asks 43 = .ok (.if_icmp .ne 12, 3) := by decide +kernel
theorem dL_asks_46 : decode cL_asks 46 = .ok (.aload_n 0, 1) := by decide +kernel
theorem dL_asks_47 : decode cL_asks 47 = .ok (.iload_n 2, 1) := by decide +kernel
theorem dL_asks_48 : decode cL_asks 48 = .ok (.iload_n 3, 1) := by decide +kernel
theorem dL_asks_49 : decode cL_asks 49 = .ok (.invokevirtual 79, 3) := by decide +kernel
theorem dL_asks_52 : decode cL_asks 52 = .ok (.goto 35, 3) := by decide +kernel
theorem dL_asks_55 : decode cL_asks 55 = .ok (.iload_n 1, 1) := by decide +kernel
theorem dL_asks_56 : decode cL_asks 56 = .ok (.iconst 4, 1) := by decide +kernel
theorem dL_asks_57 : decode cL_asks 57 = .ok (.if_icmp .ne 16, 3) := by decide +kernel
theorem dL_asks_60 : decode cL_asks 60 = .ok (.aload_n 0, 1) := by decide +kernel
theorem dL_asks_61 : decode cL_asks 61 = .ok (.iload_n 2, 1) := by decide +kernel
theorem dL_asks_62 : decode cL_asks 62 = .ok (.iload_n 3, 1) := by decide +kernel
theorem dL_asks_63 : decode cL_asks 63 = .ok (.iload 4, 2) := by decide +kernel
theorem dL_asks_65 : decode cL_asks 65 = .ok (.iload 5, 2) := by decide +kernel
theorem dL_asks_67 : decode cL_asks 67 = .ok (.invokevirtual 82, 3) := by decide +kernel
theorem dL_asks_70 : decode cL_asks 70 = .ok (.goto 17, 3) := by decide +kernel
theorem dL_asks_73 : decode cL_asks 73 = .ok (.aload_n 0, 1) := by decide +kernel
theorem dL_asks_74 : decode cL_asks 74 = .ok (.iload_n 2, 1) := by decide +kernel
theorem dL_asks_75 : decode cL_asks 75 = .ok (.iload_n 3, 1) := by decide +kernel
theorem dL_asks_76 : decode cL_asks 76 = .ok (.invokevirtual 86, 3) := by decide +kernel
theorem dL_asks_79 : decode cL_asks 79 = .ok (.ifCond .eq 7, 3) := by decide +kernel
theorem dL_asks_82 : decode cL_asks 82 = .ok (.iconst 1, 1) := by decide +kernel
theorem dL_asks_83 : decode cL_asks 83 = .ok (.goto 4, 3) := by decide +kernel
theorem dL_asks_86 : decode cL_asks 86 = .ok (.iconst 0, 1) := by decide +kernel
theorem dL_asks_87 : decode cL_asks 87 = .ok (.ireturn, 1) := by decide +kernel
theorem dL_asks_88 : decode cL_asks 88 = .ok (.astore 6, 2) := by decide +kernel
theorem dL_asks_90 : decode cL_asks 90 = .ok (.bipush (-30), 2) := by decide +kernel
theorem dL_asks_92 : decode cL_asks 92 = .ok (.ireturn, 1) := by decide +kernel
theorem dL_asks_93 : decode cL_asks 93 = .ok (.astore 6, 2) := by decide +kernel
theorem dL_asks_95 : decode cL_asks 95 = .ok (.bipush (-10), 2) := by decide +kernel
theorem dL_asks_97 : decode cL_asks 97 = .ok (.ireturn, 1) := by decide +kernel
set_option maxRecDepth 20000 in
theorem ggL_isPublisher_X4_commits : GoodIn wsL_isPublisher wsX4_commits := goodIn_r _ [5, 6, 95, 96, 97, 98, 99, 100, 101, 102, 103, 104, 105, 106] (by decide +kernel) (by decide +kernel)
set_option maxRecDepth 20000 in
theorem gL_isPublisher_X4_commits : GoodIn wsL_isPublisher (wsV RL 90 RX4 yX4_commits wsX4_commits) := goodIn_app (goodIn_of _ (by decide +kernel)) ggL_isPublisher_X4_commits
set_option maxRecDepth 20000 in
theorem ggL_isPublisher_L_asks : GoodIn wsL_isPublisher wsL_asks := goodIn_ca (goodIn_ca (goodIn_r _ [10, 11, 12, 13, 14, 15, 4, 16, 6, 17, 18, 19, 20, 21, 22, 23, 24, 25, 26, 27, 28, 29, 30, 31, 32, 33, 34, 35, 36, 37, 38, 39, 40, 41, 42, 43, 44, 45, 46, 47, 48, 49, 50, 51, 52, 53, 54, 55, 56, 57, 58, 59, 60, 61, 62, 63, 64, 65, 66, 67, 68, 69, 70, 71, 72, 73, 74, 75, 76, 77, 78, 79, 80, 81, 82, 83, 84, 85, 86, 87, 88, 89, 90, 91, 92, 93, 94, 95, 96, 97, 98, 99, 100, 101, 102, 103, 104, 105, 106, 107, 108, 109, 110, 111, 112, 113, 114, 115] (by decide +kernel) (by decide +kernel)) (goodIn_sub (fun _ h => List.mem_cons_of_mem _ (List.mem_append_left _ (List.mem_append_right _ h))) (by decide +kernel))) (goodIn_sub (fun _ h => List.mem_cons_of_mem _ (List.mem_append_right _ h)) (by decide +kernel))
set_option maxRecDepth 20000 in
theorem gL_isPublisher_L_asks : GoodIn wsL_isPublisher (va_wsS RL 93 yL_asks wsL_asks) := goodIn_app (goodIn_of _ (by decide +kernel)) ggL_isPublisher_L_asks
set_option maxRecDepth 20000 in
theorem ggL_isPublisher_X4_at : GoodIn wsL_isPublisher wsX4_at := goodIn_ca (goodIn_r _ [16, 6, 17, 18, 4, 19, 20, 21, 22, 23, 24, 25, 26, 27, 28, 29, 30, 31, 32, 33, 95, 96, 97, 98, 99, 100, 101, 102, 103, 104, 105, 106] (by decide +kernel) (by decide +kernel)) (goodIn_sub (fun _ h => List.mem_cons_of_mem _ (List.mem_append_left _ (List.mem_append_right _ h))) (by decide +kernel))
set_option maxRecDepth 20000 in
theorem gL_isPublisher_X4_at : GoodIn wsL_isPublisher (wsV RL 70 RX4 yX4_at wsX4_at) := goodIn_app (goodIn_of _ (by decide +kernel)) ggL_isPublisher_X4_at
theorem dL_isPublisher_0 : decode cL_isPublisher 0 = .ok (.aload_n 0, 1) := by decide +kernel
theorem dL_isPublisher_1 : decode cL_isPublisher 1 = .ok (.invokevirtual 90, 3) := by decide +kernel
theorem dL_isPublisher_4 : decode cL_isPublisher 4 = .ok (.aload_n 2, 1) := by decide +kernel
theorem dL_isPublisher_5 : decode cL_isPublisher 5 = .ok (.iconst 0, 1) := by decide +kernel
theorem dL_isPublisher_6 : decode cL_isPublisher 6 = .ok (.iaload, 1) := by decide +kernel
theorem dL_isPublisher_7 : decode cL_isPublisher 7 = .ok (.if_icmp .ne 50, 3) := by decide +kernel
theorem dL_isPublisher_10 : decode cL_isPublisher 10 = .ok (.aload_n 0, 1) := by decide +kernel
theorem dL_isPublisher_11 : decode cL_isPublisher 11 = .ok (.iconst 0, 1) := by decide +kernel
theorem dL_isPublisher_12 : decode cL_isPublisher 12 = .ok (.iconst 2, 1) := by decide +kernel
theorem dL_isPublisher_13 : decode cL_isPublisher 13 = .ok (.iconst 0, 1) := by decide +kernel
theorem dL_isPublisher_14 : decode cL_isPublisher 14 = .ok (.iconst 0, 1) := by decide +kernel
theorem dL_isPublisher_15 : decode cL_isPublisher 15 = .ok (.iconst 0, 1) := by decide +kernel
theorem dL_isPublisher_16 : decode cL_isPublisher 16 = .ok (.invokestatic 93, 3) := by decide +kernel
theorem dL_isPublisher_19 : decode cL_isPublisher 19 = .ok (.bipush (-30), 2) := by decide +kernel
theorem dL_isPublisher_21 : decode cL_isPublisher 21 = .ok (.if_icmp .ne 36, 3) := by decide +kernel
theorem dL_isPublisher_24 : decode cL_isPublisher 24 = .ok (.aload_n 0, 1) := by decide +kernel
theorem dL_isPublisher_25 : decode cL_isPublisher 25 = .ok (.iconst 0, 1) := by decide +kernel
theorem dL_isPublisher_26 : decode cL_isPublisher 26 = .ok (.iconst 0, 1) := by decide +kernel
theorem dL_isPublisher_27 : decode cL_isPublisher 27 = .ok (.bipush 12, 2) := by decide +kernel
theorem dL_isPublisher_29 : decode cL_isPublisher 29 = .ok (.iconst 0, 1) := by decide +kernel
theorem dL_isPublisher_30 : decode cL_isPublisher 30 = .ok (.iconst 0, 1) := by decide +kernel
theorem dL_isPublisher_31 : decode cL_isPublisher 31 = .ok (.invokestatic 93, 3) := by decide +kernel
theorem dL_isPublisher_34 : decode cL_isPublisher 34 = .ok (.bipush (-30), 2) := by decide +kernel
theorem dL_isPublisher_36 : decode cL_isPublisher 36 = .ok (.if_icmp .ne 21, 3) := by decide +kernel
theorem dL_isPublisher_39 : decode cL_isPublisher 39 = .ok (.aload_n 0, 1) := by decide +kernel
theorem dL_isPublisher_40 : decode cL_isPublisher 40 = .ok (.iconst 0, 1) := by decide +kernel
theorem dL_isPublisher_41 : decode cL_isPublisher 41 = .ok (.iconst 0, 1) := by decide +kernel
theorem dL_isPublisher_42 : decode cL_isPublisher 42 = .ok (.iconst 0, 1) := by decide +kernel
theorem dL_isPublisher_43 : decode cL_isPublisher 43 = .ok (.iconst 3, 1) := by decide +kernel
theorem dL_isPublisher_44 : decode cL_isPublisher 44 = .ok (.iconst 0, 1) := by decide +kernel
theorem dL_isPublisher_45 : decode cL_isPublisher 45 = .ok (.invokestatic 93, 3) := by decide +kernel
theorem dL_isPublisher_48 : decode cL_isPublisher 48 = .ok (.bipush (-30), 2) := by decide +kernel
theorem dL_isPublisher_50 : decode cL_isPublisher 50 = .ok (.if_icmp .ne 7, 3) := by decide +kernel
theorem dL_isPublisher_53 : decode cL_isPublisher 53 = .ok (.iconst 1, 1) := by decide +kernel
theorem dL_isPublisher_54 : decode cL_isPublisher 54 = .ok (.goto 4, 3) := by decide +kernel
theorem dL_isPublisher_57 : decode cL_isPublisher 57 = .ok (.iconst 0, 1) := by decide +kernel
theorem dL_isPublisher_58 : decode cL_isPublisher 58 = .ok (.istore_n 3, 1) := by decide +kernel
theorem dL_isPublisher_59 : decode cL_isPublisher 59 = .ok (.iconst 0, 1) := by decide +kernel
theorem dL_isPublisher_60 : decode cL_isPublisher 60 = .ok (.istore 4, 2) := by decide +kernel
theorem dL_isPublisher_62 : decode cL_isPublisher 62 = .ok (.iload 4, 2) := by decide +kernel
theorem dL_isPublisher_64 : decode cL_isPublisher 64 = .ok (.bipush 24, 2) := by decide +kernel
theorem dL_isPublisher_66 : decode cL_isPublisher 66 = .ok (.if_icmp .ge 124, 3) := by decide +kernel
theorem dL_isPublisher_69 : decode cL_isPublisher 69 = .ok (.iload_n 3, 1) := by decide +kernel
theorem dL_isPublisher_70 : decode cL_isPublisher 70 = .ok (.ifCond .eq 120, 3) := by decide +kernel
theorem dL_isPublisher_73 : decode cL_isPublisher 73 = .ok (.aload_n 0, 1) := by decide +kernel
theorem dL_isPublisher_74 : decode cL_isPublisher 74 = .ok (.iload 4, 2) := by decide +kernel
theorem dL_isPublisher_76 : decode cL_isPublisher 76 = .ok (.bipush 12, 2) := by decide +kernel
theorem dL_isPublisher_78 : decode cL_isPublisher 78 = .ok (.idiv, 1) := by decide +kernel
theorem dL_isPublisher_79 : decode cL_isPublisher 79 = .ok (.iload 4, 2) := by decide +kernel
theorem dL_isPublisher_81 : decode cL_isPublisher 81 = .ok (.bipush 12, 2) := by decide +kernel
theorem dL_isPublisher_83 : decode cL_isPublisher 83 = .ok (.irem, 1) := by decide +kernel
theorem dL_isPublisher_84 : decode cL_isPublisher 84 = .ok (.iconst 0, 1) := by decide +kernel
theorem dL_isPublisher_85 : decode cL_isPublisher 85 = .ok (.invokevirtual 70, 3) := by decide +kernel
theorem dL_isPublisher_88 : decode cL_isPublisher 88 = .ok (.istore 5, 2) := by decide +kernel
theorem dL_isPublisher_90 : decode cL_isPublisher 90 = .ok (.aload_n 1, 1) := by decide +kernel
theorem dL_isPublisher_91 : decode cL_isPublisher 91 = .ok (.iload 4, 2) := by decide +kernel
theorem dL_isPublisher_93 : decode cL_isPublisher 93 = .ok (.iaload, 1) := by decide +kernel
theorem dL_isPublisher_94 : decode cL_isPublisher 94 = .ok (.ifCond .ge 36, 3) := by decide +kernel
theorem dL_isPublisher_97 : decode cL_isPublisher 97 = .ok (.iload 5, 2) := by decide +kernel
theorem dL_isPublisher_99 : decode cL_isPublisher 99 = .ok (.iconst (-1), 1) := by decide +kernel
theorem dL_isPublisher_100 : decode cL_isPublisher 100 = .ok (.if_icmp .ne 26, 3) := by decide +kernel
theorem dL_isPublisher_103 : decode cL_isPublisher 103 = .ok (.aload_n 0, 1) := by decide +kernel
theorem dL_isPublisher_104 : decode cL_isPublisher 104 = .ok (.iload 4, 2) := by decide +kernel
theorem dL_isPublisher_106 : decode cL_isPublisher 106 = .ok (.bipush 12, 2) := by decide +kernel
theorem dL_isPublisher_108 : decode cL_isPublisher 108 = .ok (.idiv, 1) := by decide +kernel
theorem dL_isPublisher_109 : decode cL_isPublisher 109 = .ok (.iload 4, 2) := by decide +kernel
theorem dL_isPublisher_111 : decode cL_isPublisher 111 = .ok (.bipush 12, 2) := by decide +kernel
theorem dL_isPublisher_113 : decode cL_isPublisher 113 = .ok (.irem, 1) := by decide +kernel
theorem dL_isPublisher_114 : decode cL_isPublisher 114 = .ok (.iconst 2, 1) := by decide +kernel
theorem dL_isPublisher_115 : decode cL_isPublisher 115 = .ok (.invokevirtual 70, 3) := by decide +kernel
theorem dL_isPublisher_118 : decode cL_isPublisher 118 = .ok (.iconst (-1), 1) := by decide +kernel
theorem dL_isPublisher_119 : decode cL_isPublisher 119 = .ok (.if_icmp .ne 7, 3) := by decide +kernel
theorem dL_isPublisher_122 : decode cL_isPublisher 122 = .ok (.iconst 1, 1) := by decide +kernel
theorem dL_isPublisher_123 : decode cL_isPublisher 123 = .ok (.goto 60, 3) := by decide +kernel
theorem dL_isPublisher_126 : decode cL_isPublisher 126 = .ok (.iconst 0, 1) := by decide +kernel
theorem dL_isPublisher_127 : decode cL_isPublisher 127 = .ok (.goto 56, 3) := by decide +kernel
theorem dL_isPublisher_130 : decode cL_isPublisher 130 = .ok (.iload 5, 2) := by decide +kernel
theorem dL_isPublisher_132 : decode cL_isPublisher 132 = .ok (.bipush 100, 2) := by decide +kernel
theorem dL_isPublisher_134 : decode cL_isPublisher 134 = .ok (.aload_n 0, 1) := by decide +kernel
theorem dL_isPublisher_135 : decode cL_isPublisher 135 = .ok (.iload 4, 2) := by decide +kernel
theorem dL_isPublisher_137 : decode cL_isPublisher 137 = .ok (.bipush 12, 2) := by decide +kernel
theorem dL_isPublisher_139 : decode cL_isPublisher 139 = .ok (.idiv, 1) := by decide +kernel
theorem dL_isPublisher_140 : decode cL_isPublisher 140 = .ok (.iload 4, 2) := by decide +kernel
theorem dL_isPublisher_142 : decode cL_isPublisher 142 = .ok (.bipush 12, 2) := by decide +kernel
theorem dL_isPublisher_144 : decode cL_isPublisher 144 = .ok (.irem, 1) := by decide +kernel
theorem dL_isPublisher_145 : decode cL_isPublisher 145 = .ok (.iconst 1, 1) := by decide +kernel
theorem dL_isPublisher_146 : decode cL_isPublisher 146 = .ok (.invokevirtual 70, 3) := by decide +kernel
theorem dL_isPublisher_149 : decode cL_isPublisher 149 = .ok (.imul, 1) := by decide +kernel
theorem dL_isPublisher_150 : decode cL_isPublisher 150 = .ok (.iadd, 1) := by decide +kernel
theorem dL_isPublisher_151 : decode cL_isPublisher 151 = .ok (.sipush 10000, 3) := by decide +kernel
theorem dL_isPublisher_154 : decode cL_isPublisher 154 = .ok (.aload_n 0, 1) := by decide +kernel
theorem dL_isPublisher_155 : decode cL_isPublisher 155 = .ok (.iload 4, 2) := by decide +kernel
theorem dL_isPublisher_157 : decode cL_isPublisher 157 = .ok (.bipush 12, 2) := by decide +kernel
theorem dL_isPublisher_159 : decode cL_isPublisher 159 = .ok (.idiv, 1) := by decide +kernel
theorem dL_isPublisher_160 : decode cL_isPublisher 160 = .ok (.iload 4, 2) := by decide +kernel
theorem dL_isPublisher_162 : decode cL_isPublisher 162 = .ok (.bipush 12, 2) := by decide +kernel
theorem dL_isPublisher_164 : decode cL_isPublisher 164 = .ok (.irem, 1) := by decide +kernel
theorem dL_isPublisher_165 : decode cL_isPublisher 165 = .ok (.iconst 2, 1) := by decide +kernel
theorem dL_isPublisher_166 : decode cL_isPublisher 166 = .ok (.invokevirtual 70, 3) := by decide +kernel
theorem dL_isPublisher_169 : decode cL_isPublisher 169 = .ok (.imul, 1) := by decide +kernel
theorem dL_isPublisher_170 : decode cL_isPublisher 170 = .ok (.iadd, 1) := by decide +kernel
theorem dL_isPublisher_171 : decode cL_isPublisher 171 = .ok (.aload_n 1, 1) := by decide +kernel
theorem dL_isPublisher_172 : decode cL_isPublisher 172 = .ok (.iload 4, 2) := by decide +kernel
theorem dL_isPublisher_174 : decode cL_isPublisher 174 = .ok (.iaload, 1) := by decide +kernel
theorem dL_isPublisher_175 : decode cL_isPublisher 175 = .ok (.if_icmp .ne 7, 3) := by decide +kernel
theorem dL_isPublisher_178 : decode cL_isPublisher 178 = .ok (.iconst 1, 1) := by decide +kernel
theorem dL_isPublisher_179 : decode cL_isPublisher 179 = .ok (.goto 4, 3) := by decide +kernel
theorem dL_isPublisher_182 : decode cL_isPublisher 182 = .ok (.iconst 0, 1) := by decide +kernel
theorem dL_isPublisher_183 : decode cL_isPublisher 183 = .ok (.istore_n 3, 1) := by decide +kernel
theorem dL_isPublisher_184 : decode cL_isPublisher 184 = .ok (.iinc 4 1, 3) := by decide +kernel
theorem dL_isPublisher_187 : decode cL_isPublisher 187 = .ok (.goto (-125), 3) := by decide +kernel
theorem dL_isPublisher_190 : decode cL_isPublisher 190 = .ok (.iload_n 3, 1) := by decide +kernel
theorem dL_isPublisher_191 : decode cL_isPublisher 191 = .ok (.ireturn, 1) := by decide +kernel
set_option maxRecDepth 20000 in
theorem ggL_areSubscribers_L_asks : GoodIn wsL_areSubscribers wsL_asks := goodIn_ca (goodIn_ca (goodIn_r _ [4, 5, 6, 7, 8, 9, 10, 11, 12, 13, 14, 15, 16, 17, 18, 19, 20, 21, 22, 23, 24, 25, 26, 27, 28, 29, 30, 31, 32, 33, 34, 35, 36, 37, 38, 39, 40, 41, 42, 43, 44, 45, 46, 47, 48, 49, 50, 51, 52, 53, 54, 55, 56, 57, 58, 59, 60, 61, 62, 63, 64, 65, 66, 67, 68, 69, 70, 71, 72, 73, 74, 75, 76, 77, 78, 79, 80, 81, 82, 83, 84, 85, 86, 87, 88, 89, 90, 91, 92, 93, 94, 95, 96, 97, 98, 99, 100, 101, 102, 103, 104, 105, 106, 107, 108, 109, 110, 111] (by decide +kernel) (by decide +kernel)) (goodIn_sub (fun _ h => List.mem_cons_of_mem _ (List.mem_append_left _ (List.mem_append_right _ h))) (by decide +kernel))) (goodIn_sub (fun _ h => List.mem_cons_of_mem _ (List.mem_append_right _ h)) (by decide +kernel))
set_option maxRecDepth 20000 in
theorem gL_areSubscribers_L_asks : GoodIn wsL_areSubscribers (va_wsS RL 93 yL_asks wsL_asks) := goodIn_app (goodIn_of _ (by decide +kernel)) ggL_areSubscribers_L_asks
set_option maxRecDepth 20000 in
theorem ggL_areSubscribers_X4_state : GoodIn wsL_areSubscribers wsX4_state := goodIn_ca (goodIn_r _ [33, 34, 35, 36, 10, 37, 16, 17, 91, 92, 93, 94, 95, 103, 104, 105, 106, 107] (by decide +kernel) (by decide +kernel)) (goodIn_sub (fun _ h => List.mem_cons_of_mem _ (List.mem_append_left _ (List.mem_append_right _ h))) (by decide +kernel))
set_option maxRecDepth 20000 in
theorem gL_areSubscribers_X4_state : GoodIn wsL_areSubscribers (wsV RL 73 RX4 yX4_state wsX4_state) := goodIn_app (goodIn_of _ (by decide +kernel)) ggL_areSubscribers_X4_state
set_option maxRecDepth 20000 in
theorem ggL_areSubscribers_X4_lag : GoodIn wsL_areSubscribers wsX4_lag := goodIn_ca (goodIn_r _ [41, 34, 12, 35, 36, 10, 37, 16, 17, 42, 43, 44, 45, 46, 47, 48, 49, 50, 51, 52, 91, 92, 93, 94, 95, 96, 97, 98, 99, 100, 101, 102, 103, 104, 105, 106, 107] (by decide +kernel) (by decide +kernel)) (goodIn_sub (fun _ h => List.mem_cons_of_mem _ (List.mem_append_left _ (List.mem_append_right _ h))) (by decide +kernel))
set_option maxRecDepth 20000 in
theorem gL_areSubscribers_X4_lag : GoodIn wsL_areSubscribers (wsV RL 76 RX4 yX4_lag wsX4_lag) := goodIn_app (goodIn_of _ (by decide +kernel)) ggL_areSubscribers_X4_lag
set_option maxRecDepth 20000 in
theorem ggL_areSubscribers_X4_copiedAt : GoodIn wsL_areSubscribers wsX4_copiedAt := goodIn_ca (goodIn_r _ [56, 34, 35, 36, 10, 37, 16, 17, 18, 19, 20, 91, 92, 93, 94, 95, 103, 104, 105, 106, 107] (by decide +kernel) (by decide +kernel)) (goodIn_sub (fun _ h => List.mem_cons_of_mem _ (List.mem_append_left _ (List.mem_append_right _ h))) (by decide +kernel))
set_option maxRecDepth 20000 in
theorem gL_areSubscribers_X4_copiedAt : GoodIn wsL_areSubscribers (wsV RL 79 RX4 yX4_copiedAt wsX4_copiedAt) := goodIn_app (goodIn_of _ (by decide +kernel)) ggL_areSubscribers_X4_copiedAt
set_option maxRecDepth 20000 in
theorem ggL_areSubscribers_X4_seen : GoodIn wsL_areSubscribers wsX4_seen := goodIn_ca (goodIn_r _ [60, 34, 35, 36, 10, 37, 16, 17, 13, 14, 15, 18, 19, 20, 21, 22, 23, 24, 25, 26, 27, 28, 29, 91, 92, 93, 94, 95, 103, 104, 105, 106, 107] (by decide +kernel) (by decide +kernel)) (goodIn_sub (fun _ h => List.mem_cons_of_mem _ (List.mem_append_left _ (List.mem_append_right _ h))) (by decide +kernel))
set_option maxRecDepth 20000 in
theorem gL_areSubscribers_X4_seen : GoodIn wsL_areSubscribers (wsV RL 82 RX4 yX4_seen wsX4_seen) := goodIn_app (goodIn_of _ (by decide +kernel)) ggL_areSubscribers_X4_seen
theorem dL_areSubscribers_0 : decode cL_areSubscribers 0 = .ok (.aload_n 0, 1) := by decide +kernel
theorem dL_areSubscribers_1 : decode cL_areSubscribers 1 = .ok (.iconst 1, 1) := by decide +kernel
theorem dL_areSubscribers_2 : decode cL_areSubscribers 2 = .ok (.iconst 3, 1) := by decide +kernel
theorem dL_areSubscribers_3 : decode cL_areSubscribers 3 = .ok (.iconst 0, 1) := by decide +kernel
theorem dL_areSubscribers_4 : decode cL_areSubscribers 4 = .ok (.iconst 0, 1) := by decide +kernel
theorem dL_areSubscribers_5 : decode cL_areSubscribers 5 = .ok (.iconst 0, 1) := by decide +kernel
theorem dL_areSubscribers_6 : decode cL_areSubscribers 6 = .ok (.invokestatic 93, 3) := by decide +kernel
theorem dL_areSubscribers_9 : decode cL_areSubscribers 9 = .ok (.bipush (-30), 2) := by decide +kernel
theorem dL_areSubscribers_11 : decode cL_areSubscribers 11 = .ok (.if_icmp .ne 64, 3) := by decide +kernel
theorem dL_areSubscribers_14 : decode cL_areSubscribers 14 = .ok (.aload_n 0, 1) := by decide +kernel
theorem dL_areSubscribers_15 : decode cL_areSubscribers 15 = .ok (.iconst 2, 1) := by decide +kernel
theorem dL_areSubscribers_16 : decode cL_areSubscribers 16 = .ok (.iconst (-1), 1) := by decide +kernel
theorem dL_areSubscribers_17 : decode cL_areSubscribers 17 = .ok (.iconst 0, 1) := by decide +kernel
theorem dL_areSubscribers_18 : decode cL_areSubscribers 18 = .ok (.iconst 0, 1) := by decide +kernel
theorem dL_areSubscribers_19 : decode cL_areSubscribers 19 = .ok (.iconst 0, 1) := by decide +kernel
theorem dL_areSubscribers_20 : decode cL_areSubscribers 20 = .ok (.invokestatic 93, 3) := by decide +kernel
theorem dL_areSubscribers_23 : decode cL_areSubscribers 23 = .ok (.bipush (-30), 2) := by decide +kernel
theorem dL_areSubscribers_25 : decode cL_areSubscribers 25 = .ok (.if_icmp .ne 50, 3) := by decide +kernel
theorem dL_areSubscribers_28 : decode cL_areSubscribers 28 = .ok (.aload_n 0, 1) := by decide +kernel
theorem dL_areSubscribers_29 : decode cL_areSubscribers 29 = .ok (.iconst 3, 1) := by decide +kernel
theorem dL_areSubscribers_30 : decode cL_areSubscribers 30 = .ok (.iconst 0, 1) := by decide +kernel
theorem dL_areSubscribers_31 : decode cL_areSubscribers 31 = .ok (.iconst 2, 1) := by decide +kernel
theorem dL_areSubscribers_32 : decode cL_areSubscribers 32 = .ok (.iconst 0, 1) := by decide +kernel
theorem dL_areSubscribers_33 : decode cL_areSubscribers 33 = .ok (.iconst 0, 1) := by decide +kernel
theorem dL_areSubscribers_34 : decode cL_areSubscribers 34 = .ok (.invokestatic 93, 3) := by decide +kernel
theorem dL_areSubscribers_37 : decode cL_areSubscribers 37 = .ok (.bipush (-30), 2) := by decide +kernel
theorem dL_areSubscribers_39 : decode cL_areSubscribers 39 = .ok (.if_icmp .ne 36, 3) := by decide +kernel
theorem dL_areSubscribers_42 : decode cL_areSubscribers 42 = .ok (.aload_n 0, 1) := by decide +kernel
theorem dL_areSubscribers_43 : decode cL_areSubscribers 43 = .ok (.iconst 4, 1) := by decide +kernel
theorem dL_areSubscribers_44 : decode cL_areSubscribers 44 = .ok (.iconst 0, 1) := by decide +kernel
theorem dL_areSubscribers_45 : decode cL_areSubscribers 45 = .ok (.iconst 0, 1) := by decide +kernel
theorem dL_areSubscribers_46 : decode cL_areSubscribers 46 = .ok (.bipush 12, 2) := by decide +kernel
theorem dL_areSubscribers_48 : decode cL_areSubscribers 48 = .ok (.iconst 0, 1) := by decide +kernel
theorem dL_areSubscribers_49 : decode cL_areSubscribers 49 = .ok (.invokestatic 93, 3) := by decide +kernel
theorem dL_areSubscribers_52 : decode cL_areSubscribers 52 = .ok (.bipush (-30), 2) := by decide +kernel
theorem dL_areSubscribers_54 : decode cL_areSubscribers 54 = .ok (.if_icmp .ne 21, 3) := by decide +kernel
theorem dL_areSubscribers_57 : decode cL_areSubscribers 57 = .ok (.aload_n 0, 1) := by decide +kernel
theorem dL_areSubscribers_58 : decode cL_areSubscribers 58 = .ok (.iconst 5, 1) := by decide +kernel
theorem dL_areSubscribers_59 : decode cL_areSubscribers 59 = .ok (.iconst 3, 1) := by decide +kernel
theorem dL_areSubscribers_60 : decode cL_areSubscribers 60 = .ok (.iconst 0, 1) := by decide +kernel
theorem dL_areSubscribers_61 : decode cL_areSubscribers 61 = .ok (.iconst 0, 1) := by decide +kernel
theorem dL_areSubscribers_62 : decode cL_areSubscribers 62 = .ok (.iconst 0, 1) := by decide +kernel
theorem dL_areSubscribers_63 : decode cL_areSubscribers 63 = .ok (.invokestatic 93, 3) := by decide +kernel
theorem dL_areSubscribers_66 : decode cL_areSubscribers 66 = .ok (.bipush (-30), 2) := by decide +kernel
theorem dL_areSubscribers_68 : decode cL_areSubscribers 68 = .ok (.if_icmp .ne 7, 3) := by decide +kernel
theorem dL_areSubscribers_71 : decode cL_areSubscribers 71 = .ok (.iconst 1, 1) := by decide +kernel
theorem dL_areSubscribers_72 : decode cL_areSubscribers 72 = .ok (.goto 4, 3) := by decide +kernel
theorem dL_areSubscribers_75 : decode cL_areSubscribers 75 = .ok (.iconst 0, 1) := by decide +kernel
theorem dL_areSubscribers_76 : decode cL_areSubscribers 76 = .ok (.istore 4, 2) := by decide +kernel
theorem dL_areSubscribers_78 : decode cL_areSubscribers 78 = .ok (.iconst 0, 1) := by decide +kernel
theorem dL_areSubscribers_79 : decode cL_areSubscribers 79 = .ok (.istore 5, 2) := by decide +kernel
theorem dL_areSubscribers_81 : decode cL_areSubscribers 81 = .ok (.iload 5, 2) := by decide +kernel
theorem dL_areSubscribers_83 : decode cL_areSubscribers 83 = .ok (.iconst 3, 1) := by decide +kernel
theorem dL_areSubscribers_84 : decode cL_areSubscribers 84 = .ok (.if_icmp .ge 454, 3) := by decide +kernel
theorem dL_areSubscribers_87 : decode cL_areSubscribers 87 = .ok (.iload 4, 2) := by decide +kernel
theorem dL_areSubscribers_89 : decode cL_areSubscribers 89 = .ok (.ifCond .eq 449, 3) := by decide +kernel
theorem dL_areSubscribers_92 : decode cL_areSubscribers 92 = .ok (.bipush 7, 2) := by decide +kernel
theorem dL_areSubscribers_94 : decode cL_areSubscribers 94 = .ok (.iload 5, 2) := by decide +kernel
theorem dL_areSubscribers_96 : decode cL_areSubscribers 96 = .ok (.imul, 1) := by decide +kernel
theorem dL_areSubscribers_97 : decode cL_areSubscribers 97 = .ok (.istore 6, 2) := by decide +kernel
theorem dL_areSubscribers_99 : decode cL_areSubscribers 99 = .ok (.aload_n 2, 1) := by decide +kernel
theorem dL_areSubscribers_100 : decode cL_areSubscribers 100 = .ok (.iload 6, 2) := by decide +kernel
theorem dL_areSubscribers_102 : decode cL_areSubscribers 102 = .ok (.iconst 1, 1) := by decide +kernel
theorem dL_areSubscribers_103 : decode cL_areSubscribers 103 = .ok (.iadd, 1) := by decide +kernel
theorem dL_areSubscribers_104 : decode cL_areSubscribers 104 = .ok (.iaload, 1) := by decide +kernel
theorem dL_areSubscribers_105 : decode cL_areSubscribers 105 = .ok (.iconst 1, 1) := by decide +kernel
theorem dL_areSubscribers_106 : decode cL_areSubscribers 106 = .ok (.if_icmp .eq 13, 3) := by decide +kernel
theorem dL_areSubscribers_109 : decode cL_areSubscribers 109 = .ok (.aload_n 2, 1) := by decide +kernel
theorem dL_areSubscribers_110 : decode cL_areSubscribers 110 = .ok (.iload 6, 2) := by decide +kernel
theorem dL_areSubscribers_112 : decode cL_areSubscribers 112 = .ok (.iconst 1, 1) := by decide +kernel
theorem dL_areSubscribers_113 : decode cL_areSubscribers 113 = .ok (.iadd, 1) := by decide +kernel
theorem dL_areSubscribers_114 : decode cL_areSubscribers 114 = .ok (.iaload, 1) := by decide +kernel
theorem dL_areSubscribers_115 : decode cL_areSubscribers 115 = .ok (.iconst 2, 1) := by decide +kernel
theorem dL_areSubscribers_116 : decode cL_areSubscribers 116 = .ok (.if_icmp .ne 7, 3) := by decide +kernel
theorem dL_areSubscribers_119 : decode cL_areSubscribers 119 = .ok (.iconst 1, 1) := by decide +kernel
theorem dL_areSubscribers_120 : decode cL_areSubscribers 120 = .ok (.goto 4, 3) := by decide +kernel
theorem dL_areSubscribers_123 : decode cL_areSubscribers 123 = .ok (.iconst 0, 1) := by decide +kernel
theorem dL_areSubscribers_124 : decode cL_areSubscribers 124 = .ok (.istore 7, 2) := by decide +kernel
theorem dL_areSubscribers_126 : decode cL_areSubscribers 126 = .ok (.aload_n 0, 1) := by decide +kernel
theorem dL_areSubscribers_127 : decode cL_areSubscribers 127 = .ok (.iload 5, 2) := by decide +kernel
theorem dL_areSubscribers_129 : decode cL_areSubscribers 129 = .ok (.invokevirtual 73, 3) := by decide +kernel
theorem dL_areSubscribers_132 : decode cL_areSubscribers 132 = .ok (.aload_n 2, 1) := by decide +kernel
theorem dL_areSubscribers_133 : decode cL_areSubscribers 133 = .ok (.iload 6, 2) := by decide +kernel
theorem dL_areSubscribers_135 : decode cL_areSubscribers 135 = .ok (.iconst 1, 1) := by decide +kernel
theorem dL_areSubscribers_136 : decode cL_areSubscribers 136 = .ok (.iadd, 1) := by decide +kernel
theorem dL_areSubscribers_137 : decode cL_areSubscribers 137 = .ok (.iaload, 1) := by decide +kernel
theorem dL_areSubscribers_138 : decode cL_areSubscribers 138 = .ok (.if_icmp .ne 56, 3) := by decide +kernel
theorem dL_areSubscribers_141 : decode cL_areSubscribers 141 = .ok (.aload_n 0, 1) := by decide +kernel
theorem dL_areSubscribers_142 : decode cL_areSubscribers 142 = .ok (.iload 5, 2) := by decide +kernel
theorem dL_areSubscribers_144 : decode cL_areSubscribers 144 = .ok (.invokevirtual 76, 3) := by decide +kernel
theorem dL_areSubscribers_147 : decode cL_areSubscribers 147 = .ok (.iload 7, 2) := by decide +kernel
theorem dL_areSubscribers_149 : decode cL_areSubscribers 149 = .ok (.ifCond .eq 16, 3) := by decide +kernel
theorem dL_areSubscribers_152 : decode cL_areSubscribers 152 = .ok (.aload_n 3, 1) := by decide +kernel
theorem dL_areSubscribers_153 : decode cL_areSubscribers 153 = .ok (.iconst 0, 1) := by decide +kernel
theorem dL_areSubscribers_154 : decode cL_areSubscribers 154 = .ok (.iaload, 1) := by decide +kernel
theorem dL_areSubscribers_155 : decode cL_areSubscribers 155 = .ok (.aload_n 2, 1) := by decide +kernel
theorem dL_areSubscribers_156 : decode cL_areSubscribers 156 = .ok (.iload 6, 2) := by decide +kernel
theorem dL_areSubscribers_158 : decode cL_areSubscribers 158 = .ok (.iconst 2, 1) := by decide +kernel
theorem dL_areSubscribers_159 : decode cL_areSubscribers 159 = .ok (.iadd, 1) := by decide +kernel
theorem dL_areSubscribers_160 : decode cL_areSubscribers 160 = .ok (.iaload, 1) := by decide +kernel
theorem dL_areSubscribers_161 : decode cL_areSubscribers 161 = .ok (.isub, 1) := by decide +kernel
theorem dL_areSubscribers_162 : decode cL_areSubscribers 162 = .ok (.goto 4, 3) := by decide +kernel
theorem dL_areSubscribers_165 : decode cL_areSubscribers 165 = .ok (.iconst 0, 1) := by decide +kernel
theorem dL_areSubscribers_166 : decode cL_areSubscribers 166 = .ok (.if_icmp .ne 28, 3) := by decide +kernel
theorem dL_areSubscribers_169 : decode cL_areSubscribers 169 = .ok (.aload_n 0, 1) := by decide +kernel
theorem dL_areSubscribers_170 : decode cL_areSubscribers 170 = .ok (.iload 5, 2) := by decide +kernel
theorem dL_areSubscribers_172 : decode cL_areSubscribers 172 = .ok (.invokevirtual 76, 3) := by decide +kernel
theorem dL_areSubscribers_175 : decode cL_areSubscribers 175 = .ok (.iload 7, 2) := by decide +kernel
theorem dL_areSubscribers_177 : decode cL_areSubscribers 177 = .ok (.ifCond .eq 9, 3) := by decide +kernel
theorem dL_areSubscribers_180 : decode cL_areSubscribers 180 = .ok (.aload_n 3, 1) := by decide +kernel
theorem dL_areSubscribers_181 : decode cL_areSubscribers 181 = .ok (.iconst 2, 1) := by decide +kernel
theorem dL_areSubscribers_182 : decode cL_areSubscribers 182 = .ok (.iaload, 1) := by decide +kernel
theorem dL_areSubscribers_183 : decode cL_areSubscribers 183 = .ok (.goto 4, 3) := by decide +kernel
theorem dL_areSubscribers_186 : decode cL_areSubscribers 186 = .ok (.iconst 0, 1) := by decide +kernel
theorem dL_areSubscribers_187 : decode cL_areSubscribers 187 = .ok (.if_icmp .gt 7, 3) := by decide +kernel
theorem dL_areSubscribers_190 : decode cL_areSubscribers 190 = .ok (.iconst 1, 1) := by decide +kernel
theorem dL_areSubscribers_191 : decode cL_areSubscribers 191 = .ok (.goto 4, 3) := by decide +kernel
theorem dL_areSubscribers_194 : decode cL_areSubscribers 194 = .ok (.iconst 0, 1) := by decide +kernel
theorem dL_areSubscribers_195 : decode cL_areSubscribers 195 = .ok (.istore 4, 2) := by decide +kernel
theorem dL_areSubscribers_197 : decode cL_areSubscribers 197 = .ok (.iconst 0, 1) := by decide +kernel
theorem dL_areSubscribers_198 : decode cL_areSubscribers 198 = .ok (.istore 8, 2) := by decide +kernel
theorem dL_areSubscribers_200 : decode cL_areSubscribers 200 = .ok (.iload 8, 2) := by decide +kernel
theorem dL_areSubscribers_202 : decode cL_areSubscribers 202 = .ok (.iconst 2, 1) := by decide +kernel
theorem dL_areSubscribers_203 : decode cL_areSubscribers 203 = .ok (.if_icmp .ge 329, 3) := by decide +kernel
theorem dL_areSubscribers_206 : decode cL_areSubscribers 206 = .ok (.iload 4, 2) := by decide +kernel
theorem dL_areSubscribers_208 : decode cL_areSubscribers 208 = .ok (.ifCond .eq 324, 3) := by decide +kernel
theorem dL_areSubscribers_211 : decode cL_areSubscribers 211 = .ok (.aload_n 0, 1) := by decide +kernel
theorem dL_areSubscribers_212 : decode cL_areSubscribers 212 = .ok (.iload 5, 2) := by decide +kernel
theorem dL_areSubscribers_214 : decode cL_areSubscribers 214 = .ok (.iload 8, 2) := by decide +kernel
theorem dL_areSubscribers_216 : decode cL_areSubscribers 216 = .ok (.invokevirtual 79, 3) := by decide +kernel
theorem dL_areSubscribers_219 : decode cL_areSubscribers 219 = .ok (.istore 9, 2) := by decide +kernel
theorem dL_areSubscribers_221 : decode cL_areSubscribers 221 = .ok (.aload_n 0, 1) := by decide +kernel
theorem dL_areSubscribers_222 : decode cL_areSubscribers 222 = .ok (.iconst 5, 1) := by decide +kernel
theorem dL_areSubscribers_223 : decode cL_areSubscribers 223 = .ok (.iload 5, 2) := by decide +kernel
theorem dL_areSubscribers_225 : decode cL_areSubscribers 225 = .ok (.iload 8, 2) := by decide +kernel
theorem dL_areSubscribers_227 : decode cL_areSubscribers 227 = .ok (.iconst 0, 1) := by decide +kernel
theorem dL_areSubscribers_228 : decode cL_areSubscribers 228 = .ok (.iconst 0, 1) := by decide +kernel
theorem dL_areSubscribers_229 : decode cL_areSubscribers 229 = .ok (.invokestatic 93, 3) := by decide +kernel
theorem dL_areSubscribers_232 : decode cL_areSubscribers 232 = .ok (.istore 10, 2) := by decide +kernel
theorem dL_areSubscribers_234 : decode cL_areSubscribers 234 = .ok (.iload 9, 2) := by decide +kernel
theorem dL_areSubscribers_236 : decode cL_areSubscribers 236 = .ok (.aload_n 2, 1) := by decide +kernel
theorem dL_areSubscribers_237 : decode cL_areSubscribers 237 = .ok (.iload 6, 2) := by decide +kernel
theorem dL_areSubscribers_239 : decode cL_areSubscribers 239 = .ok (.iconst 3, 1) := by decide +kernel
theorem dL_areSubscribers_240 : decode cL_areSubscribers 240 = .ok (.iadd, 1) := by decide +kernel
theorem dL_areSubscribers_241 : decode cL_areSubscribers 241 = .ok (.iload 8, 2) := by decide +kernel
theorem dL_areSubscribers_243 : decode cL_areSubscribers 243 = .ok (.iadd, 1) := by decide +kernel
theorem dL_areSubscribers_244 : decode cL_areSubscribers 244 = .ok (.iaload, 1) := by decide +kernel
theorem dL_areSubscribers_245 : decode cL_areSubscribers 245 = .ok (.if_icmp .ne 51, 3) := by decide +kernel
theorem dL_areSubscribers_248 : decode cL_areSubscribers 248 = .ok (.iload 7, 2) := by decide +kernel
theorem dL_areSubscribers_250 : decode cL_areSubscribers 250 = .ok (.ifCond .eq 35, 3) := by decide +kernel
theorem dL_areSubscribers_253 : decode cL_areSubscribers 253 = .ok (.iload 9, 2) := by decide +kernel
theorem dL_areSubscribers_255 : decode cL_areSubscribers 255 = .ok (.ifCond .lt 30, 3) := by decide +kernel
theorem dL_areSubscribers_258 : decode cL_areSubscribers 258 = .ok (.iload 10, 2) := by decide +kernel
theorem dL_areSubscribers_260 : decode cL_areSubscribers 260 = .ok (.ifCond .lt 36, 3) := by decide +kernel
theorem dL_areSubscribers_263 : decode cL_areSubscribers 263 = .ok (.aload_n 2, 1) := by decide +kernel
theorem dL_areSubscribers_264 : decode cL_areSubscribers 264 = .ok (.iload 6, 2) := by decide +kernel
theorem dL_areSubscribers_266 : decode cL_areSubscribers 266 = .ok (.iconst 5, 1) := by decide +kernel
theorem dL_areSubscribers_267 : decode cL_areSubscribers 267 = .ok (.iadd, 1) := by decide +kernel
theorem dL_areSubscribers_268 : decode cL_areSubscribers 268 = .ok (.iload 8, 2) := by decide +kernel
theorem dL_areSubscribers_270 : decode cL_areSubscribers 270 = .ok (.iadd, 1) := by decide +kernel
theorem dL_areSubscribers_271 : decode cL_areSubscribers 271 = .ok (.iaload, 1) := by decide +kernel
theorem dL_areSubscribers_272 : decode cL_areSubscribers 272 = .ok (.iconst 1, 1) := by decide +kernel
theorem dL_areSubscribers_273 : decode cL_areSubscribers 273 = .ok (.if_icmp .eq 19, 3) := by decide +kernel
theorem dL_areSubscribers_276 : decode cL_areSubscribers 276 = .ok (.iload 10, 2) := by decide +kernel
theorem dL_areSubscribers_278 : decode cL_areSubscribers 278 = .ok (.iconst 1, 1) := by decide +kernel
theorem dL_areSubscribers_279 : decode cL_areSubscribers 279 = .ok (.if_icmp .ne 17, 3) := by decide +kernel
theorem dL_areSubscribers_282 : decode cL_areSubscribers 282 = .ok (.goto 10, 3) := by decide +kernel
theorem dL_areSubscribers_285 : decode cL_areSubscribers 285 = .ok (.iload 10, 2) := by decide +kernel
theorem dL_areSubscribers_287 : decode cL_areSubscribers 287 = .ok (.bipush (-10), 2) := by decide +kernel
theorem dL_areSubscribers_289 : decode cL_areSubscribers 289 = .ok (.if_icmp .ne 7, 3) := by decide +kernel
theorem dL_areSubscribers_292 : decode cL_areSubscribers 292 = .ok (.iconst 1, 1) := by decide +kernel
theorem dL_areSubscribers_293 : decode cL_areSubscribers 293 = .ok (.goto 4, 3) := by decide +kernel
theorem dL_areSubscribers_296 : decode cL_areSubscribers 296 = .ok (.iconst 0, 1) := by decide +kernel
theorem dL_areSubscribers_297 : decode cL_areSubscribers 297 = .ok (.istore 4, 2) := by decide +kernel
theorem dL_areSubscribers_299 : decode cL_areSubscribers 299 = .ok (.iconst 0, 1) := by decide +kernel
theorem dL_areSubscribers_300 : decode cL_areSubscribers 300 = .ok (.istore 11, 2) := by decide +kernel
theorem dL_areSubscribers_302 : decode cL_areSubscribers 302 = .ok (.iload 11, 2) := by decide +kernel
theorem dL_areSubscribers_304 : decode cL_areSubscribers 304 = .ok (.bipush 12, 2) := by decide +kernel
theorem dL_areSubscribers_306 : decode cL_areSubscribers 306 = .ok (.if_icmp .ge 220, 3) := by decide +kernel
theorem dL_areSubscribers_309 : decode cL_areSubscribers 309 = .ok (.iload 4, 2) := by decide +kernel
theorem dL_areSubscribers_311 : decode cL_areSubscribers 311 = .ok (.ifCond .eq 215, 3) := by decide +kernel
theorem dL_areSubscribers_314 : decode cL_areSubscribers 314 = .ok (.aload_n 0, 1) := by decide +kernel
theorem dL_areSubscribers_315 : decode cL_areSubscribers 315 = .ok (.iload 5, 2) := by decide +kernel
theorem dL_areSubscribers_317 : decode cL_areSubscribers 317 = .ok (.iload 8, 2) := by decide +kernel
theorem dL_areSubscribers_319 : decode cL_areSubscribers 319 = .ok (.iload 11, 2) := by decide +kernel
theorem dL_areSubscribers_321 : decode cL_areSubscribers 321 = .ok (.iconst 0, 1) := by decide +kernel
theorem dL_areSubscribers_322 : decode cL_areSubscribers 322 = .ok (.invokevirtual 82, 3) := by decide +kernel
theorem dL_areSubscribers_325 : decode cL_areSubscribers 325 = .ok (.istore 12, 2) := by decide +kernel
theorem dL_areSubscribers_327 : decode cL_areSubscribers 327 = .ok (.iload 12, 2) := by decide +kernel
theorem dL_areSubscribers_329 : decode cL_areSubscribers 329 = .ok (.iconst (-1), 1) := by decide +kernel
theorem dL_areSubscribers_330 : decode cL_areSubscribers 330 = .ok (.if_icmp .lt 78, 3) := by decide +kernel
theorem dL_areSubscribers_333 : decode cL_areSubscribers 333 = .ok (.iload 12, 2) := by decide +kernel
theorem dL_areSubscribers_335 : decode cL_areSubscribers 335 = .ok (.bipush 100, 2) := by decide +kernel
theorem dL_areSubscribers_337 : decode cL_areSubscribers 337 = .ok (.if_icmp .ge 71, 3) := by decide +kernel
theorem dL_areSubscribers_340 : decode cL_areSubscribers 340 = .ok (.iload 12, 2) := by decide +kernel
theorem dL_areSubscribers_342 : decode cL_areSubscribers 342 = .ok (.ifCond .ge 7, 3) := by decide +kernel
theorem dL_areSubscribers_345 : decode cL_areSubscribers 345 = .ok (.iconst 1, 1) := by decide +kernel
theorem dL_areSubscribers_346 : decode cL_areSubscribers 346 = .ok (.goto 4, 3) := by decide +kernel
theorem dL_areSubscribers_349 : decode cL_areSubscribers 349 = .ok (.iconst 0, 1) := by decide +kernel
theorem dL_areSubscribers_350 : decode cL_areSubscribers 350 = .ok (.aload_n 0, 1) := by decide +kernel
theorem dL_areSubscribers_351 : decode cL_areSubscribers 351 = .ok (.iload 5, 2) := by decide +kernel
theorem dL_areSubscribers_353 : decode cL_areSubscribers 353 = .ok (.iload 8, 2) := by decide +kernel
theorem dL_areSubscribers_355 : decode cL_areSubscribers 355 = .ok (.iload 11, 2) := by decide +kernel
theorem dL_areSubscribers_357 : decode cL_areSubscribers 357 = .ok (.iconst 1, 1) := by decide +kernel
theorem dL_areSubscribers_358 : decode cL_areSubscribers 358 = .ok (.invokevirtual 82, 3) := by decide +kernel
theorem dL_areSubscribers_361 : decode cL_areSubscribers 361 = .ok (.ifCond .ge 7, 3) := by decide +kernel
theorem dL_areSubscribers_364 : decode cL_areSubscribers 364 = .ok (.iconst 1, 1) := by decide +kernel
theorem dL_areSubscribers_365 : decode cL_areSubscribers 365 = .ok (.goto 4, 3) := by decide +kernel
theorem dL_areSubscribers_368 : decode cL_areSubscribers 368 = .ok (.iconst 0, 1) := by decide +kernel
theorem dL_areSubscribers_369 : decode cL_areSubscribers 369 = .ok (.if_icmp .ne 39, 3) := by decide +kernel
theorem dL_areSubscribers_372 : decode cL_areSubscribers 372 = .ok (.iload 12, 2) := by decide +kernel
theorem dL_areSubscribers_374 : decode cL_areSubscribers 374 = .ok (.ifCond .ge 7, 3) := by decide +kernel
theorem dL_areSubscribers_377 : decode cL_areSubscribers 377 = .ok (.iconst 1, 1) := by decide +kernel
theorem dL_areSubscribers_378 : decode cL_areSubscribers 378 = .ok (.goto 4, 3) := by decide +kernel
theorem dL_areSubscribers_381 : decode cL_areSubscribers 381 = .ok (.iconst 0, 1) := by decide +kernel
theorem dL_areSubscribers_382 : decode cL_areSubscribers 382 = .ok (.aload_n 0, 1) := by decide +kernel
theorem dL_areSubscribers_383 : decode cL_areSubscribers 383 = .ok (.iload 5, 2) := by decide +kernel
theorem dL_areSubscribers_385 : decode cL_areSubscribers 385 = .ok (.iload 8, 2) := by decide +kernel
theorem dL_areSubscribers_387 : decode cL_areSubscribers 387 = .ok (.iload 11, 2) := by decide +kernel
theorem dL_areSubscribers_389 : decode cL_areSubscribers 389 = .ok (.iconst 2, 1) := by decide +kernel
theorem dL_areSubscribers_390 : decode cL_areSubscribers 390 = .ok (.invokevirtual 82, 3) := by decide +kernel
theorem dL_areSubscribers_393 : decode cL_areSubscribers 393 = .ok (.ifCond .ge 7, 3) := by decide +kernel
theorem dL_areSubscribers_396 : decode cL_areSubscribers 396 = .ok (.iconst 1, 1) := by decide +kernel
theorem dL_areSubscribers_397 : decode cL_areSubscribers 397 = .ok (.goto 4, 3) := by decide +kernel
theorem dL_areSubscribers_400 : decode cL_areSubscribers 400 = .ok (.iconst 0, 1) := by decide +kernel
theorem dL_areSubscribers_401 : decode cL_areSubscribers 401 = .ok (.if_icmp .ne 7, 3) := by decide +kernel
theorem dL_areSubscribers_404 : decode cL_areSubscribers 404 = .ok (.iconst 1, 1) := by decide +kernel
theorem dL_areSubscribers_405 : decode cL_areSubscribers 405 = .ok (.goto 4, 3) := by decide +kernel
theorem dL_areSubscribers_408 : decode cL_areSubscribers 408 = .ok (.iconst 0, 1) := by decide +kernel
theorem dL_areSubscribers_409 : decode cL_areSubscribers 409 = .ok (.istore 4, 2) := by decide +kernel
theorem dL_areSubscribers_411 : decode cL_areSubscribers 411 = .ok (.iload 4, 2) := by decide +kernel
theorem dL_areSubscribers_413 : decode cL_areSubscribers 413 = .ok (.ifCond .eq 107, 3) := by decide +kernel
theorem dL_areSubscribers_416 : decode cL_areSubscribers 416 = .ok (.iload 12, 2) := by decide +kernel
theorem dL_areSubscribers_418 : decode cL_areSubscribers 418 = .ok (.ifCond .lt 102, 3) := by decide +kernel
theorem dL_areSubscribers_421 : decode cL_areSubscribers 421 = .ok (.iload 9, 2) := by decide +kernel
theorem dL_areSubscribers_423 : decode cL_areSubscribers 423 = .ok (.ifCond .lt 97, 3) := by decide +kernel
theorem dL_areSubscribers_426 : decode cL_areSubscribers 426 = .ok (.iload 7, 2) := by decide +kernel
theorem dL_areSubscribers_428 : decode cL_areSubscribers 428 = .ok (.ifCond .eq 92, 3) := by decide +kernel
theorem dL_areSubscribers_431 : decode cL_areSubscribers 431 = .ok (.aload_n 2, 1) := by decide +kernel
theorem dL_areSubscribers_432 : decode cL_areSubscribers 432 = .ok (.iload 6, 2) := by decide +kernel
theorem dL_areSubscribers_434 : decode cL_areSubscribers 434 = .ok (.iconst 5, 1) := by decide +kernel
theorem dL_areSubscribers_435 : decode cL_areSubscribers 435 = .ok (.iadd, 1) := by decide +kernel
theorem dL_areSubscribers_436 : decode cL_areSubscribers 436 = .ok (.iload 8, 2) := by decide +kernel
theorem dL_areSubscribers_438 : decode cL_areSubscribers 438 = .ok (.iadd, 1) := by decide +kernel
theorem dL_areSubscribers_439 : decode cL_areSubscribers 439 = .ok (.iaload, 1) := by decide +kernel
theorem dL_areSubscribers_440 : decode cL_areSubscribers 440 = .ok (.ifCond .ne 80, 3) := by decide +kernel
theorem dL_areSubscribers_443 : decode cL_areSubscribers 443 = .ok (.aload_n 1, 1) := by decide +kernel
theorem dL_areSubscribers_444 : decode cL_areSubscribers 444 = .ok (.iconst 2, 1) := by decide +kernel
theorem dL_areSubscribers_445 : decode cL_areSubscribers 445 = .ok (.aload_n 2, 1) := by decide +kernel
theorem dL_areSubscribers_446 : decode cL_areSubscribers 446 = .ok (.iload 6, 2) := by decide +kernel
theorem dL_areSubscribers_448 : decode cL_areSubscribers 448 = .ok (.iaload, 1) := by decide +kernel
theorem dL_areSubscribers_449 : decode cL_areSubscribers 449 = .ok (.imul, 1) := by decide +kernel
theorem dL_areSubscribers_450 : decode cL_areSubscribers 450 = .ok (.iload 8, 2) := by decide +kernel
theorem dL_areSubscribers_452 : decode cL_areSubscribers 452 = .ok (.iadd, 1) := by decide +kernel
theorem dL_areSubscribers_453 : decode cL_areSubscribers 453 = .ok (.iaload, 1) := by decide +kernel
theorem dL_areSubscribers_454 : decode cL_areSubscribers 454 = .ok (.istore 13, 2) := by decide +kernel
theorem dL_areSubscribers_456 : decode cL_areSubscribers 456 = .ok (.iload 13, 2) := by decide +kernel
theorem dL_areSubscribers_458 : decode cL_areSubscribers 458 = .ok (.iconst 1, 1) := by decide +kernel
theorem dL_areSubscribers_459 : decode cL_areSubscribers 459 = .ok (.iand, 1) := by decide +kernel
theorem dL_areSubscribers_460 : decode cL_areSubscribers 460 = .ok (.iconst 1, 1) := by decide +kernel
theorem dL_areSubscribers_461 : decode cL_areSubscribers 461 = .ok (.if_icmp .eq 8, 3) := by decide +kernel
theorem dL_areSubscribers_464 : decode cL_areSubscribers 464 = .ok (.iload 12, 2) := by decide +kernel
theorem dL_areSubscribers_466 : decode cL_areSubscribers 466 = .ok (.ifCond .ne 51, 3) := by decide +kernel
theorem dL_areSubscribers_469 : decode cL_areSubscribers 469 = .ok (.iload 13, 2) := by decide +kernel
theorem dL_areSubscribers_471 : decode cL_areSubscribers 471 = .ok (.iconst 2, 1) := by decide +kernel
theorem dL_areSubscribers_472 : decode cL_areSubscribers 472 = .ok (.iand, 1) := by decide +kernel
theorem dL_areSubscribers_473 : decode cL_areSubscribers 473 = .ok (.iconst 2, 1) := by decide +kernel
theorem dL_areSubscribers_474 : decode cL_areSubscribers 474 = .ok (.if_icmp .eq 17, 3) := by decide +kernel
theorem dL_areSubscribers_477 : decode cL_areSubscribers 477 = .ok (.aload_n 0, 1) := by decide +kernel
theorem dL_areSubscribers_478 : decode cL_areSubscribers 478 = .ok (.iload 5, 2) := by decide +kernel
theorem dL_areSubscribers_480 : decode cL_areSubscribers 480 = .ok (.iload 8, 2) := by decide +kernel
theorem dL_areSubscribers_482 : decode cL_areSubscribers 482 = .ok (.iload 11, 2) := by decide +kernel
theorem dL_areSubscribers_484 : decode cL_areSubscribers 484 = .ok (.iconst 1, 1) := by decide +kernel
theorem dL_areSubscribers_485 : decode cL_areSubscribers 485 = .ok (.invokevirtual 82, 3) := by decide +kernel
theorem dL_areSubscribers_488 : decode cL_areSubscribers 488 = .ok (.ifCond .ne 29, 3) := by decide +kernel
theorem dL_areSubscribers_491 : decode cL_areSubscribers 491 = .ok (.iload 13, 2) := by decide +kernel
theorem dL_areSubscribers_493 : decode cL_areSubscribers 493 = .ok (.iconst 4, 1) := by decide +kernel
theorem dL_areSubscribers_494 : decode cL_areSubscribers 494 = .ok (.iand, 1) := by decide +kernel
theorem dL_areSubscribers_495 : decode cL_areSubscribers 495 = .ok (.iconst 4, 1) := by decide +kernel
theorem dL_areSubscribers_496 : decode cL_areSubscribers 496 = .ok (.if_icmp .eq 17, 3) := by decide +kernel
theorem dL_areSubscribers_499 : decode cL_areSubscribers 499 = .ok (.aload_n 0, 1) := by decide +kernel
theorem dL_areSubscribers_500 : decode cL_areSubscribers 500 = .ok (.iload 5, 2) := by decide +kernel
theorem dL_areSubscribers_502 : decode cL_areSubscribers 502 = .ok (.iload 8, 2) := by decide +kernel
theorem dL_areSubscribers_504 : decode cL_areSubscribers 504 = .ok (.iload 11, 2) := by decide +kernel
theorem dL_areSubscribers_506 : decode cL_areSubscribers 506 = .ok (.iconst 2, 1) := by decide +kernel
theorem dL_areSubscribers_507 : decode cL_areSubscribers 507 = .ok (.invokevirtual 82, 3) := by decide +kernel
theorem dL_areSubscribers_510 : decode cL_areSubscribers 510 = .ok (.ifCond .ne 7, 3) := by decide +kernel
theorem dL_areSubscribers_513 : decode cL_areSubscribers 513 = .ok (.iconst 1, 1) := by decide +kernel
theorem dL_areSubscribers_514 : decode cL_areSubscribers 514 = .ok (.goto 4, 3) := by decide +kernel
theorem dL_areSubscribers_517 : decode cL_areSubscribers 517 = .ok (.iconst 0, 1) := by decide +kernel
theorem dL_areSubscribers_518 : decode cL_areSubscribers 518 = .ok (.istore 4, 2) := by decide +kernel
theorem dL_areSubscribers_520 : decode cL_areSubscribers 520 = .ok (.iinc 11 1, 3) := by decide +kernel
theorem dL_areSubscribers_523 : decode cL_areSubscribers 523 = .ok (.goto (-221), 3) := by decide +kernel
theorem dL_areSubscribers_526 : decode cL_areSubscribers 526 = .ok (.iinc 8 1, 3) := by decide +kernel
theorem dL_areSubscribers_529 : decode cL_areSubscribers 529 = .ok (.goto (-329), 3) := by decide +kernel
theorem dL_areSubscribers_532 : decode cL_areSubscribers 532 = .ok (.iinc 5 1, 3) := by decide +kernel
theorem dL_areSubscribers_535 : decode cL_areSubscribers 535 = .ok (.goto (-454), 3) := by decide +kernel
theorem dL_areSubscribers_538 : decode cL_areSubscribers 538 = .ok (.iload 4, 2) := by decide +kernel
theorem dL_areSubscribers_540 : decode cL_areSubscribers 540 = .ok (.ireturn, 1) := by decide +kernel
