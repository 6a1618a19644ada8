set_option maxRecDepth 20000 in
theorem ggL_law_X4_init : GoodIn wsL_law wsX4_init := goodIn_r _ [9, 10, 11, 12, 13, 14, 15, 16, 17, 18, 19, 20, 21, 22, 23, 24, 25, 26, 27, 28, 29, 30, 31, 32, 33, 34, 35, 36, 37, 38, 39, 40, 41, 42, 43, 44, 45, 46, 47, 48, 49, 50, 51, 52, 53, 54, 55, 56, 57, 58, 59, 60, 61, 62, 63, 64, 536, 537, 538, 539, 540, 541, 542, 511, 512, 513, 514, 515, 543, 544, 545, 546, 547, 548, 549, 550, 551, 552, 553] (by decide +kernel) (by decide +kernel)
set_option maxRecDepth 20000 in
theorem gL_law_X4_init : GoodIn wsL_law (wsX4_init) := ggL_law_X4_init
set_option maxRecDepth 20000 in
theorem ggL_law_X5_init : GoodIn wsL_law wsX5_init := goodIn_r _ [67, 68, 11, 12, 34, 69, 70, 71, 72, 73, 74, 75, 76, 77, 78, 79, 80, 81, 82, 83, 84, 85, 86, 516, 517, 518, 519, 520, 521, 522, 523, 524, 525, 526, 527, 528, 529, 530, 531, 532, 533, 534, 535] (by decide +kernel) (by decide +kernel)
set_option maxRecDepth 20000 in
theorem gL_law_X5_init : GoodIn wsL_law (wsX5_init) := ggL_law_X5_init
set_option maxRecDepth 20000 in
theorem ggL_law_L_put : GoodIn wsL_law wsL_put := goodIn_ca (goodIn_ca (goodIn_ca (goodIn_r _ [90, 91, 92, 93, 94, 95, 96, 2, 97, 16, 98, 99, 100, 101, 102, 103, 104, 105, 106, 107, 108, 109, 110, 111, 112, 113, 114, 115, 116, 117, 118, 119, 15, 120, 37, 36, 121, 122, 123, 124, 125, 126, 127, 128, 129, 130, 38, 39, 40, 35, 511, 512, 513, 514, 515, 536, 537, 538, 539, 540, 541, 542] (by decide +kernel) (by decide +kernel)) (goodIn_sub (fun _ h => List.mem_append_left _ (List.mem_append_left _ (List.mem_append_right _ h))) (by decide +kernel))) (goodIn_sub (fun _ h => List.mem_append_left _ (List.mem_append_right _ h)) (by decide +kernel))) (goodIn_sub (fun _ h => List.mem_append_right _ h) (by decide +kernel))
set_option maxRecDepth 20000 in
theorem gL_law_L_put : GoodIn wsL_law (va_wsS RL 87 yL_put wsL_put) := goodIn_app (goodIn_of _ (by decide +kernel)) ggL_law_L_put
set_option maxRecDepth 20000 in
theorem ggL_law_X5_put : GoodIn wsL_law wsX5_put := goodIn_r _ [134, 69, 135, 136, 5, 137, 138, 139, 140, 141, 142, 143, 144, 145, 146, 147, 148, 149, 150, 72, 151, 152, 153, 154, 155, 156, 157, 158, 159, 160, 73, 74, 75, 161, 162, 163, 516, 517, 518, 519, 520, 521, 522, 523, 524, 525, 526, 527, 528, 529, 530, 531, 532, 533, 534, 535] (by decide +kernel) (by decide +kernel)
set_option maxRecDepth 20000 in
theorem gL_law_X5_put : GoodIn wsL_law (wsV RL 92 RX5 yX5_put wsX5_put) := goodIn_app (goodIn_of _ (by decide +kernel)) ggL_law_X5_put
set_option maxRecDepth 20000 in
theorem ggL_law_X5_thrown : GoodIn wsL_law wsX5_thrown := goodIn_r _ [167, 156, 516, 517, 518, 519, 520, 521, 522, 523, 524, 525, 526, 527, 528, 529, 530, 531, 532, 533, 534, 535] (by decide +kernel) (by decide +kernel)
set_option maxRecDepth 20000 in
theorem gL_law_X5_thrown : GoodIn wsL_law (wsV RL 93 RX5 yX5_thrown wsX5_thrown) := goodIn_app (goodIn_of _ (by decide +kernel)) ggL_law_X5_thrown
set_option maxRecDepth 20000 in
theorem ggL_law_L_take : GoodIn wsL_law wsL_take := goodIn_ca (goodIn_ca (goodIn_r _ [170, 91, 93, 171, 172, 173, 2, 174, 115, 116, 16, 98, 99, 100, 101, 102, 103, 104, 105, 111, 112, 113, 114, 117, 118, 119, 15, 120, 37, 36, 121, 122, 123, 127, 128, 129, 130, 38, 39, 40, 35, 511, 512, 513, 514, 515, 536, 537, 538, 539, 540, 541, 542] (by decide +kernel) (by decide +kernel)) (goodIn_sub (fun _ h => List.mem_append_right _ h) (by decide +kernel))) (goodIn_sub (fun _ h => List.mem_append_left _ (List.mem_append_left _ (List.mem_append_right _ h))) (by decide +kernel))
set_option maxRecDepth 20000 in
theorem gL_law_L_take : GoodIn wsL_law (va_wsS RL 96 yL_take wsL_take) := goodIn_app (goodIn_of _ (by decide +kernel)) ggL_law_L_take
set_option maxRecDepth 20000 in
theorem ggL_law_X5_take : GoodIn wsL_law wsX5_take := goodIn_r _ [178, 69, 141, 142, 5, 143, 144, 145, 146, 138, 139, 140, 147, 148, 149, 150, 72, 151, 152, 153, 154, 155, 156, 157, 158, 159, 160, 73, 74, 75, 161, 162, 163, 516, 517, 518, 519, 520, 521, 522, 523, 524, 525, 526, 527, 528, 529, 530, 531, 532, 533, 534, 535] (by decide +kernel) (by decide +kernel)
set_option maxRecDepth 20000 in
theorem gL_law_X5_take : GoodIn wsL_law (wsV RL 99 RX5 yX5_take wsX5_take) := goodIn_app (goodIn_of _ (by decide +kernel)) ggL_law_X5_take
set_option maxRecDepth 20000 in
theorem ggL_law_L_truncate : GoodIn wsL_law wsL_truncate := goodIn_ca (goodIn_ca (goodIn_r _ [181, 91, 93, 182, 183, 184, 2, 185, 16, 103, 104, 105, 101, 102, 111, 112, 113, 114, 115, 116, 117, 118, 119, 15, 120, 37, 36, 121, 122, 123, 127, 128, 129, 130, 38, 39, 40, 35, 511, 512, 513, 514, 515, 536, 537, 538, 539, 540, 541, 542] (by decide +kernel) (by decide +kernel)) (goodIn_sub (fun _ h => List.mem_append_left _ (List.mem_append_left _ (List.mem_append_right _ h))) (by decide +kernel))) (goodIn_sub (fun _ h => List.mem_append_right _ h) (by decide +kernel))
set_option maxRecDepth 20000 in
theorem gL_law_L_truncate : GoodIn wsL_law (va_wsS RL 100 yL_truncate wsL_truncate) := goodIn_app (goodIn_of _ (by decide +kernel)) ggL_law_L_truncate
set_option maxRecDepth 20000 in
theorem ggL_law_X5_truncate : GoodIn wsL_law wsX5_truncate := goodIn_r _ [189, 69, 144, 145, 5, 146, 138, 139, 140, 147, 148, 149, 150, 72, 151, 152, 153, 154, 155, 156, 157, 158, 159, 160, 73, 74, 75, 161, 162, 163, 516, 517, 518, 519, 520, 521, 522, 523, 524, 525, 526, 527, 528, 529, 530, 531, 532, 533, 534, 535] (by decide +kernel) (by decide +kernel)
set_option maxRecDepth 20000 in
theorem gL_law_X5_truncate : GoodIn wsL_law (wsV RL 103 RX5 yX5_truncate wsX5_truncate) := goodIn_app (goodIn_of _ (by decide +kernel)) ggL_law_X5_truncate
set_option maxRecDepth 20000 in
theorem ggL_law_L_commit : GoodIn wsL_law wsL_commit := goodIn_ca (goodIn_r _ [192, 93, 193, 194, 195, 2, 196, 115, 116, 16, 197, 198, 199, 15, 200, 36, 35, 41, 201, 202, 203, 204, 205, 206, 207, 208, 20, 25, 209, 210, 211, 29, 212, 64, 213, 214, 215, 216, 63, 511, 512, 513, 514, 515, 536, 537, 538, 539, 540, 541, 542, 549, 550, 551, 552, 553] (by decide +kernel) (by decide +kernel)) (goodIn_sub (fun _ h => List.mem_append_right _ h) (by decide +kernel))
set_option maxRecDepth 20000 in
theorem gL_law_L_commit : GoodIn wsL_law (va_wsS RL 104 yL_commit wsL_commit) := goodIn_app (goodIn_of _ (by decide +kernel)) ggL_law_L_commit
set_option maxRecDepth 20000 in
theorem ggL_law_X5_commit : GoodIn wsL_law wsX5_commit := goodIn_r _ [220, 151, 72, 70, 69, 152, 153, 154, 5, 155, 156, 221, 222, 223, 224, 81, 82, 71, 138, 139, 140, 516, 517, 518, 519, 520, 521, 522, 523, 524, 525, 526, 527, 528, 529, 530, 531, 532, 533, 534, 535] (by decide +kernel) (by decide +kernel)
set_option maxRecDepth 20000 in
theorem gL_law_X5_commit : GoodIn wsL_law (wsV RL 107 RX5 yX5_commit wsX5_commit) := goodIn_app (goodIn_of _ (by decide +kernel)) ggL_law_X5_commit
set_option maxRecDepth 20000 in
theorem ggL_law_X4_rollBack : GoodIn wsL_law wsX4_rollBack := goodIn_r _ [228, 16, 117, 118, 119, 15, 120, 37, 36, 229, 230, 231, 232, 41, 35, 201, 202, 203, 204, 511, 512, 513, 514, 515, 536, 537, 538, 539, 540, 541, 542] (by decide +kernel) (by decide +kernel)
set_option maxRecDepth 20000 in
theorem gL_law_X4_rollBack : GoodIn wsL_law (wsV RL 108 RX4 yX4_rollBack wsX4_rollBack) := goodIn_app (goodIn_of _ (by decide +kernel)) ggL_law_X4_rollBack
set_option maxRecDepth 20000 in
theorem ggL_law_X5_rollBack : GoodIn wsL_law wsX5_rollBack := goodIn_r _ [236, 156, 72, 151, 69, 70, 516, 517, 518, 519, 520, 521, 522, 523, 524, 525, 526, 527, 528, 529, 530, 531, 532, 533, 534, 535] (by decide +kernel) (by decide +kernel)
set_option maxRecDepth 20000 in
theorem gL_law_X5_rollBack : GoodIn wsL_law (wsV RL 111 RX5 yX5_rollBack wsX5_rollBack) := goodIn_app (goodIn_of _ (by decide +kernel)) ggL_law_X5_rollBack
set_option maxRecDepth 20000 in
theorem ggL_law_L_at : GoodIn wsL_law wsL_at := goodIn_ca (goodIn_r _ [239, 91, 240, 241, 242, 2, 243, 16, 98, 99, 100, 101, 102, 103, 104, 105, 244, 245, 246, 121, 122, 123, 247, 248, 249, 511, 512, 513, 514, 515, 536, 537, 538, 539, 540, 541, 542] (by decide +kernel) (by decide +kernel)) (goodIn_sub (fun _ h => List.mem_append_left _ (List.mem_append_left _ (List.mem_append_right _ h))) (by decide +kernel))
set_option maxRecDepth 20000 in
theorem gL_law_L_at : GoodIn wsL_law (va_wsS RL 112 yL_at wsL_at) := goodIn_app (goodIn_of _ (by decide +kernel)) ggL_law_L_at
set_option maxRecDepth 20000 in
theorem ggL_law_X5_at : GoodIn wsL_law wsX5_at := goodIn_r _ [253, 69, 141, 142, 5, 143, 144, 145, 146, 138, 139, 140, 254, 255, 256, 152, 153, 154, 155, 156, 257, 258, 259, 516, 517, 518, 519, 520, 521, 522, 523, 524, 525, 526, 527, 528, 529, 530, 531, 532, 533, 534, 535] (by decide +kernel) (by decide +kernel)
set_option maxRecDepth 20000 in
theorem gL_law_X5_at : GoodIn wsL_law (wsV RL 115 RX5 yX5_at wsX5_at) := goodIn_app (goodIn_of _ (by decide +kernel)) ggL_law_X5_at
set_option maxRecDepth 20000 in
theorem ggL_law_X4_commits : GoodIn wsL_law wsX4_commits := goodIn_r _ [263, 16, 511, 512, 513, 514, 515, 536, 537, 538, 539, 540, 541, 542] (by decide +kernel) (by decide +kernel)
set_option maxRecDepth 20000 in
theorem gL_law_X4_commits : GoodIn wsL_law (wsV RL 116 RX4 yX4_commits wsX4_commits) := goodIn_app (goodIn_of _ (by decide +kernel)) ggL_law_X4_commits
set_option maxRecDepth 20000 in
theorem ggL_law_X5_commits : GoodIn wsL_law wsX5_commits := goodIn_r _ [267, 156, 151, 516, 517, 518, 519, 520, 521, 522, 523, 524, 525, 526, 527, 528, 529, 530, 531, 532, 533, 534, 535] (by decide +kernel) (by decide +kernel)
set_option maxRecDepth 20000 in
theorem gL_law_X5_commits : GoodIn wsL_law (wsV RL 119 RX5 yX5_commits wsX5_commits) := goodIn_app (goodIn_of _ (by decide +kernel)) ggL_law_X5_commits
set_option maxRecDepth 20000 in
theorem ggL_law_L_setLimit : GoodIn wsL_law wsL_setLimit := goodIn_ca (goodIn_r _ [270, 92, 271, 272, 273, 2, 274, 109, 110, 25, 205, 206, 207, 208, 20, 16, 209, 210, 211, 29, 212, 64, 213, 214, 215, 216, 63, 511, 512, 513, 514, 515, 536, 537, 538, 539, 540, 541, 542, 549, 550, 551, 552, 553] (by decide +kernel) (by decide +kernel)) (goodIn_sub (fun _ h => List.mem_append_left _ (List.mem_append_right _ h)) (by decide +kernel))
set_option maxRecDepth 20000 in
theorem gL_law_L_setLimit : GoodIn wsL_law (va_wsS RL 120 yL_setLimit wsL_setLimit) := goodIn_app (goodIn_of _ (by decide +kernel)) ggL_law_L_setLimit
set_option maxRecDepth 20000 in
theorem ggL_law_X5_setLimit : GoodIn wsL_law wsX5_setLimit := goodIn_r _ [278, 71, 138, 139, 5, 140, 152, 153, 154, 155, 156, 221, 222, 223, 224, 81, 151, 82, 516, 517, 518, 519, 520, 521, 522, 523, 524, 525, 526, 527, 528, 529, 530, 531, 532, 533, 534, 535] (by decide +kernel) (by decide +kernel)
set_option maxRecDepth 20000 in
theorem gL_law_X5_setLimit : GoodIn wsL_law (wsV RL 122 RX5 yX5_setLimit wsX5_setLimit) := goodIn_app (goodIn_of _ (by decide +kernel)) ggL_law_X5_setLimit
set_option maxRecDepth 20000 in
theorem ggL_law_L_setCondition : GoodIn wsL_law wsL_setCondition := goodIn_ca (goodIn_ca (goodIn_r _ [281, 91, 92, 282, 283, 284, 2, 285, 109, 110, 18, 286, 287, 288, 101, 102, 103, 104, 105, 244, 245, 246, 106, 107, 108, 289, 290, 291, 292, 20, 511, 512, 513, 514, 515, 545, 546, 547, 548, 549, 550, 551, 552, 553] (by decide +kernel) (by decide +kernel)) (goodIn_sub (fun _ h => List.mem_append_left _ (List.mem_append_right _ h)) (by decide +kernel))) (goodIn_sub (fun _ h => List.mem_append_left _ (List.mem_append_left _ (List.mem_append_right _ h))) (by decide +kernel))
set_option maxRecDepth 20000 in
theorem gL_law_L_setCondition : GoodIn wsL_law (va_wsS RL 123 yL_setCondition wsL_setCondition) := goodIn_app (goodIn_of _ (by decide +kernel)) ggL_law_L_setCondition
set_option maxRecDepth 20000 in
theorem ggL_law_X5_setCondition : GoodIn wsL_law wsX5_setCondition := goodIn_r _ [296, 76, 77, 78, 254, 255, 5, 256, 138, 139, 140, 144, 145, 146, 135, 136, 137, 152, 153, 154, 155, 156, 297, 298, 299, 300, 81, 80, 83, 516, 517, 518, 519, 520, 521, 522, 523, 524, 525, 526, 527, 528, 529, 530, 531, 532, 533, 534, 535] (by decide +kernel) (by decide +kernel)
set_option maxRecDepth 20000 in
theorem gL_law_X5_setCondition : GoodIn wsL_law (wsV RL 125 RX5 yX5_setCondition wsX5_setCondition) := goodIn_app (goodIn_of _ (by decide +kernel)) ggL_law_X5_setCondition
set_option maxRecDepth 20000 in
theorem ggL_law_L_setColumns : GoodIn wsL_law wsL_setColumns := goodIn_ca (goodIn_ca (goodIn_r _ [303, 91, 92, 304, 305, 306, 2, 307, 109, 110, 18, 286, 287, 288, 101, 102, 103, 104, 105, 308, 309, 310, 289, 290, 291, 292, 20, 511, 512, 513, 514, 515, 545, 546, 547, 548, 549, 550, 551, 552, 553] (by decide +kernel) (by decide +kernel)) (goodIn_sub (fun _ h => List.mem_append_left _ (List.mem_append_right _ h)) (by decide +kernel))) (goodIn_sub (fun _ h => List.mem_append_left _ (List.mem_append_left _ (List.mem_append_right _ h))) (by decide +kernel))
set_option maxRecDepth 20000 in
theorem gL_law_L_setColumns : GoodIn wsL_law (va_wsS RL 126 yL_setColumns wsL_setColumns) := goodIn_app (goodIn_of _ (by decide +kernel)) ggL_law_L_setColumns
set_option maxRecDepth 20000 in
theorem ggL_law_X5_setColumns : GoodIn wsL_law wsX5_setColumns := goodIn_r _ [314, 79, 254, 255, 5, 256, 138, 139, 140, 144, 145, 146, 152, 153, 154, 155, 156, 297, 298, 299, 300, 81, 80, 83, 516, 517, 518, 519, 520, 521, 522, 523, 524, 525, 526, 527, 528, 529, 530, 531, 532, 533, 534, 535] (by decide +kernel) (by decide +kernel)
set_option maxRecDepth 20000 in
theorem gL_law_X5_setColumns : GoodIn wsL_law (wsV RL 128 RX5 yX5_setColumns wsX5_setColumns) := goodIn_app (goodIn_of _ (by decide +kernel)) ggL_law_X5_setColumns
set_option maxRecDepth 20000 in
theorem ggL_law_L_subscribe : GoodIn wsL_law wsL_subscribe := goodIn_ca (goodIn_r _ [317, 91, 318, 319, 320, 2, 321, 20, 18, 16, 322, 323, 324, 101, 102, 286, 287, 288, 325, 326, 327, 29, 328, 62, 63, 64, 329, 330, 331, 332, 61, 511, 512, 513, 514, 515, 549, 550, 551, 552, 553, 536, 537, 538, 539, 540, 541, 542] (by decide +kernel) (by decide +kernel)) (goodIn_sub (fun _ h => List.mem_append_left _ (List.mem_append_left _ (List.mem_append_right _ h))) (by decide +kernel))
set_option maxRecDepth 20000 in
theorem gL_law_L_subscribe : GoodIn wsL_law (va_wsS RL 129 yL_subscribe wsL_subscribe) := goodIn_app (goodIn_of _ (by decide +kernel)) ggL_law_L_subscribe
set_option maxRecDepth 20000 in
theorem ggL_law_X5_subscribe : GoodIn wsL_law wsX5_subscribe := goodIn_r _ [336, 81, 80, 82, 151, 83, 254, 255, 5, 256, 138, 139, 140, 152, 153, 154, 155, 156, 516, 517, 518, 519, 520, 521, 522, 523, 524, 525, 526, 527, 528, 529, 530, 531, 532, 533, 534, 535] (by decide +kernel) (by decide +kernel)
set_option maxRecDepth 20000 in
theorem gL_law_X5_subscribe : GoodIn wsL_law (wsV RL 132 RX5 yX5_subscribe wsX5_subscribe) := goodIn_app (goodIn_of _ (by decide +kernel)) ggL_law_X5_subscribe
set_option maxRecDepth 20000 in
theorem ggL_law_L_drop : GoodIn wsL_law wsL_drop := goodIn_ca (goodIn_r _ [339, 91, 340, 341, 342, 2, 343, 20, 322, 323, 324, 101, 102, 344, 345, 346, 29, 347, 62, 63, 329, 330, 331, 332, 61, 511, 512, 513, 514, 515, 549, 550, 551, 552, 553] (by decide +kernel) (by decide +kernel)) (goodIn_sub (fun _ h => List.mem_append_left _ (List.mem_append_left _ (List.mem_append_right _ h))) (by decide +kernel))
set_option maxRecDepth 20000 in
theorem gL_law_L_drop : GoodIn wsL_law (va_wsS RL 133 yL_drop wsL_drop) := goodIn_app (goodIn_of _ (by decide +kernel)) ggL_law_L_drop
set_option maxRecDepth 20000 in
theorem ggL_law_X5_drop : GoodIn wsL_law wsX5_drop := goodIn_r _ [351, 81, 83, 254, 255, 5, 256, 138, 139, 140, 152, 153, 154, 155, 156, 516, 517, 518, 519, 520, 521, 522, 523, 524, 525, 526, 527, 528, 529, 530, 531, 532, 533, 534, 535] (by decide +kernel) (by decide +kernel)
set_option maxRecDepth 20000 in
theorem gL_law_X5_drop : GoodIn wsL_law (wsV RL 135 RX5 yX5_drop wsX5_drop) := goodIn_app (goodIn_of _ (by decide +kernel)) ggL_law_X5_drop
set_option maxRecDepth 20000 in
theorem ggL_law_L_copy : GoodIn wsL_law wsL_copy := goodIn_ca (goodIn_ca (goodIn_r _ [354, 91, 93, 355, 356, 357, 2, 358, 115, 116, 20, 16, 322, 323, 324, 101, 102, 103, 104, 105, 117, 118, 119, 15, 120, 37, 36, 121, 122, 123, 359, 360, 361, 27, 362, 51, 54, 248, 249, 363, 364, 365, 366, 52, 53, 511, 512, 513, 514, 515, 549, 550, 551, 552, 553, 536, 537, 538, 539, 540, 541, 542, 545, 546, 547, 548] (by decide +kernel) (by decide +kernel)) (goodIn_sub (fun _ h => List.mem_append_right _ h) (by decide +kernel))) (goodIn_sub (fun _ h => List.mem_append_left _ (List.mem_append_left _ (List.mem_append_right _ h))) (by decide +kernel))
set_option maxRecDepth 20000 in
theorem gL_law_L_copy : GoodIn wsL_law (va_wsS RL 136 yL_copy wsL_copy) := goodIn_app (goodIn_of _ (by decide +kernel)) ggL_law_L_copy
set_option maxRecDepth 20000 in
theorem ggL_law_X5_copy : GoodIn wsL_law wsX5_copy := goodIn_r _ [370, 81, 72, 151, 84, 80, 83, 254, 255, 5, 256, 138, 139, 140, 144, 145, 146, 152, 153, 154, 155, 156, 371, 372, 373, 374, 70, 375, 376, 377, 378, 76, 77, 78, 257, 258, 259, 379, 380, 381, 382, 79, 516, 517, 518, 519, 520, 521, 522, 523, 524, 525, 526, 527, 528, 529, 530, 531, 532, 533, 534, 535] (by decide +kernel) (by decide +kernel)
set_option maxRecDepth 20000 in
theorem gL_law_X5_copy : GoodIn wsL_law (wsV RL 138 RX5 yX5_copy wsX5_copy) := goodIn_app (goodIn_of _ (by decide +kernel)) ggL_law_X5_copy
set_option maxRecDepth 20000 in
theorem ggL_law_L_receive : GoodIn wsL_law wsL_receive := goodIn_ca (goodIn_ca (goodIn_ca (goodIn_r _ [385, 91, 92, 93, 386, 387, 388, 2, 389, 109, 110, 115, 116, 20, 16, 24, 322, 323, 324, 101, 102, 390, 391, 392, 23, 393, 45, 394, 202, 203, 204, 46, 395, 396, 397, 29, 398, 61, 399, 400, 401, 402, 403, 404, 405, 406, 122, 123, 407, 360, 361, 27, 362, 51, 54, 248, 249, 363, 364, 365, 366, 52, 53, 408, 409, 410, 411, 60, 412, 64, 511, 512, 513, 514, 515, 549, 550, 551, 552, 553, 536, 537, 538, 539, 540, 541, 542, 543, 544, 545, 546, 547, 548] (by decide +kernel) (by decide +kernel)) (goodIn_sub (fun _ h => List.mem_append_left _ (List.mem_append_right _ h)) (by decide +kernel))) (goodIn_sub (fun _ h => List.mem_append_right _ h) (by decide +kernel))) (goodIn_sub (fun _ h => List.mem_append_left _ (List.mem_append_left _ (List.mem_append_right _ h))) (by decide +kernel))
set_option maxRecDepth 20000 in
theorem gL_law_L_receive : GoodIn wsL_law (va_wsS RL 139 yL_receive wsL_receive) := goodIn_app (goodIn_of _ (by decide +kernel)) ggL_law_L_receive
set_option maxRecDepth 20000 in
theorem ggL_law_X5_receive : GoodIn wsL_law wsX5_receive := goodIn_r _ [416, 81, 82, 151, 254, 255, 5, 256, 138, 139, 140, 152, 153, 154, 155, 156, 417, 418, 419, 420, 85, 70, 86, 84, 72, 73, 83, 74, 75, 421, 422, 423, 424, 80, 375, 376, 377, 378, 76, 77, 78, 257, 258, 259, 379, 380, 381, 382, 79, 161, 162, 163, 516, 517, 518, 519, 520, 521, 522, 523, 524, 525, 526, 527, 528, 529, 530, 531, 532, 533, 534, 535] (by decide +kernel) (by decide +kernel)
set_option maxRecDepth 20000 in
theorem gL_law_X5_receive : GoodIn wsL_law (wsV RL 141 RX5 yX5_receive wsX5_receive) := goodIn_app (goodIn_of _ (by decide +kernel)) ggL_law_X5_receive
set_option maxRecDepth 20000 in
theorem ggL_law_L_goOn : GoodIn wsL_law wsL_goOn := goodIn_ca (goodIn_ca (goodIn_r _ [427, 91, 93, 428, 429, 430, 2, 431, 115, 116, 20, 16, 322, 323, 324, 101, 102, 511, 512, 513, 514, 515, 549, 550, 551, 552, 553, 536, 537, 538, 539, 540, 541, 542] (by decide +kernel) (by decide +kernel)) (goodIn_sub (fun _ h => List.mem_append_right _ h) (by decide +kernel))) (goodIn_sub (fun _ h => List.mem_append_left _ (List.mem_append_left _ (List.mem_append_right _ h))) (by decide +kernel))
set_option maxRecDepth 20000 in
theorem gL_law_L_goOn : GoodIn wsL_law (va_wsS RL 142 yL_goOn wsL_goOn) := goodIn_app (goodIn_of _ (by decide +kernel)) ggL_law_L_goOn
set_option maxRecDepth 20000 in
theorem ggL_law_X5_goOn : GoodIn wsL_law wsX5_goOn := goodIn_r _ [435, 81, 82, 254, 255, 5, 256, 138, 139, 140, 152, 153, 154, 155, 156, 516, 517, 518, 519, 520, 521, 522, 523, 524, 525, 526, 527, 528, 529, 530, 531, 532, 533, 534, 535] (by decide +kernel) (by decide +kernel)
set_option maxRecDepth 20000 in
theorem gL_law_X5_goOn : GoodIn wsL_law (wsV RL 145 RX5 yX5_goOn wsX5_goOn) := goodIn_app (goodIn_of _ (by decide +kernel)) ggL_law_X5_goOn
set_option maxRecDepth 20000 in
theorem ggL_law_L_own : GoodIn wsL_law wsL_own := goodIn_ca (goodIn_ca (goodIn_r _ [438, 91, 92, 439, 440, 441, 2, 442, 20, 322, 323, 324, 101, 102, 98, 99, 100, 103, 104, 105, 106, 107, 108, 109, 110, 121, 122, 123, 124, 125, 126, 511, 512, 513, 514, 515, 549, 550, 551, 552, 553] (by decide +kernel) (by decide +kernel)) (goodIn_sub (fun _ h => List.mem_append_left _ (List.mem_append_left _ (List.mem_append_right _ h))) (by decide +kernel))) (goodIn_sub (fun _ h => List.mem_append_left _ (List.mem_append_right _ h)) (by decide +kernel))
set_option maxRecDepth 20000 in
theorem gL_law_L_own : GoodIn wsL_law (va_wsS RL 146 yL_own wsL_own) := goodIn_app (goodIn_of _ (by decide +kernel)) ggL_law_L_own
set_option maxRecDepth 20000 in
theorem ggL_law_X5_own : GoodIn wsL_law wsX5_own := goodIn_r _ [446, 84, 254, 255, 5, 256, 138, 139, 140, 141, 142, 143, 144, 145, 146, 152, 153, 154, 155, 156, 516, 517, 518, 519, 520, 521, 522, 523, 524, 525, 526, 527, 528, 529, 530, 531, 532, 533, 534, 535] (by decide +kernel) (by decide +kernel)
set_option maxRecDepth 20000 in
theorem gL_law_X5_own : GoodIn wsL_law (wsV RL 149 RX5 yX5_own wsX5_own) := goodIn_app (goodIn_of _ (by decide +kernel)) ggL_law_X5_own
set_option maxRecDepth 20000 in
theorem ggL_law_L_state : GoodIn wsL_law wsL_state := goodIn_ca (goodIn_r _ [449, 91, 450, 451, 452, 2, 453, 20, 322, 323, 324, 101, 102, 511, 512, 513, 514, 515, 549, 550, 551, 552, 553] (by decide +kernel) (by decide +kernel)) (goodIn_sub (fun _ h => List.mem_append_left _ (List.mem_append_left _ (List.mem_append_right _ h))) (by decide +kernel))
set_option maxRecDepth 20000 in
theorem gL_law_L_state : GoodIn wsL_law (va_wsS RL 150 yL_state wsL_state) := goodIn_app (goodIn_of _ (by decide +kernel)) ggL_law_L_state
set_option maxRecDepth 20000 in
theorem ggL_law_X5_state : GoodIn wsL_law wsX5_state := goodIn_r _ [457, 81, 254, 255, 5, 256, 138, 139, 140, 152, 153, 154, 155, 156, 516, 517, 518, 519, 520, 521, 522, 523, 524, 525, 526, 527, 528, 529, 530, 531, 532, 533, 534, 535] (by decide +kernel) (by decide +kernel)
set_option maxRecDepth 20000 in
theorem gL_law_X5_state : GoodIn wsL_law (wsV RL 152 RX5 yX5_state wsX5_state) := goodIn_app (goodIn_of _ (by decide +kernel)) ggL_law_X5_state
set_option maxRecDepth 20000 in
theorem ggL_law_L_lag : GoodIn wsL_law wsL_lag := goodIn_ca (goodIn_r _ [460, 91, 461, 462, 463, 2, 464, 20, 16, 322, 323, 324, 101, 102, 209, 210, 211, 29, 212, 64, 213, 214, 215, 216, 63, 511, 512, 513, 514, 515, 536, 537, 538, 539, 540, 541, 542, 549, 550, 551, 552, 553] (by decide +kernel) (by decide +kernel)) (goodIn_sub (fun _ h => List.mem_append_left _ (List.mem_append_left _ (List.mem_append_right _ h))) (by decide +kernel))
set_option maxRecDepth 20000 in
theorem gL_law_L_lag : GoodIn wsL_law (va_wsS RL 153 yL_lag wsL_lag) := goodIn_app (goodIn_of _ (by decide +kernel)) ggL_law_L_lag
set_option maxRecDepth 20000 in
theorem ggL_law_X5_lag : GoodIn wsL_law wsX5_lag := goodIn_r _ [468, 81, 151, 82, 254, 255, 5, 256, 138, 139, 140, 152, 153, 154, 155, 156, 516, 517, 518, 519, 520, 521, 522, 523, 524, 525, 526, 527, 528, 529, 530, 531, 532, 533, 534, 535] (by decide +kernel) (by decide +kernel)
set_option maxRecDepth 20000 in
theorem gL_law_X5_lag : GoodIn wsL_law (wsV RL 155 RX5 yX5_lag wsX5_lag) := goodIn_app (goodIn_of _ (by decide +kernel)) ggL_law_X5_lag
set_option maxRecDepth 20000 in
theorem ggL_law_L_copiedAt : GoodIn wsL_law wsL_copiedAt := goodIn_ca (goodIn_r _ [471, 91, 472, 473, 474, 2, 475, 20, 322, 323, 324, 101, 102, 103, 104, 105, 511, 512, 513, 514, 515, 549, 550, 551, 552, 553] (by decide +kernel) (by decide +kernel)) (goodIn_sub (fun _ h => List.mem_append_left _ (List.mem_append_left _ (List.mem_append_right _ h))) (by decide +kernel))
set_option maxRecDepth 20000 in
theorem gL_law_L_copiedAt : GoodIn wsL_law (va_wsS RL 156 yL_copiedAt wsL_copiedAt) := goodIn_app (goodIn_of _ (by decide +kernel)) ggL_law_L_copiedAt
set_option maxRecDepth 20000 in
theorem ggL_law_X5_copiedAt : GoodIn wsL_law wsX5_copiedAt := goodIn_r _ [479, 83, 254, 255, 5, 256, 138, 139, 140, 144, 145, 146, 152, 153, 154, 155, 156, 516, 517, 518, 519, 520, 521, 522, 523, 524, 525, 526, 527, 528, 529, 530, 531, 532, 533, 534, 535] (by decide +kernel) (by decide +kernel)
set_option maxRecDepth 20000 in
theorem gL_law_X5_copiedAt : GoodIn wsL_law (wsV RL 158 RX5 yX5_copiedAt wsX5_copiedAt) := goodIn_app (goodIn_of _ (by decide +kernel)) ggL_law_X5_copiedAt
set_option maxRecDepth 20000 in
theorem ggL_law_L_seen : GoodIn wsL_law wsL_seen := goodIn_ca (goodIn_r _ [482, 91, 483, 484, 485, 2, 486, 20, 322, 323, 324, 101, 102, 98, 99, 100, 103, 104, 105, 244, 245, 246, 121, 122, 123, 247, 248, 249, 511, 512, 513, 514, 515, 549, 550, 551, 552, 553] (by decide +kernel) (by decide +kernel)) (goodIn_sub (fun _ h => List.mem_append_left _ (List.mem_append_left _ (List.mem_append_right _ h))) (by decide +kernel))
set_option maxRecDepth 20000 in
theorem gL_law_L_seen : GoodIn wsL_law (va_wsS RL 159 yL_seen wsL_seen) := goodIn_app (goodIn_of _ (by decide +kernel)) ggL_law_L_seen
set_option maxRecDepth 20000 in
theorem ggL_law_X5_seen : GoodIn wsL_law wsX5_seen := goodIn_r _ [490, 84, 254, 255, 5, 256, 138, 139, 140, 141, 142, 143, 144, 145, 146, 152, 153, 154, 155, 156, 257, 258, 259, 516, 517, 518, 519, 520, 521, 522, 523, 524, 525, 526, 527, 528, 529, 530, 531, 532, 533, 534, 535] (by decide +kernel) (by decide +kernel)
set_option maxRecDepth 20000 in
theorem gL_law_X5_seen : GoodIn wsL_law (wsV RL 161 RX5 yX5_seen wsX5_seen) := goodIn_app (goodIn_of _ (by decide +kernel)) ggL_law_X5_seen
set_option maxRecDepth 20000 in
theorem ggL_law_L_isFaithful : GoodIn wsL_law wsL_isFaithful := goodIn_ca (goodIn_ca (goodIn_r _ [493, 91, 93, 494, 495, 496, 2, 497, 115, 116, 20, 498, 499, 500, 501, 16, 322, 323, 324, 101, 102, 103, 104, 105, 502, 214, 215, 29, 216, 63, 121, 122, 123, 503, 504, 505, 15, 506, 41, 359, 360, 361, 27, 362, 51, 54, 248, 249, 363, 364, 365, 366, 52, 53, 511, 512, 513, 514, 515, 549, 550, 551, 552, 553, 536, 537, 538, 539, 540, 541, 542, 545, 546, 547, 548] (by decide +kernel) (by decide +kernel)) (goodIn_sub (fun _ h => List.mem_append_right _ h) (by decide +kernel))) (goodIn_sub (fun _ h => List.mem_append_left _ (List.mem_append_left _ (List.mem_append_right _ h))) (by decide +kernel))
set_option maxRecDepth 20000 in
theorem gL_law_L_isFaithful : GoodIn wsL_law (va_wsS RL 162 yL_isFaithful wsL_isFaithful) := goodIn_app (goodIn_of _ (by decide +kernel)) ggL_law_L_isFaithful
set_option maxRecDepth 20000 in
theorem ggL_law_X5_isFaithful : GoodIn wsL_law wsX5_isFaithful := goodIn_r _ [510, 81, 83, 82, 84, 80, 254, 255, 5, 256, 138, 139, 140, 144, 145, 146, 152, 153, 154, 155, 156, 371, 372, 373, 374, 70, 375, 376, 377, 378, 76, 77, 78, 257, 258, 259, 379, 380, 381, 382, 79, 516, 517, 518, 519, 520, 521, 522, 523, 524, 525, 526, 527, 528, 529, 530, 531, 532, 533, 534, 535] (by decide +kernel) (by decide +kernel)
set_option maxRecDepth 20000 in
theorem gL_law_X5_isFaithful : GoodIn wsL_law (wsV RL 164 RX5 yX5_isFaithful wsX5_isFaithful) := goodIn_app (goodIn_of _ (by decide +kernel)) ggL_law_X5_isFaithful
