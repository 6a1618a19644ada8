set_option maxRecDepth 20000 in
theorem ggL_law_X4_init : GoodIn wsL_law wsX4_init := goodIn_r _ [6, 7, 8, 9, 10, 11, 12, 13, 14, 15, 16, 17, 18, 19, 20, 21, 22, 23, 24, 25, 26, 27, 28, 29, 30, 3, 31, 32, 33, 34, 35, 36, 37, 38, 39, 40, 41, 42, 43, 44, 45, 46, 47, 48, 49, 50, 51, 52, 53, 54, 55, 56, 57, 58, 59, 60, 319, 320, 321, 322, 323, 324, 325, 314, 315, 316, 317, 318, 326, 327, 328, 329, 330, 331, 332, 333, 334, 335, 336] (by decide +kernel) (by decide +kernel)
set_option maxRecDepth 20000 in
theorem gL_law_X4_init : GoodIn wsL_law (wsX4_init) := ggL_law_X4_init
set_option maxRecDepth 20000 in
theorem ggL_law_L_isPublisher : GoodIn wsL_law wsL_isPublisher := goodIn_ca (goodIn_ca (goodIn_r _ [64, 65, 66, 67, 2, 68, 13, 69, 70, 63, 71, 72, 73, 74, 75, 76, 77, 78, 79, 80, 81, 82, 83, 84, 85, 86, 87, 88, 89, 90, 91, 92, 93, 94, 95, 96, 97, 98, 17, 99, 100, 101, 102, 103, 104, 105, 106, 107, 108, 26, 109, 60, 110, 111, 112, 113, 59, 114, 115, 116, 117, 118, 119, 120, 121, 122, 123, 124, 125, 126, 127, 128, 129, 130, 131, 132, 133, 134, 135, 12, 136, 37, 137, 138, 139, 24, 140, 47, 50, 141, 142, 143, 144, 48, 49, 314, 315, 316, 317, 318, 319, 320, 321, 322, 323, 324, 325, 332, 333, 334, 335, 336, 328, 329, 330, 331] (by decide +kernel) (by decide +kernel)) (goodIn_sub (fun _ h => List.mem_append_left _ (List.mem_append_left _ (List.mem_append_right _ h))) (by decide +kernel))) (goodIn_sub (fun _ h => List.mem_append_left _ (List.mem_append_right _ h)) (by decide +kernel))
set_option maxRecDepth 20000 in
theorem gL_law_L_isPublisher : GoodIn wsL_law (va_wsS RL 128 yL_isPublisher wsL_isPublisher) := goodIn_app (goodIn_of _ (by decide +kernel)) ggL_law_L_isPublisher
set_option maxRecDepth 20000 in
theorem ggL_law_L_areSubscribers : GoodIn wsL_law wsL_areSubscribers := goodIn_ca (goodIn_ca (goodIn_r _ [147, 69, 70, 63, 71, 72, 73, 74, 75, 76, 2, 77, 13, 78, 79, 80, 81, 82, 83, 84, 85, 86, 87, 88, 89, 90, 91, 92, 93, 94, 95, 96, 97, 98, 17, 99, 100, 101, 102, 103, 104, 105, 106, 107, 108, 26, 109, 60, 110, 111, 112, 113, 59, 114, 115, 116, 117, 118, 119, 120, 121, 122, 123, 124, 125, 126, 127, 128, 129, 130, 131, 132, 133, 134, 135, 12, 136, 37, 137, 138, 139, 24, 140, 47, 50, 141, 142, 143, 144, 48, 49, 314, 315, 316, 317, 318, 319, 320, 321, 322, 323, 324, 325, 332, 333, 334, 335, 336, 328, 329, 330, 331] (by decide +kernel) (by decide +kernel)) (goodIn_sub (fun _ h => List.mem_append_left _ (List.mem_append_left _ (List.mem_append_right _ h))) (by decide +kernel))) (goodIn_sub (fun _ h => List.mem_append_left _ (List.mem_append_right _ h)) (by decide +kernel))
set_option maxRecDepth 20000 in
theorem gL_law_L_areSubscribers : GoodIn wsL_law (va_wsS RL 132 yL_areSubscribers wsL_areSubscribers) := goodIn_app (goodIn_of _ (by decide +kernel)) ggL_law_L_areSubscribers
set_option maxRecDepth 20000 in
theorem ggL_law_L_isDone : GoodIn wsL_law wsL_isDone := goodIn_ca (goodIn_ca (goodIn_ca (goodIn_r _ [150, 151, 152, 63, 153, 154, 155, 156, 157, 158, 159, 160, 72, 161, 73, 162, 163, 164, 2, 165, 13, 78, 79, 80, 81, 82, 83, 84, 85, 166, 167, 168, 169, 170, 171, 172, 173, 174, 126, 127, 175, 176, 177, 12, 178, 33, 32, 89, 90, 91, 179, 180, 181, 182, 183, 184, 185, 34, 35, 36, 31, 186, 187, 188, 189, 190, 191, 192, 193, 194, 195, 196, 197, 198, 199, 200, 201, 202, 203, 204, 37, 205, 206, 207, 208, 209, 210, 211, 212, 17, 22, 106, 107, 108, 26, 109, 60, 110, 111, 112, 113, 59, 213, 214, 215, 216, 217, 218, 219, 220, 15, 221, 222, 223, 86, 87, 88, 224, 225, 226, 227, 228, 229, 230, 231, 232, 233, 234, 235, 236, 237, 238, 99, 100, 101, 239, 240, 241, 242, 58, 243, 244, 245, 246, 57, 247, 248, 249, 250, 251, 252, 253, 254, 255, 256, 257, 258, 137, 138, 139, 24, 140, 47, 50, 93, 94, 141, 142, 143, 144, 48, 49, 259, 260, 261, 262, 21, 263, 264, 265, 20, 266, 41, 267, 42, 268, 269, 270, 271, 272, 273, 274, 275, 276, 277, 278, 279, 280, 281, 282, 283, 284, 56, 285, 286, 287, 288, 289, 290, 291, 292, 293, 294, 295, 296, 297, 298, 299, 300, 301, 302, 303, 304, 305, 306, 307, 308, 309, 310, 118, 119, 120, 121, 92, 74, 75, 76, 77, 122, 123, 124, 125, 128, 129, 130, 131, 132, 133, 134, 135, 136, 311, 312, 313, 95, 96, 97, 98, 314, 315, 316, 317, 318, 319, 320, 321, 322, 323, 324, 325, 332, 333, 334, 335, 336, 328, 329, 330, 331, 326, 327] (by decide +kernel) (by decide +kernel)) (goodIn_sub (fun _ h => List.mem_append_left _ (List.mem_append_left _ (List.mem_append_right _ h))) (by decide +kernel))) (goodIn_sub (fun _ h => List.mem_append_right _ h) (by decide +kernel))) (goodIn_sub (fun _ h => List.mem_append_left _ (List.mem_append_right _ h)) (by decide +kernel))
set_option maxRecDepth 20000 in
theorem gL_law_L_isDone : GoodIn wsL_law (va_wsS RL 136 yL_isDone wsL_isDone) := goodIn_app (goodIn_of _ (by decide +kernel)) ggL_law_L_isDone
set_option maxRecDepth 20000 in
theorem ggL_law_L_does : GoodIn wsL_law wsL_does := goodIn_ca (goodIn_ca (goodIn_ca (goodIn_r _ [160, 72, 161, 73, 162, 163, 164, 2, 165, 13, 78, 79, 80, 81, 82, 83, 84, 85, 166, 167, 168, 169, 170, 171, 172, 173, 174, 126, 127, 175, 176, 177, 12, 178, 33, 32, 89, 90, 91, 179, 180, 181, 182, 183, 184, 185, 34, 35, 36, 31, 186, 187, 63, 188, 189, 190, 191, 192, 193, 194, 195, 196, 197, 198, 199, 200, 201, 202, 203, 204, 37, 205, 206, 207, 208, 209, 210, 211, 212, 17, 22, 106, 107, 108, 26, 109, 60, 110, 111, 112, 113, 59, 213, 214, 215, 216, 217, 218, 219, 220, 15, 221, 222, 223, 86, 87, 88, 224, 225, 226, 227, 228, 229, 230, 231, 232, 233, 234, 235, 236, 237, 238, 99, 100, 101, 239, 240, 241, 242, 58, 243, 244, 245, 246, 57, 247, 248, 249, 250, 251, 252, 253, 254, 255, 256, 257, 258, 137, 138, 139, 24, 140, 47, 50, 93, 94, 141, 142, 143, 144, 48, 49, 259, 260, 261, 262, 21, 263, 264, 265, 20, 266, 41, 267, 42, 268, 269, 270, 271, 272, 273, 274, 275, 276, 277, 278, 279, 280, 281, 282, 283, 284, 56, 285, 286, 287, 288, 289, 290, 291, 292, 293, 314, 315, 316, 317, 318, 319, 320, 321, 322, 323, 324, 325, 332, 333, 334, 335, 336, 328, 329, 330, 331, 326, 327] (by decide +kernel) (by decide +kernel)) (goodIn_sub (fun _ h => List.mem_append_left _ (List.mem_append_left _ (List.mem_append_right _ h))) (by decide +kernel))) (goodIn_sub (fun _ h => List.mem_append_right _ h) (by decide +kernel))) (goodIn_sub (fun _ h => List.mem_append_left _ (List.mem_append_right _ h)) (by decide +kernel))
set_option maxRecDepth 20000 in
theorem gL_law_L_does : GoodIn wsL_law (va_wsS RL 97 yL_does wsL_does) := goodIn_app (goodIn_of _ (by decide +kernel)) ggL_law_L_does
theorem dL_law_0 : decode cL_law 0 = .ok (.new 9, 3) := by decide +kernel
theorem dL_law_3 : decode cL_law 3 = .ok (.dup, 1) := by decide +kernel
theorem dL_law_4 : decode cL_law 4 = .ok (.invokespecial 127, 3) := by decide +kernel
theorem dL_law_7 : decode cL_law 7 = .ok (.astore_n 1, 1) := by decide +kernel
theorem dL_law_8 : decode cL_law 8 = .ok (.bipush 24, 2) := by decide +kernel
theorem dL_law_10 : decode cL_law 10 = .ok (.newarray .int, 2) := by decide +kernel
theorem dL_law_12 : decode cL_law 12 = .ok (.astore_n 2, 1) := by decide +kernel
theorem dL_law_13 : decode cL_law 13 = .ok (.bipush 24, 2) := by decide +kernel
theorem dL_law_15 : decode cL_law 15 = .ok (.newarray .int, 2) := by decide +kernel
theorem dL_law_17 : decode cL_law 17 = .ok (.astore_n 3, 1) := by decide +kernel
theorem dL_law_18 : decode cL_law 18 = .ok (.bipush 6, 2) := by decide +kernel
theorem dL_law_20 : decode cL_law 20 = .ok (.newarray .int, 2) := by decide +kernel
theorem dL_law_22 : decode cL_law 22 = .ok (.astore 4, 2) := by decide +kernel
theorem dL_law_24 : decode cL_law 24 = .ok (.bipush 21, 2) := by decide +kernel
theorem dL_law_26 : decode cL_law 26 = .ok (.newarray .int, 2) := by decide +kernel
theorem dL_law_28 : decode cL_law 28 = .ok (.astore 5, 2) := by decide +kernel
theorem dL_law_30 : decode cL_law 30 = .ok (.iconst 3, 1) := by decide +kernel
theorem dL_law_31 : decode cL_law 31 = .ok (.newarray .int, 2) := by decide +kernel
theorem dL_law_33 : decode cL_law 33 = .ok (.astore 6, 2) := by decide +kernel
theorem dL_law_35 : decode cL_law 35 = .ok (.aload 6, 2) := by decide +kernel
theorem dL_law_37 : decode cL_law 37 = .ok (.iconst 2, 1) := by decide +kernel
theorem dL_law_38 : decode cL_law 38 = .ok (.bipush 20, 2) := by decide +kernel
theorem dL_law_40 : decode cL_law 40 = .ok (.iastore, 1) := by decide +kernel
theorem dL_law_41 : decode cL_law 41 = .ok (.iconst 0, 1) := by decide +kernel
theorem dL_law_42 : decode cL_law 42 = .ok (.istore 7, 2) := by decide +kernel
theorem dL_law_44 : decode cL_law 44 = .ok (.iload 7, 2) := by decide +kernel
theorem dL_law_46 : decode cL_law 46 = .ok (.bipush 24, 2) := by decide +kernel
theorem dL_law_48 : decode cL_law 48 = .ok (.if_icmp .ge 19, 3) := by decide +kernel
theorem dL_law_51 : decode cL_law 51 = .ok (.aload_n 2, 1) := by decide +kernel
theorem dL_law_52 : decode cL_law 52 = .ok (.iload 7, 2) := by decide +kernel
theorem dL_law_54 : decode cL_law 54 = .ok (.iconst (-1), 1) := by decide +kernel
theorem dL_law_55 : decode cL_law 55 = .ok (.iastore, 1) := by decide +kernel
theorem dL_law_56 : decode cL_law 56 = .ok (.aload_n 3, 1) := by decide +kernel
theorem dL_law_57 : decode cL_law 57 = .ok (.iload 7, 2) := by decide +kernel
theorem dL_law_59 : decode cL_law 59 = .ok (.iconst (-1), 1) := by decide +kernel
theorem dL_law_60 : decode cL_law 60 = .ok (.iastore, 1) := by decide +kernel
theorem dL_law_61 : decode cL_law 61 = .ok (.iinc 7 1, 3) := by decide +kernel
theorem dL_law_64 : decode cL_law 64 = .ok (.goto (-20), 3) := by decide +kernel
theorem dL_law_67 : decode cL_law 67 = .ok (.iconst 0, 1) := by decide +kernel
theorem dL_law_68 : decode cL_law 68 = .ok (.istore 7, 2) := by decide +kernel
theorem dL_law_70 : decode cL_law 70 = .ok (.iload 7, 2) := by decide +kernel
theorem dL_law_72 : decode cL_law 72 = .ok (.bipush 6, 2) := by decide +kernel
theorem dL_law_74 : decode cL_law 74 = .ok (.if_icmp .ge 16, 3) := by decide +kernel
theorem dL_law_77 : decode cL_law 77 = .ok (.aload 4, 2) := by decide +kernel
theorem dL_law_79 : decode cL_law 79 = .ok (.iload 7, 2) := by decide +kernel
theorem dL_law_81 : decode cL_law 81 = .ok (.bipush 7, 2) := by decide +kernel
theorem dL_law_83 : decode cL_law 83 = .ok (.iastore, 1) := by decide +kernel
theorem dL_law_84 : decode cL_law 84 = .ok (.iinc 7 1, 3) := by decide +kernel
theorem dL_law_87 : decode cL_law 87 = .ok (.goto (-17), 3) := by decide +kernel
theorem dL_law_90 : decode cL_law 90 = .ok (.iconst 0, 1) := by decide +kernel
theorem dL_law_91 : decode cL_law 91 = .ok (.istore 7, 2) := by decide +kernel
theorem dL_law_93 : decode cL_law 93 = .ok (.iload 7, 2) := by decide +kernel
theorem dL_law_95 : decode cL_law 95 = .ok (.iconst 3, 1) := by decide +kernel
theorem dL_law_96 : decode cL_law 96 = .ok (.if_icmp .ge 31, 3) := by decide +kernel
theorem dL_law_99 : decode cL_law 99 = .ok (.aload 5, 2) := by decide +kernel
theorem dL_law_101 : decode cL_law 101 = .ok (.bipush 7, 2) := by decide +kernel
theorem dL_law_103 : decode cL_law 103 = .ok (.iload 7, 2) := by decide +kernel
theorem dL_law_105 : decode cL_law 105 = .ok (.imul, 1) := by decide +kernel
theorem dL_law_106 : decode cL_law 106 = .ok (.iconst 3, 1) := by decide +kernel
theorem dL_law_107 : decode cL_law 107 = .ok (.iadd, 1) := by decide +kernel
theorem dL_law_108 : decode cL_law 108 = .ok (.iconst (-1), 1) := by decide +kernel
theorem dL_law_109 : decode cL_law 109 = .ok (.iastore, 1) := by decide +kernel
theorem dL_law_110 : decode cL_law 110 = .ok (.aload 5, 2) := by decide +kernel
theorem dL_law_112 : decode cL_law 112 = .ok (.bipush 7, 2) := by decide +kernel
theorem dL_law_114 : decode cL_law 114 = .ok (.iload 7, 2) := by decide +kernel
theorem dL_law_116 : decode cL_law 116 = .ok (.imul, 1) := by decide +kernel
theorem dL_law_117 : decode cL_law 117 = .ok (.iconst 4, 1) := by decide +kernel
theorem dL_law_118 : decode cL_law 118 = .ok (.iadd, 1) := by decide +kernel
theorem dL_law_119 : decode cL_law 119 = .ok (.iconst (-1), 1) := by decide +kernel
theorem dL_law_120 : decode cL_law 120 = .ok (.iastore, 1) := by decide +kernel
theorem dL_law_121 : decode cL_law 121 = .ok (.iinc 7 1, 3) := by decide +kernel
theorem dL_law_124 : decode cL_law 124 = .ok (.goto (-31), 3) := by decide +kernel
theorem dL_law_127 : decode cL_law 127 = .ok (.aload_n 1, 1) := by decide +kernel
theorem dL_law_128 : decode cL_law 128 = .ok (.aload_n 2, 1) := by decide +kernel
theorem dL_law_129 : decode cL_law 129 = .ok (.aload 6, 2) := by decide +kernel
theorem dL_law_131 : decode cL_law 131 = .ok (.invokestatic 128, 3) := by decide +kernel
theorem dL_law_134 : decode cL_law 134 = .ok (.ifCond .eq 20, 3) := by decide +kernel
theorem dL_law_137 : decode cL_law 137 = .ok (.aload_n 1, 1) := by decide +kernel
theorem dL_law_138 : decode cL_law 138 = .ok (.aload 4, 2) := by decide +kernel
theorem dL_law_140 : decode cL_law 140 = .ok (.aload 5, 2) := by decide +kernel
theorem dL_law_142 : decode cL_law 142 = .ok (.aload 6, 2) := by decide +kernel
theorem dL_law_144 : decode cL_law 144 = .ok (.invokestatic 132, 3) := by decide +kernel
theorem dL_law_147 : decode cL_law 147 = .ok (.ifCond .eq 7, 3) := by decide +kernel
theorem dL_law_150 : decode cL_law 150 = .ok (.iconst 1, 1) := by decide +kernel
theorem dL_law_151 : decode cL_law 151 = .ok (.goto 4, 3) := by decide +kernel
theorem dL_law_154 : decode cL_law 154 = .ok (.iconst 0, 1) := by decide +kernel
theorem dL_law_155 : decode cL_law 155 = .ok (.istore 7, 2) := by decide +kernel
theorem dL_law_157 : decode cL_law 157 = .ok (.iconst 0, 1) := by decide +kernel
theorem dL_law_158 : decode cL_law 158 = .ok (.istore 8, 2) := by decide +kernel
theorem dL_law_160 : decode cL_law 160 = .ok (.iload 8, 2) := by decide +kernel
theorem dL_law_162 : decode cL_law 162 = .ok (.bipush 60, 2) := by decide +kernel
theorem dL_law_164 : decode cL_law 164 = .ok (.if_icmp .ge 64, 3) := by decide +kernel
theorem dL_law_167 : decode cL_law 167 = .ok (.iload 7, 2) := by decide +kernel
theorem dL_law_169 : decode cL_law 169 = .ok (.ifCond .eq 59, 3) := by decide +kernel
theorem dL_law_172 : decode cL_law 172 = .ok (.aload_n 1, 1) := by decide +kernel
theorem dL_law_173 : decode cL_law 173 = .ok (.aload_n 0, 1) := by decide +kernel
theorem dL_law_174 : decode cL_law 174 = .ok (.iconst 4, 1) := by decide +kernel
theorem dL_law_175 : decode cL_law 175 = .ok (.iload 8, 2) := by decide +kernel
theorem dL_law_177 : decode cL_law 177 = .ok (.imul, 1) := by decide +kernel
theorem dL_law_178 : decode cL_law 178 = .ok (.aload_n 2, 1) := by decide +kernel
theorem dL_law_179 : decode cL_law 179 = .ok (.aload_n 3, 1) := by decide +kernel
theorem dL_law_180 : decode cL_law 180 = .ok (.aload 4, 2) := by decide +kernel
theorem dL_law_182 : decode cL_law 182 = .ok (.aload 5, 2) := by decide +kernel
theorem dL_law_184 : decode cL_law 184 = .ok (.aload 6, 2) := by decide +kernel
theorem dL_law_186 : decode cL_law 186 = .ok (.invokestatic 136, 3) := by decide +kernel
theorem dL_law_189 : decode cL_law 189 = .ok (.ifCond .eq 30, 3) := by decide +kernel
theorem dL_law_192 : decode cL_law 192 = .ok (.aload_n 1, 1) := by decide +kernel
theorem dL_law_193 : decode cL_law 193 = .ok (.aload_n 2, 1) := by decide +kernel
theorem dL_law_194 : decode cL_law 194 = .ok (.aload 6, 2) := by decide +kernel
theorem dL_law_196 : decode cL_law 196 = .ok (.invokestatic 128, 3) := by decide +kernel
theorem dL_law_199 : decode cL_law 199 = .ok (.ifCond .eq 20, 3) := by decide +kernel
theorem dL_law_202 : decode cL_law 202 = .ok (.aload_n 1, 1) := by decide +kernel
theorem dL_law_203 : decode cL_law 203 = .ok (.aload 4, 2) := by decide +kernel
theorem dL_law_205 : decode cL_law 205 = .ok (.aload 5, 2) := by decide +kernel
theorem dL_law_207 : decode cL_law 207 = .ok (.aload 6, 2) := by decide +kernel
theorem dL_law_209 : decode cL_law 209 = .ok (.invokestatic 132, 3) := by decide +kernel
theorem dL_law_212 : decode cL_law 212 = .ok (.ifCond .eq 7, 3) := by decide +kernel
theorem dL_law_215 : decode cL_law 215 = .ok (.iconst 1, 1) := by decide +kernel
theorem dL_law_216 : decode cL_law 216 = .ok (.goto 4, 3) := by decide +kernel
theorem dL_law_219 : decode cL_law 219 = .ok (.iconst 0, 1) := by decide +kernel
theorem dL_law_220 : decode cL_law 220 = .ok (.istore 7, 2) := by decide +kernel
theorem dL_law_222 : decode cL_law 222 = .ok (.iinc 8 1, 3) := by decide +kernel
theorem dL_law_225 : decode cL_law 225 = .ok (.goto (-65), 3) := by decide +kernel
theorem dL_law_228 : decode cL_law 228 = .ok (.iload 7, 2) := by decide +kernel
theorem dL_law_230 : decode cL_law 230 = .ok (.ifCond .eq 165, 3) := by decide +kernel
theorem dL_law_233 : decode cL_law 233 = .ok (.aload_n 1, 1) := by decide +kernel
theorem dL_law_234 : decode cL_law 234 = .ok (.iconst 0, 1) := by decide +kernel
theorem dL_law_235 : decode cL_law 235 = .ok (.iconst (-1), 1) := by decide +kernel
theorem dL_law_236 : decode cL_law 236 = .ok (.iconst 0, 1) := by decide +kernel
theorem dL_law_237 : decode cL_law 237 = .ok (.bipush 100, 2) := by decide +kernel
theorem dL_law_239 : decode cL_law 239 = .ok (.iconst 0, 1) := by decide +kernel
theorem dL_law_240 : decode cL_law 240 = .ok (.iconst 0, 1) := by decide +kernel
theorem dL_law_241 : decode cL_law 241 = .ok (.invokestatic 97, 3) := by decide +kernel
theorem dL_law_244 : decode cL_law 244 = .ok (.bipush (-30), 2) := by decide +kernel
theorem dL_law_246 : decode cL_law 246 = .ok (.if_icmp .ne 149, 3) := by decide +kernel
theorem dL_law_249 : decode cL_law 249 = .ok (.aload_n 1, 1) := by decide +kernel
theorem dL_law_250 : decode cL_law 250 = .ok (.iconst 1, 1) := by decide +kernel
theorem dL_law_251 : decode cL_law 251 = .ok (.iconst 0, 1) := by decide +kernel
theorem dL_law_252 : decode cL_law 252 = .ok (.iconst (-1), 1) := by decide +kernel
theorem dL_law_253 : decode cL_law 253 = .ok (.iconst 0, 1) := by decide +kernel
theorem dL_law_254 : decode cL_law 254 = .ok (.iconst 0, 1) := by decide +kernel
theorem dL_law_255 : decode cL_law 255 = .ok (.iconst 0, 1) := by decide +kernel
theorem dL_law_256 : decode cL_law 256 = .ok (.invokestatic 97, 3) := by decide +kernel
theorem dL_law_259 : decode cL_law 259 = .ok (.bipush (-30), 2) := by decide +kernel
theorem dL_law_261 : decode cL_law 261 = .ok (.if_icmp .ne 134, 3) := by decide +kernel
theorem dL_law_264 : decode cL_law 264 = .ok (.aload_n 1, 1) := by decide +kernel
theorem dL_law_265 : decode cL_law 265 = .ok (.iconst 2, 1) := by decide +kernel
theorem dL_law_266 : decode cL_law 266 = .ok (.iconst 2, 1) := by decide +kernel
theorem dL_law_267 : decode cL_law 267 = .ok (.iconst 0, 1) := by decide +kernel
theorem dL_law_268 : decode cL_law 268 = .ok (.iconst 0, 1) := by decide +kernel
theorem dL_law_269 : decode cL_law 269 = .ok (.iconst 0, 1) := by decide +kernel
theorem dL_law_270 : decode cL_law 270 = .ok (.iconst 0, 1) := by decide +kernel
theorem dL_law_271 : decode cL_law 271 = .ok (.invokestatic 97, 3) := by decide +kernel
theorem dL_law_274 : decode cL_law 274 = .ok (.bipush (-30), 2) := by decide +kernel
theorem dL_law_276 : decode cL_law 276 = .ok (.if_icmp .ne 119, 3) := by decide +kernel
theorem dL_law_279 : decode cL_law 279 = .ok (.aload_n 1, 1) := by decide +kernel
theorem dL_law_280 : decode cL_law 280 = .ok (.iconst 4, 1) := by decide +kernel
theorem dL_law_281 : decode cL_law 281 = .ok (.iconst (-1), 1) := by decide +kernel
theorem dL_law_282 : decode cL_law 282 = .ok (.iconst 0, 1) := by decide +kernel
theorem dL_law_283 : decode cL_law 283 = .ok (.iconst 0, 1) := by decide +kernel
theorem dL_law_284 : decode cL_law 284 = .ok (.iconst 0, 1) := by decide +kernel
theorem dL_law_285 : decode cL_law 285 = .ok (.iconst 0, 1) := by decide +kernel
theorem dL_law_286 : decode cL_law 286 = .ok (.invokestatic 97, 3) := by decide +kernel
theorem dL_law_289 : decode cL_law 289 = .ok (.bipush (-20), 2) := by decide +kernel
theorem dL_law_291 : decode cL_law 291 = .ok (.if_icmp .ne 104, 3) := by decide +kernel
theorem dL_law_294 : decode cL_law 294 = .ok (.aload_n 1, 1) := by decide +kernel
theorem dL_law_295 : decode cL_law 295 = .ok (.iconst 5, 1) := by decide +kernel
theorem dL_law_296 : decode cL_law 296 = .ok (.iconst 0, 1) := by decide +kernel
theorem dL_law_297 : decode cL_law 297 = .ok (.iconst 0, 1) := by decide +kernel
theorem dL_law_298 : decode cL_law 298 = .ok (.iconst 3, 1) := by decide +kernel
theorem dL_law_299 : decode cL_law 299 = .ok (.iconst 0, 1) := by decide +kernel
theorem dL_law_300 : decode cL_law 300 = .ok (.iconst 0, 1) := by decide +kernel
theorem dL_law_301 : decode cL_law 301 = .ok (.invokestatic 97, 3) := by decide +kernel
theorem dL_law_304 : decode cL_law 304 = .ok (.bipush (-30), 2) := by decide +kernel
theorem dL_law_306 : decode cL_law 306 = .ok (.if_icmp .ne 89, 3) := by decide +kernel
theorem dL_law_309 : decode cL_law 309 = .ok (.aload_n 1, 1) := by decide +kernel
theorem dL_law_310 : decode cL_law 310 = .ok (.bipush 6, 2) := by decide +kernel
theorem dL_law_312 : decode cL_law 312 = .ok (.iconst 3, 1) := by decide +kernel
theorem dL_law_313 : decode cL_law 313 = .ok (.iconst 0, 1) := by decide +kernel
theorem dL_law_314 : decode cL_law 314 = .ok (.bipush 8, 2) := by decide +kernel
theorem dL_law_316 : decode cL_law 316 = .ok (.iconst 0, 1) := by decide +kernel
theorem dL_law_317 : decode cL_law 317 = .ok (.iconst 0, 1) := by decide +kernel
theorem dL_law_318 : decode cL_law 318 = .ok (.invokestatic 97, 3) := by decide +kernel
theorem dL_law_321 : decode cL_law 321 = .ok (.bipush (-30), 2) := by decide +kernel
theorem dL_law_323 : decode cL_law 323 = .ok (.if_icmp .ne 72, 3) := by decide +kernel
theorem dL_law_326 : decode cL_law 326 = .ok (.aload_n 1, 1) := by decide +kernel
theorem dL_law_327 : decode cL_law 327 = .ok (.bipush 7, 2) := by decide +kernel
theorem dL_law_329 : decode cL_law 329 = .ok (.iconst 0, 1) := by decide +kernel
theorem dL_law_330 : decode cL_law 330 = .ok (.iconst 3, 1) := by decide +kernel
theorem dL_law_331 : decode cL_law 331 = .ok (.iconst 0, 1) := by decide +kernel
theorem dL_law_332 : decode cL_law 332 = .ok (.iconst 0, 1) := by decide +kernel
theorem dL_law_333 : decode cL_law 333 = .ok (.iconst 0, 1) := by decide +kernel
theorem dL_law_334 : decode cL_law 334 = .ok (.invokestatic 97, 3) := by decide +kernel
theorem dL_law_337 : decode cL_law 337 = .ok (.bipush (-30), 2) := by decide +kernel
theorem dL_law_339 : decode cL_law 339 = .ok (.if_icmp .ne 56, 3) := by decide +kernel
theorem dL_law_342 : decode cL_law 342 = .ok (.aload_n 1, 1) := by decide +kernel
theorem dL_law_343 : decode cL_law 343 = .ok (.bipush 9, 2) := by decide +kernel
theorem dL_law_345 : decode cL_law 345 = .ok (.iconst (-1), 1) := by decide +kernel
theorem dL_law_346 : decode cL_law 346 = .ok (.iconst 0, 1) := by decide +kernel
theorem dL_law_347 : decode cL_law 347 = .ok (.iconst 0, 1) := by decide +kernel
theorem dL_law_348 : decode cL_law 348 = .ok (.iconst 0, 1) := by decide +kernel
theorem dL_law_349 : decode cL_law 349 = .ok (.iconst 0, 1) := by decide +kernel
theorem dL_law_350 : decode cL_law 350 = .ok (.invokestatic 97, 3) := by decide +kernel
theorem dL_law_353 : decode cL_law 353 = .ok (.bipush (-30), 2) := by decide +kernel
theorem dL_law_355 : decode cL_law 355 = .ok (.if_icmp .ne 40, 3) := by decide +kernel
theorem dL_law_358 : decode cL_law 358 = .ok (.aload_n 1, 1) := by decide +kernel
theorem dL_law_359 : decode cL_law 359 = .ok (.bipush 10, 2) := by decide +kernel
theorem dL_law_361 : decode cL_law 361 = .ok (.iconst 0, 1) := by decide +kernel
theorem dL_law_362 : decode cL_law 362 = .ok (.iconst 0, 1) := by decide +kernel
theorem dL_law_363 : decode cL_law 363 = .ok (.iconst 0, 1) := by decide +kernel
theorem dL_law_364 : decode cL_law 364 = .ok (.iconst 0, 1) := by decide +kernel
theorem dL_law_365 : decode cL_law 365 = .ok (.iconst 0, 1) := by decide +kernel
theorem dL_law_366 : decode cL_law 366 = .ok (.invokestatic 97, 3) := by decide +kernel
theorem dL_law_369 : decode cL_law 369 = .ok (.bipush (-20), 2) := by decide +kernel
theorem dL_law_371 : decode cL_law 371 = .ok (.if_icmp .ne 24, 3) := by decide +kernel
theorem dL_law_374 : decode cL_law 374 = .ok (.aload_n 1, 1) := by decide +kernel
theorem dL_law_375 : decode cL_law 375 = .ok (.bipush 12, 2) := by decide +kernel
theorem dL_law_377 : decode cL_law 377 = .ok (.iconst 0, 1) := by decide +kernel
theorem dL_law_378 : decode cL_law 378 = .ok (.iconst 0, 1) := by decide +kernel
theorem dL_law_379 : decode cL_law 379 = .ok (.iconst 0, 1) := by decide +kernel
theorem dL_law_380 : decode cL_law 380 = .ok (.bipush (-2), 2) := by decide +kernel
theorem dL_law_382 : decode cL_law 382 = .ok (.iconst 0, 1) := by decide +kernel
theorem dL_law_383 : decode cL_law 383 = .ok (.invokestatic 97, 3) := by decide +kernel
theorem dL_law_386 : decode cL_law 386 = .ok (.bipush (-20), 2) := by decide +kernel
theorem dL_law_388 : decode cL_law 388 = .ok (.if_icmp .ne 7, 3) := by decide +kernel
theorem dL_law_391 : decode cL_law 391 = .ok (.iconst 1, 1) := by decide +kernel
theorem dL_law_392 : decode cL_law 392 = .ok (.goto 4, 3) := by decide +kernel
theorem dL_law_395 : decode cL_law 395 = .ok (.iconst 0, 1) := by decide +kernel
theorem dL_law_396 : decode cL_law 396 = .ok (.ireturn, 1) := by decide +kernel
