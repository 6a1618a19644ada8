theorem dX5_init_0 : decode cX5_init 0 = .ok (.aload_n 0, 1) := by decide +kernel
theorem dX5_init_1 : decode cX5_init 1 = .ok (.invokespecial 1, 3) := by decide +kernel
theorem dX5_init_4 : decode cX5_init 4 = .ok (.aload_n 0, 1) := by decide +kernel
theorem dX5_init_5 : decode cX5_init 5 = .ok (.bipush 24, 2) := by decide +kernel
theorem dX5_init_7 : decode cX5_init 7 = .ok (.newarray .int, 2) := by decide +kernel
theorem dX5_init_9 : decode cX5_init 9 = .ok (.putfield 7, 3) := by decide +kernel
theorem dX5_init_12 : decode cX5_init 12 = .ok (.aload_n 0, 1) := by decide +kernel
theorem dX5_init_13 : decode cX5_init 13 = .ok (.sipush 1224, 3) := by decide +kernel
theorem dX5_init_16 : decode cX5_init 16 = .ok (.newarray .int, 2) := by decide +kernel
theorem dX5_init_18 : decode cX5_init 18 = .ok (.putfield 13, 3) := by decide +kernel
theorem dX5_init_21 : decode cX5_init 21 = .ok (.aload_n 0, 1) := by decide +kernel
theorem dX5_init_22 : decode cX5_init 22 = .ok (.bipush 20, 2) := by decide +kernel
theorem dX5_init_24 : decode cX5_init 24 = .ok (.putfield 16, 3) := by decide +kernel
theorem dX5_init_27 : decode cX5_init 27 = .ok (.aload_n 0, 1) := by decide +kernel
theorem dX5_init_28 : decode cX5_init 28 = .ok (.bipush 52, 2) := by decide +kernel
theorem dX5_init_30 : decode cX5_init 30 = .ok (.newarray .int, 2) := by decide +kernel
theorem dX5_init_32 : decode cX5_init 32 = .ok (.putfield 20, 3) := by decide +kernel
theorem dX5_init_35 : decode cX5_init 35 = .ok (.aload_n 0, 1) := by decide +kernel
theorem dX5_init_36 : decode cX5_init 36 = .ok (.sipush 624, 3) := by decide +kernel
theorem dX5_init_39 : decode cX5_init 39 = .ok (.newarray .int, 2) := by decide +kernel
theorem dX5_init_41 : decode cX5_init 41 = .ok (.putfield 23, 3) := by decide +kernel
theorem dX5_init_44 : decode cX5_init 44 = .ok (.aload_n 0, 1) := by decide +kernel
theorem dX5_init_45 : decode cX5_init 45 = .ok (.sipush 624, 3) := by decide +kernel
theorem dX5_init_48 : decode cX5_init 48 = .ok (.newarray .int, 2) := by decide +kernel
theorem dX5_init_50 : decode cX5_init 50 = .ok (.putfield 26, 3) := by decide +kernel
theorem dX5_init_53 : decode cX5_init 53 = .ok (.aload_n 0, 1) := by decide +kernel
theorem dX5_init_54 : decode cX5_init 54 = .ok (.sipush 624, 3) := by decide +kernel
theorem dX5_init_57 : decode cX5_init 57 = .ok (.newarray .int, 2) := by decide +kernel
theorem dX5_init_59 : decode cX5_init 59 = .ok (.putfield 29, 3) := by decide +kernel
theorem dX5_init_62 : decode cX5_init 62 = .ok (.aload_n 0, 1) := by decide +kernel
theorem dX5_init_63 : decode cX5_init 63 = .ok (.bipush 6, 2) := by decide +kernel
theorem dX5_init_65 : decode cX5_init 65 = .ok (.newarray .int, 2) := by decide +kernel
theorem dX5_init_67 : decode cX5_init 67 = .ok (.putfield 32, 3) := by decide +kernel
theorem dX5_init_70 : decode cX5_init 70 = .ok (.aload_n 0, 1) := by decide +kernel
theorem dX5_init_71 : decode cX5_init 71 = .ok (.bipush 6, 2) := by decide +kernel
theorem dX5_init_73 : decode cX5_init 73 = .ok (.newarray .int, 2) := by decide +kernel
theorem dX5_init_75 : decode cX5_init 75 = .ok (.putfield 35, 3) := by decide +kernel
theorem dX5_init_78 : decode cX5_init 78 = .ok (.aload_n 0, 1) := by decide +kernel
theorem dX5_init_79 : decode cX5_init 79 = .ok (.bipush 6, 2) := by decide +kernel
theorem dX5_init_81 : decode cX5_init 81 = .ok (.newarray .int, 2) := by decide +kernel
theorem dX5_init_83 : decode cX5_init 83 = .ok (.putfield 38, 3) := by decide +kernel
theorem dX5_init_86 : decode cX5_init 86 = .ok (.aload_n 0, 1) := by decide +kernel
theorem dX5_init_87 : decode cX5_init 87 = .ok (.bipush 6, 2) := by decide +kernel
theorem dX5_init_89 : decode cX5_init 89 = .ok (.newarray .int, 2) := by decide +kernel
theorem dX5_init_91 : decode cX5_init 91 = .ok (.putfield 41, 3) := by decide +kernel
theorem dX5_init_94 : decode cX5_init 94 = .ok (.aload_n 0, 1) := by decide +kernel
theorem dX5_init_95 : decode cX5_init 95 = .ok (.iconst 3, 1) := by decide +kernel
theorem dX5_init_96 : decode cX5_init 96 = .ok (.newarray .int, 2) := by decide +kernel
theorem dX5_init_98 : decode cX5_init 98 = .ok (.putfield 44, 3) := by decide +kernel
theorem dX5_init_101 : decode cX5_init 101 = .ok (.aload_n 0, 1) := by decide +kernel
theorem dX5_init_102 : decode cX5_init 102 = .ok (.iconst 3, 1) := by decide +kernel
theorem dX5_init_103 : decode cX5_init 103 = .ok (.newarray .int, 2) := by decide +kernel
theorem dX5_init_105 : decode cX5_init 105 = .ok (.putfield 47, 3) := by decide +kernel
theorem dX5_init_108 : decode cX5_init 108 = .ok (.aload_n 0, 1) := by decide +kernel
theorem dX5_init_109 : decode cX5_init 109 = .ok (.iconst 3, 1) := by decide +kernel
theorem dX5_init_110 : decode cX5_init 110 = .ok (.newarray .int, 2) := by decide +kernel
theorem dX5_init_112 : decode cX5_init 112 = .ok (.putfield 50, 3) := by decide +kernel
theorem dX5_init_115 : decode cX5_init 115 = .ok (.aload_n 0, 1) := by decide +kernel
theorem dX5_init_116 : decode cX5_init 116 = .ok (.bipush 6, 2) := by decide +kernel
theorem dX5_init_118 : decode cX5_init 118 = .ok (.newarray .int, 2) := by decide +kernel
theorem dX5_init_120 : decode cX5_init 120 = .ok (.putfield 53, 3) := by decide +kernel
theorem dX5_init_123 : decode cX5_init 123 = .ok (.aload_n 0, 1) := by decide +kernel
theorem dX5_init_124 : decode cX5_init 124 = .ok (.bipush 72, 2) := by decide +kernel
theorem dX5_init_126 : decode cX5_init 126 = .ok (.newarray .int, 2) := by decide +kernel
theorem dX5_init_128 : decode cX5_init 128 = .ok (.putfield 56, 3) := by decide +kernel
theorem dX5_init_131 : decode cX5_init 131 = .ok (.aload_n 0, 1) := by decide +kernel
theorem dX5_init_132 : decode cX5_init 132 = .ok (.bipush 24, 2) := by decide +kernel
theorem dX5_init_134 : decode cX5_init 134 = .ok (.newarray .int, 2) := by decide +kernel
theorem dX5_init_136 : decode cX5_init 136 = .ok (.putfield 59, 3) := by decide +kernel
theorem dX5_init_139 : decode cX5_init 139 = .ok (.aload_n 0, 1) := by decide +kernel
theorem dX5_init_140 : decode cX5_init 140 = .ok (.bipush 24, 2) := by decide +kernel
theorem dX5_init_142 : decode cX5_init 142 = .ok (.newarray .int, 2) := by decide +kernel
theorem dX5_init_144 : decode cX5_init 144 = .ok (.putfield 62, 3) := by decide +kernel
theorem dX5_init_147 : decode cX5_init 147 = .ok (.iconst 0, 1) := by decide +kernel
theorem dX5_init_148 : decode cX5_init 148 = .ok (.istore_n 1, 1) := by decide +kernel
theorem dX5_init_149 : decode cX5_init 149 = .ok (.iload_n 1, 1) := by decide +kernel
theorem dX5_init_150 : decode cX5_init 150 = .ok (.bipush 24, 2) := by decide +kernel
theorem dX5_init_152 : decode cX5_init 152 = .ok (.if_icmp .ge 23, 3) := by decide +kernel
theorem dX5_init_155 : decode cX5_init 155 = .ok (.aload_n 0, 1) := by decide +kernel
theorem dX5_init_156 : decode cX5_init 156 = .ok (.getfield 7, 3) := by decide +kernel
theorem dX5_init_159 : decode cX5_init 159 = .ok (.iload_n 1, 1) := by decide +kernel
theorem dX5_init_160 : decode cX5_init 160 = .ok (.iconst (-1), 1) := by decide +kernel
theorem dX5_init_161 : decode cX5_init 161 = .ok (.iastore, 1) := by decide +kernel
theorem dX5_init_162 : decode cX5_init 162 = .ok (.aload_n 0, 1) := by decide +kernel
theorem dX5_init_163 : decode cX5_init 163 = .ok (.getfield 13, 3) := by decide +kernel
theorem dX5_init_166 : decode cX5_init 166 = .ok (.iload_n 1, 1) := by decide +kernel
theorem dX5_init_167 : decode cX5_init 167 = .ok (.iconst (-1), 1) := by decide +kernel
theorem dX5_init_168 : decode cX5_init 168 = .ok (.iastore, 1) := by decide +kernel
theorem dX5_init_169 : decode cX5_init 169 = .ok (.iinc 1 1, 3) := by decide +kernel
theorem dX5_init_172 : decode cX5_init 172 = .ok (.goto (-23), 3) := by decide +kernel
theorem dX5_init_175 : decode cX5_init 175 = .ok (.iconst 0, 1) := by decide +kernel
theorem dX5_init_176 : decode cX5_init 176 = .ok (.istore_n 1, 1) := by decide +kernel
theorem dX5_init_177 : decode cX5_init 177 = .ok (.iload_n 1, 1) := by decide +kernel
theorem dX5_init_178 : decode cX5_init 178 = .ok (.bipush 72, 2) := by decide +kernel
theorem dX5_init_180 : decode cX5_init 180 = .ok (.if_icmp .ge 16, 3) := by decide +kernel
theorem dX5_init_183 : decode cX5_init 183 = .ok (.aload_n 0, 1) := by decide +kernel
theorem dX5_init_184 : decode cX5_init 184 = .ok (.getfield 56, 3) := by decide +kernel
theorem dX5_init_187 : decode cX5_init 187 = .ok (.iload_n 1, 1) := by decide +kernel
theorem dX5_init_188 : decode cX5_init 188 = .ok (.iconst (-1), 1) := by decide +kernel
theorem dX5_init_189 : decode cX5_init 189 = .ok (.iastore, 1) := by decide +kernel
theorem dX5_init_190 : decode cX5_init 190 = .ok (.iinc 1 1, 3) := by decide +kernel
theorem dX5_init_193 : decode cX5_init 193 = .ok (.goto (-16), 3) := by decide +kernel
theorem dX5_init_196 : decode cX5_init 196 = .ok (.iconst 0, 1) := by decide +kernel
theorem dX5_init_197 : decode cX5_init 197 = .ok (.istore_n 1, 1) := by decide +kernel
theorem dX5_init_198 : decode cX5_init 198 = .ok (.iload_n 1, 1) := by decide +kernel
theorem dX5_init_199 : decode cX5_init 199 = .ok (.bipush 6, 2) := by decide +kernel
theorem dX5_init_201 : decode cX5_init 201 = .ok (.if_icmp .ge 16, 3) := by decide +kernel
theorem dX5_init_204 : decode cX5_init 204 = .ok (.aload_n 0, 1) := by decide +kernel
theorem dX5_init_205 : decode cX5_init 205 = .ok (.getfield 53, 3) := by decide +kernel
theorem dX5_init_208 : decode cX5_init 208 = .ok (.iload_n 1, 1) := by decide +kernel
theorem dX5_init_209 : decode cX5_init 209 = .ok (.iconst (-1), 1) := by decide +kernel
theorem dX5_init_210 : decode cX5_init 210 = .ok (.iastore, 1) := by decide +kernel
theorem dX5_init_211 : decode cX5_init 211 = .ok (.iinc 1 1, 3) := by decide +kernel
theorem dX5_init_214 : decode cX5_init 214 = .ok (.goto (-16), 3) := by decide +kernel
theorem dX5_init_217 : decode cX5_init 217 = .ok (.iconst 0, 1) := by decide +kernel
theorem dX5_init_218 : decode cX5_init 218 = .ok (.istore_n 1, 1) := by decide +kernel
theorem dX5_init_219 : decode cX5_init 219 = .ok (.iload_n 1, 1) := by decide +kernel
theorem dX5_init_220 : decode cX5_init 220 = .ok (.bipush 6, 2) := by decide +kernel
theorem dX5_init_222 : decode cX5_init 222 = .ok (.if_icmp .ge 17, 3) := by decide +kernel
theorem dX5_init_225 : decode cX5_init 225 = .ok (.aload_n 0, 1) := by decide +kernel
theorem dX5_init_226 : decode cX5_init 226 = .ok (.getfield 41, 3) := by decide +kernel
theorem dX5_init_229 : decode cX5_init 229 = .ok (.iload_n 1, 1) := by decide +kernel
theorem dX5_init_230 : decode cX5_init 230 = .ok (.bipush 7, 2) := by decide +kernel
theorem dX5_init_232 : decode cX5_init 232 = .ok (.iastore, 1) := by decide +kernel
theorem dX5_init_233 : decode cX5_init 233 = .ok (.iinc 1 1, 3) := by decide +kernel
theorem dX5_init_236 : decode cX5_init 236 = .ok (.goto (-17), 3) := by decide +kernel
theorem dX5_init_239 : decode cX5_init 239 = .ok (.return_, 1) := by decide +kernel
theorem dX5_thrown_0 : decode cX5_thrown 0 = .ok (.aload_n 0, 1) := by decide +kernel
theorem dX5_thrown_1 : decode cX5_thrown 1 = .ok (.getfield 65, 3) := by decide +kernel
theorem dX5_thrown_4 : decode cX5_thrown 4 = .ok (.ireturn, 1) := by decide +kernel
theorem dX5_fails_0 : decode cX5_fails 0 = .ok (.aload_n 0, 1) := by decide +kernel
theorem dX5_fails_1 : decode cX5_fails 1 = .ok (.iload_n 1, 1) := by decide +kernel
theorem dX5_fails_2 : decode cX5_fails 2 = .ok (.putfield 65, 3) := by decide +kernel
theorem dX5_fails_5 : decode cX5_fails 5 = .ok (.iload_n 1, 1) := by decide +kernel
theorem dX5_fails_6 : decode cX5_fails 6 = .ok (.ifCond .le 7, 3) := by decide +kernel
theorem dX5_fails_9 : decode cX5_fails 9 = .ok (.iconst 1, 1) := by decide +kernel
theorem dX5_fails_10 : decode cX5_fails 10 = .ok (.goto 4, 3) := by decide +kernel
theorem dX5_fails_13 : decode cX5_fails 13 = .ok (.iconst 0, 1) := by decide +kernel
theorem dX5_fails_14 : decode cX5_fails 14 = .ok (.ireturn, 1) := by decide +kernel
theorem dX5_isIn_0 : decode cX5_isIn 0 = .ok (.iload_n 0, 1) := by decide +kernel
theorem dX5_isIn_1 : decode cX5_isIn 1 = .ok (.iload_n 1, 1) := by decide +kernel
theorem dX5_isIn_2 : decode cX5_isIn 2 = .ok (.if_icmp .lt 12, 3) := by decide +kernel
theorem dX5_isIn_5 : decode cX5_isIn 5 = .ok (.iload_n 0, 1) := by decide +kernel
theorem dX5_isIn_6 : decode cX5_isIn 6 = .ok (.iload_n 2, 1) := by decide +kernel
theorem dX5_isIn_7 : decode cX5_isIn 7 = .ok (.if_icmp .gt 7, 3) := by decide +kernel
theorem dX5_isIn_10 : decode cX5_isIn 10 = .ok (.iconst 1, 1) := by decide +kernel
theorem dX5_isIn_11 : decode cX5_isIn 11 = .ok (.goto 4, 3) := by decide +kernel
theorem dX5_isIn_14 : decode cX5_isIn 14 = .ok (.iconst 0, 1) := by decide +kernel
theorem dX5_isIn_15 : decode cX5_isIn 15 = .ok (.ireturn, 1) := by decide +kernel
set_option maxRecDepth 20000 in
theorem ggX5_isTable_X5_isIn : GoodIn wsX5_isTable wsX5_isIn := goodIn_r _ [4] (by decide +kernel) (by decide +kernel)
set_option maxRecDepth 20000 in
theorem gX5_isTable_X5_isIn : GoodIn wsX5_isTable (va_wsS RX5 68 yX5_isIn wsX5_isIn) := goodIn_app (goodIn_of _ (by decide +kernel)) ggX5_isTable_X5_isIn
theorem dX5_isTable_0 : decode cX5_isTable 0 = .ok (.iload_n 0, 1) := by decide +kernel
theorem dX5_isTable_1 : decode cX5_isTable 1 = .ok (.iconst 0, 1) := by decide +kernel
theorem dX5_isTable_2 : decode cX5_isTable 2 = .ok (.iconst 1, 1) := by decide +kernel
theorem dX5_isTable_3 : decode cX5_isTable 3 = .ok (.invokestatic 68, 3) := by decide +kernel
theorem dX5_isTable_6 : decode cX5_isTable 6 = .ok (.ireturn, 1) := by decide +kernel
set_option maxRecDepth 20000 in
theorem ggX5_isRow_X5_isTable : GoodIn wsX5_isRow wsX5_isTable := goodIn_r _ [4, 5, 6, 3, 7] (by decide +kernel) (by decide +kernel)
set_option maxRecDepth 20000 in
theorem gX5_isRow_X5_isTable : GoodIn wsX5_isRow (va_wsS RX5 72 yX5_isTable wsX5_isTable) := goodIn_app (goodIn_of _ (by decide +kernel)) ggX5_isRow_X5_isTable
set_option maxRecDepth 20000 in
theorem ggX5_isRow_X5_isIn : GoodIn wsX5_isRow wsX5_isIn := goodIn_r _ [7] (by decide +kernel) (by decide +kernel)
set_option maxRecDepth 20000 in
theorem gX5_isRow_X5_isIn : GoodIn wsX5_isRow (va_wsS RX5 68 yX5_isIn wsX5_isIn) := goodIn_app (goodIn_of _ (by decide +kernel)) ggX5_isRow_X5_isIn
theorem dX5_isRow_0 : decode cX5_isRow 0 = .ok (.iload_n 0, 1) := by decide +kernel
theorem dX5_isRow_1 : decode cX5_isRow 1 = .ok (.invokestatic 72, 3) := by decide +kernel
theorem dX5_isRow_4 : decode cX5_isRow 4 = .ok (.ifCond .eq 17, 3) := by decide +kernel
theorem dX5_isRow_7 : decode cX5_isRow 7 = .ok (.iload_n 1, 1) := by decide +kernel
theorem dX5_isRow_8 : decode cX5_isRow 8 = .ok (.iconst 0, 1) := by decide +kernel
theorem dX5_isRow_9 : decode cX5_isRow 9 = .ok (.bipush 11, 2) := by decide +kernel
theorem dX5_isRow_11 : decode cX5_isRow 11 = .ok (.invokestatic 68, 3) := by decide +kernel
theorem dX5_isRow_14 : decode cX5_isRow 14 = .ok (.ifCond .eq 7, 3) := by decide +kernel
theorem dX5_isRow_17 : decode cX5_isRow 17 = .ok (.iconst 1, 1) := by decide +kernel
theorem dX5_isRow_18 : decode cX5_isRow 18 = .ok (.goto 4, 3) := by decide +kernel
theorem dX5_isRow_21 : decode cX5_isRow 21 = .ok (.iconst 0, 1) := by decide +kernel
theorem dX5_isRow_22 : decode cX5_isRow 22 = .ok (.ireturn, 1) := by decide +kernel
set_option maxRecDepth 20000 in
theorem ggX5_isThird_X5_isIn : GoodIn wsX5_isThird wsX5_isIn := goodIn_r _ [4] (by decide +kernel) (by decide +kernel)
set_option maxRecDepth 20000 in
theorem gX5_isThird_X5_isIn : GoodIn wsX5_isThird (va_wsS RX5 68 yX5_isIn wsX5_isIn) := goodIn_app (goodIn_of _ (by decide +kernel)) ggX5_isThird_X5_isIn
theorem dX5_isThird_0 : decode cX5_isThird 0 = .ok (.iload_n 0, 1) := by decide +kernel
theorem dX5_isThird_1 : decode cX5_isThird 1 = .ok (.iconst 0, 1) := by decide +kernel
theorem dX5_isThird_2 : decode cX5_isThird 2 = .ok (.iconst 2, 1) := by decide +kernel
theorem dX5_isThird_3 : decode cX5_isThird 3 = .ok (.invokestatic 68, 3) := by decide +kernel
theorem dX5_isThird_6 : decode cX5_isThird 6 = .ok (.ireturn, 1) := by decide +kernel
set_option maxRecDepth 20000 in
theorem ggX5_enters_X5_goes : GoodIn wsX5_enters wsX5_goes := goodIn_r _ [10] (by decide +kernel) (by decide +kernel)
set_option maxRecDepth 20000 in
theorem gX5_enters_X5_goes : GoodIn wsX5_enters (va_wsS RX5 79 yX5_goes wsX5_goes) := goodIn_app (goodIn_of _ (by decide +kernel)) ggX5_enters_X5_goes
theorem dX5_enters_0 : decode cX5_enters 0 = .ok (.bipush 12, 2) := by decide +kernel
theorem dX5_enters_2 : decode cX5_enters 2 = .ok (.aload_n 0, 1) := by decide +kernel
theorem dX5_enters_3 : decode cX5_enters 3 = .ok (.getfield 76, 3) := by decide +kernel
theorem dX5_enters_6 : decode cX5_enters 6 = .ok (.iconst 1, 1) := by decide +kernel
theorem dX5_enters_7 : decode cX5_enters 7 = .ok (.iadd, 1) := by decide +kernel
theorem dX5_enters_8 : decode cX5_enters 8 = .ok (.imul, 1) := by decide +kernel
theorem dX5_enters_9 : decode cX5_enters 9 = .ok (.aload_n 0, 1) := by decide +kernel
theorem dX5_enters_10 : decode cX5_enters 10 = .ok (.getfield 20, 3) := by decide +kernel
theorem dX5_enters_13 : decode cX5_enters 13 = .ok (.aload_n 0, 1) := by decide +kernel
theorem dX5_enters_14 : decode cX5_enters 14 = .ok (.getfield 76, 3) := by decide +kernel
theorem dX5_enters_17 : decode cX5_enters 17 = .ok (.iconst 1, 1) := by decide +kernel
theorem dX5_enters_18 : decode cX5_enters 18 = .ok (.iadd, 1) := by decide +kernel
theorem dX5_enters_19 : decode cX5_enters 19 = .ok (.iaload, 1) := by decide +kernel
theorem dX5_enters_20 : decode cX5_enters 20 = .ok (.iadd, 1) := by decide +kernel
theorem dX5_enters_21 : decode cX5_enters 21 = .ok (.istore 4, 2) := by decide +kernel
theorem dX5_enters_23 : decode cX5_enters 23 = .ok (.aload_n 0, 1) := by decide +kernel
theorem dX5_enters_24 : decode cX5_enters 24 = .ok (.getfield 23, 3) := by decide +kernel
theorem dX5_enters_27 : decode cX5_enters 27 = .ok (.iload 4, 2) := by decide +kernel
theorem dX5_enters_29 : decode cX5_enters 29 = .ok (.iload_n 1, 1) := by decide +kernel
theorem dX5_enters_30 : decode cX5_enters 30 = .ok (.iastore, 1) := by decide +kernel
theorem dX5_enters_31 : decode cX5_enters 31 = .ok (.aload_n 0, 1) := by decide +kernel
theorem dX5_enters_32 : decode cX5_enters 32 = .ok (.getfield 26, 3) := by decide +kernel
theorem dX5_enters_35 : decode cX5_enters 35 = .ok (.iload 4, 2) := by decide +kernel
theorem dX5_enters_37 : decode cX5_enters 37 = .ok (.iload_n 2, 1) := by decide +kernel
theorem dX5_enters_38 : decode cX5_enters 38 = .ok (.iastore, 1) := by decide +kernel
theorem dX5_enters_39 : decode cX5_enters 39 = .ok (.aload_n 0, 1) := by decide +kernel
theorem dX5_enters_40 : decode cX5_enters 40 = .ok (.getfield 29, 3) := by decide +kernel
theorem dX5_enters_43 : decode cX5_enters 43 = .ok (.iload 4, 2) := by decide +kernel
theorem dX5_enters_45 : decode cX5_enters 45 = .ok (.iload_n 3, 1) := by decide +kernel
theorem dX5_enters_46 : decode cX5_enters 46 = .ok (.iastore, 1) := by decide +kernel
theorem dX5_enters_47 : decode cX5_enters 47 = .ok (.aload_n 0, 1) := by decide +kernel
theorem dX5_enters_48 : decode cX5_enters 48 = .ok (.getfield 20, 3) := by decide +kernel
theorem dX5_enters_51 : decode cX5_enters 51 = .ok (.aload_n 0, 1) := by decide +kernel
theorem dX5_enters_52 : decode cX5_enters 52 = .ok (.getfield 76, 3) := by decide +kernel
theorem dX5_enters_55 : decode cX5_enters 55 = .ok (.iconst 1, 1) := by decide +kernel
theorem dX5_enters_56 : decode cX5_enters 56 = .ok (.iadd, 1) := by decide +kernel
theorem dX5_enters_57 : decode cX5_enters 57 = .ok (.dup2, 1) := by decide +kernel
theorem dX5_enters_58 : decode cX5_enters 58 = .ok (.iaload, 1) := by decide +kernel
theorem dX5_enters_59 : decode cX5_enters 59 = .ok (.iconst 1, 1) := by decide +kernel
theorem dX5_enters_60 : decode cX5_enters 60 = .ok (.iadd, 1) := by decide +kernel
theorem dX5_enters_61 : decode cX5_enters 61 = .ok (.iastore, 1) := by decide +kernel
theorem dX5_enters_62 : decode cX5_enters 62 = .ok (.aload_n 0, 1) := by decide +kernel
theorem dX5_enters_63 : decode cX5_enters 63 = .ok (.getfield 7, 3) := by decide +kernel
theorem dX5_enters_66 : decode cX5_enters 66 = .ok (.iload_n 1, 1) := by decide +kernel
theorem dX5_enters_67 : decode cX5_enters 67 = .ok (.iload_n 2, 1) := by decide +kernel
theorem dX5_enters_68 : decode cX5_enters 68 = .ok (.iload_n 3, 1) := by decide +kernel
theorem dX5_enters_69 : decode cX5_enters 69 = .ok (.invokestatic 79, 3) := by decide +kernel
theorem dX5_enters_72 : decode cX5_enters 72 = .ok (.return_, 1) := by decide +kernel
theorem dX5_goes_0 : decode cX5_goes 0 = .ok (.iconst 0, 1) := by decide +kernel
theorem dX5_goes_1 : decode cX5_goes 1 = .ok (.istore 4, 2) := by decide +kernel
theorem dX5_goes_3 : decode cX5_goes 3 = .ok (.iload 4, 2) := by decide +kernel
theorem dX5_goes_5 : decode cX5_goes 5 = .ok (.bipush 12, 2) := by decide +kernel
theorem dX5_goes_7 : decode cX5_goes 7 = .ok (.if_icmp .ge 42, 3) := by decide +kernel
theorem dX5_goes_10 : decode cX5_goes 10 = .ok (.aload_n 0, 1) := by decide +kernel
theorem dX5_goes_11 : decode cX5_goes 11 = .ok (.bipush 12, 2) := by decide +kernel
theorem dX5_goes_13 : decode cX5_goes 13 = .ok (.iload_n 1, 1) := by decide +kernel
theorem dX5_goes_14 : decode cX5_goes 14 = .ok (.imul, 1) := by decide +kernel
theorem dX5_goes_15 : decode cX5_goes 15 = .ok (.iload 4, 2) := by decide +kernel
theorem dX5_goes_17 : decode cX5_goes 17 = .ok (.iadd, 1) := by decide +kernel
theorem dX5_goes_18 : decode cX5_goes 18 = .ok (.iload_n 2, 1) := by decide +kernel
theorem dX5_goes_19 : decode cX5_goes 19 = .ok (.iload 4, 2) := by decide +kernel
theorem dX5_goes_21 : decode cX5_goes 21 = .ok (.if_icmp .eq 8, 3) := by decide +kernel
theorem dX5_goes_24 : decode cX5_goes 24 = .ok (.iload_n 2, 1) := by decide +kernel
theorem dX5_goes_25 : decode cX5_goes 25 = .ok (.iconst (-1), 1) := by decide +kernel
theorem dX5_goes_26 : decode cX5_goes 26 = .ok (.if_icmp .ne 7, 3) := by decide +kernel
theorem dX5_goes_29 : decode cX5_goes 29 = .ok (.iload_n 3, 1) := by decide +kernel
theorem dX5_goes_30 : decode cX5_goes 30 = .ok (.goto 12, 3) := by decide +kernel
theorem dX5_goes_33 : decode cX5_goes 33 = .ok (.aload_n 0, 1) := by decide +kernel
theorem dX5_goes_34 : decode cX5_goes 34 = .ok (.bipush 12, 2) := by decide +kernel
theorem dX5_goes_36 : decode cX5_goes 36 = .ok (.iload_n 1, 1) := by decide +kernel
theorem dX5_goes_37 : decode cX5_goes 37 = .ok (.imul, 1) := by decide +kernel
theorem dX5_goes_38 : decode cX5_goes 38 = .ok (.iload 4, 2) := by decide +kernel
theorem dX5_goes_40 : decode cX5_goes 40 = .ok (.iadd, 1) := by decide +kernel
theorem dX5_goes_41 : decode cX5_goes 41 = .ok (.iaload, 1) := by decide +kernel
theorem dX5_goes_42 : decode cX5_goes 42 = .ok (.iastore, 1) := by decide +kernel
theorem dX5_goes_43 : decode cX5_goes 43 = .ok (.iinc 4 1, 3) := by decide +kernel
theorem dX5_goes_46 : decode cX5_goes 46 = .ok (.goto (-43), 3) := by decide +kernel
theorem dX5_goes_49 : decode cX5_goes 49 = .ok (.return_, 1) := by decide +kernel
theorem dX5_isFull_0 : decode cX5_isFull 0 = .ok (.aload_n 0, 1) := by decide +kernel
theorem dX5_isFull_1 : decode cX5_isFull 1 = .ok (.getfield 20, 3) := by decide +kernel
theorem dX5_isFull_4 : decode cX5_isFull 4 = .ok (.aload_n 0, 1) := by decide +kernel
theorem dX5_isFull_5 : decode cX5_isFull 5 = .ok (.getfield 76, 3) := by decide +kernel
theorem dX5_isFull_8 : decode cX5_isFull 8 = .ok (.iconst 1, 1) := by decide +kernel
theorem dX5_isFull_9 : decode cX5_isFull 9 = .ok (.iadd, 1) := by decide +kernel
theorem dX5_isFull_10 : decode cX5_isFull 10 = .ok (.iaload, 1) := by decide +kernel
theorem dX5_isFull_11 : decode cX5_isFull 11 = .ok (.bipush 12, 2) := by decide +kernel
theorem dX5_isFull_13 : decode cX5_isFull 13 = .ok (.if_icmp .ne 7, 3) := by decide +kernel
theorem dX5_isFull_16 : decode cX5_isFull 16 = .ok (.iconst 1, 1) := by decide +kernel
theorem dX5_isFull_17 : decode cX5_isFull 17 = .ok (.goto 4, 3) := by decide +kernel
theorem dX5_isFull_20 : decode cX5_isFull 20 = .ok (.iconst 0, 1) := by decide +kernel
theorem dX5_isFull_21 : decode cX5_isFull 21 = .ok (.ireturn, 1) := by decide +kernel
set_option maxRecDepth 20000 in
theorem ggX5_isNumber_X5_isIn : GoodIn wsX5_isNumber wsX5_isIn := goodIn_r _ [4] (by decide +kernel) (by decide +kernel)
set_option maxRecDepth 20000 in
theorem gX5_isNumber_X5_isIn : GoodIn wsX5_isNumber (va_wsS RX5 68 yX5_isIn wsX5_isIn) := goodIn_app (goodIn_of _ (by decide +kernel)) ggX5_isNumber_X5_isIn
theorem dX5_isNumber_0 : decode cX5_isNumber 0 = .ok (.iload_n 0, 1) := by decide +kernel
theorem dX5_isNumber_1 : decode cX5_isNumber 1 = .ok (.iconst 0, 1) := by decide +kernel
theorem dX5_isNumber_2 : decode cX5_isNumber 2 = .ok (.bipush 99, 2) := by decide +kernel
theorem dX5_isNumber_4 : decode cX5_isNumber 4 = .ok (.invokestatic 68, 3) := by decide +kernel
theorem dX5_isNumber_7 : decode cX5_isNumber 7 = .ok (.ireturn, 1) := by decide +kernel
set_option maxRecDepth 20000 in
theorem ggX5_put_X5_isNumber : GoodIn wsX5_put wsX5_isNumber := goodIn_r _ [5, 6, 7, 4, 8] (by decide +kernel) (by decide +kernel)
set_option maxRecDepth 20000 in
theorem gX5_put_X5_isNumber : GoodIn wsX5_put (va_wsS RX5 83 yX5_isNumber wsX5_isNumber) := goodIn_app (goodIn_of _ (by decide +kernel)) ggX5_put_X5_isNumber
set_option maxRecDepth 20000 in
theorem ggX5_put_X5_isRow : GoodIn wsX5_put wsX5_isRow := goodIn_r _ [11, 12, 13, 4, 14, 6, 7, 8] (by decide +kernel) (by decide +kernel)
set_option maxRecDepth 20000 in
theorem gX5_put_X5_isRow : GoodIn wsX5_put (va_wsS RX5 86 yX5_isRow wsX5_isRow) := goodIn_app (goodIn_of _ (by decide +kernel)) ggX5_put_X5_isRow
set_option maxRecDepth 20000 in
theorem ggX5_put_X5_isFull : GoodIn wsX5_put wsX5_isFull := goodIn_r _ [18, 19, 20, 36, 37, 38, 39, 40, 41, 42, 43, 44, 45, 46, 47, 48, 49, 50, 51, 52, 53, 54, 55] (by decide +kernel) (by decide +kernel)
set_option maxRecDepth 20000 in
theorem gX5_put_X5_isFull : GoodIn wsX5_put (wsV RX5 90 RX5 yX5_isFull wsX5_isFull) := goodIn_app (goodIn_of _ (by decide +kernel)) ggX5_put_X5_isFull
set_option maxRecDepth 20000 in
theorem ggX5_put_X5_fails : GoodIn wsX5_put wsX5_fails := goodIn_r _ [24, 25, 36, 37, 38, 39, 40, 41, 42, 43, 44, 45, 46, 47, 48, 49, 50, 51, 52, 53, 54, 55] (by decide +kernel) (by decide +kernel)
set_option maxRecDepth 20000 in
theorem gX5_put_X5_fails : GoodIn wsX5_put (wsV RX5 94 RX5 yX5_fails wsX5_fails) := goodIn_app (goodIn_of _ (by decide +kernel)) ggX5_put_X5_fails
set_option maxRecDepth 20000 in
theorem ggX5_put_X5_enters : GoodIn wsX5_put wsX5_enters := goodIn_r _ [29, 20, 19, 30, 31, 32, 1, 33, 34, 4, 35, 36, 37, 38, 39, 40, 41, 42, 43, 44, 45, 46, 47, 48, 49, 50, 51, 52, 53, 54, 55] (by decide +kernel) (by decide +kernel)
set_option maxRecDepth 20000 in
theorem gX5_put_X5_enters : GoodIn wsX5_put (wsV RX5 97 RX5 yX5_enters wsX5_enters) := goodIn_app (goodIn_of _ (by decide +kernel)) ggX5_put_X5_enters
theorem dX5_put_0 : decode cX5_put 0 = .ok (.iload_n 3, 1) := by decide +kernel
theorem dX5_put_1 : decode cX5_put 1 = .ok (.invokestatic 83, 3) := by decide +kernel
theorem dX5_put_4 : decode cX5_put 4 = .ok (.ifCond .eq 23, 3) := by decide +kernel
theorem dX5_put_7 : decode cX5_put 7 = .ok (.iload 4, 2) := by decide +kernel
theorem dX5_put_9 : decode cX5_put 9 = .ok (.invokestatic 83, 3) := by decide +kernel
theorem dX5_put_12 : decode cX5_put 12 = .ok (.ifCond .eq 15, 3) := by decide +kernel
theorem dX5_put_15 : decode cX5_put 15 = .ok (.iload 5, 2) := by decide +kernel
theorem dX5_put_17 : decode cX5_put 17 = .ok (.invokestatic 83, 3) := by decide +kernel
theorem dX5_put_20 : decode cX5_put 20 = .ok (.ifCond .eq 7, 3) := by decide +kernel
theorem dX5_put_23 : decode cX5_put 23 = .ok (.iconst 1, 1) := by decide +kernel
theorem dX5_put_24 : decode cX5_put 24 = .ok (.goto 4, 3) := by decide +kernel
theorem dX5_put_27 : decode cX5_put 27 = .ok (.iconst 0, 1) := by decide +kernel
theorem dX5_put_28 : decode cX5_put 28 = .ok (.istore 6, 2) := by decide +kernel
theorem dX5_put_30 : decode cX5_put 30 = .ok (.aload_n 0, 1) := by decide +kernel
theorem dX5_put_31 : decode cX5_put 31 = .ok (.iload_n 1, 1) := by decide +kernel
theorem dX5_put_32 : decode cX5_put 32 = .ok (.iload_n 2, 1) := by decide +kernel
theorem dX5_put_33 : decode cX5_put 33 = .ok (.invokestatic 86, 3) := by decide +kernel
theorem dX5_put_36 : decode cX5_put 36 = .ok (.ifCond .ne 7, 3) := by decide +kernel
theorem dX5_put_39 : decode cX5_put 39 = .ok (.iconst 1, 1) := by decide +kernel
theorem dX5_put_40 : decode cX5_put 40 = .ok (.goto 24, 3) := by decide +kernel
theorem dX5_put_43 : decode cX5_put 43 = .ok (.iload 6, 2) := by decide +kernel
theorem dX5_put_45 : decode cX5_put 45 = .ok (.ifCond .ne 7, 3) := by decide +kernel
theorem dX5_put_48 : decode cX5_put 48 = .ok (.iconst 2, 1) := by decide +kernel
theorem dX5_put_49 : decode cX5_put 49 = .ok (.goto 15, 3) := by decide +kernel
theorem dX5_put_52 : decode cX5_put 52 = .ok (.aload_n 0, 1) := by decide +kernel
theorem dX5_put_53 : decode cX5_put 53 = .ok (.invokevirtual 90, 3) := by decide +kernel
theorem dX5_put_56 : decode cX5_put 56 = .ok (.ifCond .eq 7, 3) := by decide +kernel
theorem dX5_put_59 : decode cX5_put 59 = .ok (.iconst 3, 1) := by decide +kernel
theorem dX5_put_60 : decode cX5_put 60 = .ok (.goto 4, 3) := by decide +kernel
theorem dX5_put_63 : decode cX5_put 63 = .ok (.iconst 0, 1) := by decide +kernel
theorem dX5_put_64 : decode cX5_put 64 = .ok (.invokevirtual 94, 3) := by decide +kernel
theorem dX5_put_67 : decode cX5_put 67 = .ok (.ifCond .eq 5, 3) := by decide +kernel
theorem dX5_put_70 : decode cX5_put 70 = .ok (.iconst 0, 1) := by decide +kernel
theorem dX5_put_71 : decode cX5_put 71 = .ok (.ireturn, 1) := by decide +kernel
theorem dX5_put_72 : decode cX5_put 72 = .ok (.aload_n 0, 1) := by decide +kernel
theorem dX5_put_73 : decode cX5_put 73 = .ok (.getfield 7, 3) := by decide +kernel
theorem dX5_put_76 : decode cX5_put 76 = .ok (.bipush 12, 2) := by decide +kernel
theorem dX5_put_78 : decode cX5_put 78 = .ok (.iload_n 1, 1) := by decide +kernel
theorem dX5_put_79 : decode cX5_put 79 = .ok (.imul, 1) := by decide +kernel
theorem dX5_put_80 : decode cX5_put 80 = .ok (.iload_n 2, 1) := by decide +kernel
theorem dX5_put_81 : decode cX5_put 81 = .ok (.iadd, 1) := by decide +kernel
theorem dX5_put_82 : decode cX5_put 82 = .ok (.iaload, 1) := by decide +kernel
theorem dX5_put_83 : decode cX5_put 83 = .ok (.iconst (-1), 1) := by decide +kernel
theorem dX5_put_84 : decode cX5_put 84 = .ok (.if_icmp .ne 7, 3) := by decide +kernel
theorem dX5_put_87 : decode cX5_put 87 = .ok (.iconst 1, 1) := by decide +kernel
theorem dX5_put_88 : decode cX5_put 88 = .ok (.goto 4, 3) := by decide +kernel
theorem dX5_put_91 : decode cX5_put 91 = .ok (.iconst 0, 1) := by decide +kernel
theorem dX5_put_92 : decode cX5_put 92 = .ok (.istore 7, 2) := by decide +kernel
theorem dX5_put_94 : decode cX5_put 94 = .ok (.aload_n 0, 1) := by decide +kernel
theorem dX5_put_95 : decode cX5_put 95 = .ok (.iload_n 1, 1) := by decide +kernel
theorem dX5_put_96 : decode cX5_put 96 = .ok (.iload_n 2, 1) := by decide +kernel
theorem dX5_put_97 : decode cX5_put 97 = .ok (.iload_n 3, 1) := by decide +kernel
theorem dX5_put_98 : decode cX5_put 98 = .ok (.bipush 100, 2) := by decide +kernel
theorem dX5_put_100 : decode cX5_put 100 = .ok (.iload 4, 2) := by decide +kernel
theorem dX5_put_102 : decode cX5_put 102 = .ok (.imul, 1) := by decide +kernel
theorem dX5_put_103 : decode cX5_put 103 = .ok (.iadd, 1) := by decide +kernel
theorem dX5_put_104 : decode cX5_put 104 = .ok (.sipush 10000, 3) := by decide +kernel
theorem dX5_put_107 : decode cX5_put 107 = .ok (.iload 5, 2) := by decide +kernel
theorem dX5_put_109 : decode cX5_put 109 = .ok (.imul, 1) := by decide +kernel
theorem dX5_put_110 : decode cX5_put 110 = .ok (.iadd, 1) := by decide +kernel
theorem dX5_put_111 : decode cX5_put 111 = .ok (.invokevirtual 97, 3) := by decide +kernel
theorem dX5_put_114 : decode cX5_put 114 = .ok (.iload 7, 2) := by decide +kernel
theorem dX5_put_116 : decode cX5_put 116 = .ok (.ireturn, 1) := by decide +kernel
set_option maxRecDepth 20000 in
theorem ggX5_take_X5_isRow : GoodIn wsX5_take wsX5_isRow := goodIn_r _ [5, 6, 7, 4, 8, 9, 10, 11] (by decide +kernel) (by decide +kernel)
set_option maxRecDepth 20000 in
theorem gX5_take_X5_isRow : GoodIn wsX5_take (va_wsS RX5 86 yX5_isRow wsX5_isRow) := goodIn_app (goodIn_of _ (by decide +kernel)) ggX5_take_X5_isRow
set_option maxRecDepth 20000 in
theorem ggX5_take_X5_isFull : GoodIn wsX5_take wsX5_isFull := goodIn_r _ [15, 16, 17, 33, 34, 35, 36, 37, 38, 39, 40, 41, 42, 43, 44, 45, 46, 47, 48, 49, 50, 51, 52] (by decide +kernel) (by decide +kernel)
set_option maxRecDepth 20000 in
theorem gX5_take_X5_isFull : GoodIn wsX5_take (wsV RX5 90 RX5 yX5_isFull wsX5_isFull) := goodIn_app (goodIn_of _ (by decide +kernel)) ggX5_take_X5_isFull
set_option maxRecDepth 20000 in
theorem ggX5_take_X5_fails : GoodIn wsX5_take wsX5_fails := goodIn_r _ [21, 22, 33, 34, 35, 36, 37, 38, 39, 40, 41, 42, 43, 44, 45, 46, 47, 48, 49, 50, 51, 52] (by decide +kernel) (by decide +kernel)
set_option maxRecDepth 20000 in
theorem gX5_take_X5_fails : GoodIn wsX5_take (wsV RX5 94 RX5 yX5_fails wsX5_fails) := goodIn_app (goodIn_of _ (by decide +kernel)) ggX5_take_X5_fails
set_option maxRecDepth 20000 in
theorem ggX5_take_X5_enters : GoodIn wsX5_take wsX5_enters := goodIn_r _ [26, 17, 16, 27, 28, 29, 1, 30, 31, 4, 32, 33, 34, 35, 36, 37, 38, 39, 40, 41, 42, 43, 44, 45, 46, 47, 48, 49, 50, 51, 52] (by decide +kernel) (by decide +kernel)
set_option maxRecDepth 20000 in
theorem gX5_take_X5_enters : GoodIn wsX5_take (wsV RX5 97 RX5 yX5_enters wsX5_enters) := goodIn_app (goodIn_of _ (by decide +kernel)) ggX5_take_X5_enters
theorem dX5_take_0 : decode cX5_take 0 = .ok (.iload_n 1, 1) := by decide +kernel
theorem dX5_take_1 : decode cX5_take 1 = .ok (.iload_n 2, 1) := by decide +kernel
theorem dX5_take_2 : decode cX5_take 2 = .ok (.invokestatic 86, 3) := by decide +kernel
theorem dX5_take_5 : decode cX5_take 5 = .ok (.istore_n 3, 1) := by decide +kernel
theorem dX5_take_6 : decode cX5_take 6 = .ok (.aload_n 0, 1) := by decide +kernel
theorem dX5_take_7 : decode cX5_take 7 = .ok (.iload_n 3, 1) := by decide +kernel
theorem dX5_take_8 : decode cX5_take 8 = .ok (.ifCond .ne 7, 3) := by decide +kernel
theorem dX5_take_11 : decode cX5_take 11 = .ok (.iconst 1, 1) := by decide +kernel
theorem dX5_take_12 : decode cX5_take 12 = .ok (.goto 30, 3) := by decide +kernel
theorem dX5_take_15 : decode cX5_take 15 = .ok (.aload_n 0, 1) := by decide +kernel
theorem dX5_take_16 : decode cX5_take 16 = .ok (.getfield 7, 3) := by decide +kernel
theorem dX5_take_19 : decode cX5_take 19 = .ok (.bipush 12, 2) := by decide +kernel
theorem dX5_take_21 : decode cX5_take 21 = .ok (.iload_n 1, 1) := by decide +kernel
theorem dX5_take_22 : decode cX5_take 22 = .ok (.imul, 1) := by decide +kernel
theorem dX5_take_23 : decode cX5_take 23 = .ok (.iload_n 2, 1) := by decide +kernel
theorem dX5_take_24 : decode cX5_take 24 = .ok (.iadd, 1) := by decide +kernel
theorem dX5_take_25 : decode cX5_take 25 = .ok (.iaload, 1) := by decide +kernel
theorem dX5_take_26 : decode cX5_take 26 = .ok (.iconst (-1), 1) := by decide +kernel
theorem dX5_take_27 : decode cX5_take 27 = .ok (.if_icmp .eq 10, 3) := by decide +kernel
theorem dX5_take_30 : decode cX5_take 30 = .ok (.aload_n 0, 1) := by decide +kernel
theorem dX5_take_31 : decode cX5_take 31 = .ok (.invokevirtual 90, 3) := by decide +kernel
theorem dX5_take_34 : decode cX5_take 34 = .ok (.ifCond .eq 7, 3) := by decide +kernel
theorem dX5_take_37 : decode cX5_take 37 = .ok (.iconst 2, 1) := by decide +kernel
theorem dX5_take_38 : decode cX5_take 38 = .ok (.goto 4, 3) := by decide +kernel
theorem dX5_take_41 : decode cX5_take 41 = .ok (.iconst 0, 1) := by decide +kernel
theorem dX5_take_42 : decode cX5_take 42 = .ok (.invokevirtual 94, 3) := by decide +kernel
theorem dX5_take_45 : decode cX5_take 45 = .ok (.ifCond .ne 10, 3) := by decide +kernel
theorem dX5_take_48 : decode cX5_take 48 = .ok (.aload_n 0, 1) := by decide +kernel
theorem dX5_take_49 : decode cX5_take 49 = .ok (.iload_n 1, 1) := by decide +kernel
theorem dX5_take_50 : decode cX5_take 50 = .ok (.iload_n 2, 1) := by decide +kernel
theorem dX5_take_51 : decode cX5_take 51 = .ok (.iconst (-1), 1) := by decide +kernel
theorem dX5_take_52 : decode cX5_take 52 = .ok (.invokevirtual 97, 3) := by decide +kernel
theorem dX5_take_55 : decode cX5_take 55 = .ok (.return_, 1) := by decide +kernel
set_option maxRecDepth 20000 in
theorem ggX5_truncate_X5_isTable : GoodIn wsX5_truncate wsX5_isTable := goodIn_r _ [5, 6, 7, 4, 8] (by decide +kernel) (by decide +kernel)
set_option maxRecDepth 20000 in
theorem gX5_truncate_X5_isTable : GoodIn wsX5_truncate (va_wsS RX5 72 yX5_isTable wsX5_isTable) := goodIn_app (goodIn_of _ (by decide +kernel)) ggX5_truncate_X5_isTable
set_option maxRecDepth 20000 in
theorem ggX5_truncate_X5_isFull : GoodIn wsX5_truncate wsX5_isFull := goodIn_r _ [12, 13, 14, 30, 31, 32, 33, 34, 35, 36, 37, 38, 39, 40, 41, 42, 43, 44, 45, 46, 47, 48, 49] (by decide +kernel) (by decide +kernel)
set_option maxRecDepth 20000 in
theorem gX5_truncate_X5_isFull : GoodIn wsX5_truncate (wsV RX5 90 RX5 yX5_isFull wsX5_isFull) := goodIn_app (goodIn_of _ (by decide +kernel)) ggX5_truncate_X5_isFull
set_option maxRecDepth 20000 in
theorem ggX5_truncate_X5_fails : GoodIn wsX5_truncate wsX5_fails := goodIn_r _ [18, 19, 30, 31, 32, 33, 34, 35, 36, 37, 38, 39, 40, 41, 42, 43, 44, 45, 46, 47, 48, 49] (by decide +kernel) (by decide +kernel)
set_option maxRecDepth 20000 in
theorem gX5_truncate_X5_fails : GoodIn wsX5_truncate (wsV RX5 94 RX5 yX5_fails wsX5_fails) := goodIn_app (goodIn_of _ (by decide +kernel)) ggX5_truncate_X5_fails
set_option maxRecDepth 20000 in
theorem ggX5_truncate_X5_enters : GoodIn wsX5_truncate wsX5_enters := goodIn_r _ [23, 14, 13, 24, 25, 26, 1, 27, 28, 4, 29, 30, 31, 32, 33, 34, 35, 36, 37, 38, 39, 40, 41, 42, 43, 44, 45, 46, 47, 48, 49] (by decide +kernel) (by decide +kernel)
set_option maxRecDepth 20000 in
theorem gX5_truncate_X5_enters : GoodIn wsX5_truncate (wsV RX5 97 RX5 yX5_enters wsX5_enters) := goodIn_app (goodIn_of _ (by decide +kernel)) ggX5_truncate_X5_enters
theorem dX5_truncate_0 : decode cX5_truncate 0 = .ok (.aload_n 0, 1) := by decide +kernel
theorem dX5_truncate_1 : decode cX5_truncate 1 = .ok (.iload_n 1, 1) := by decide +kernel
theorem dX5_truncate_2 : decode cX5_truncate 2 = .ok (.invokestatic 72, 3) := by decide +kernel
theorem dX5_truncate_5 : decode cX5_truncate 5 = .ok (.ifCond .ne 7, 3) := by decide +kernel
theorem dX5_truncate_8 : decode cX5_truncate 8 = .ok (.iconst 1, 1) := by decide +kernel
theorem dX5_truncate_9 : decode cX5_truncate 9 = .ok (.goto 15, 3) := by decide +kernel
theorem dX5_truncate_12 : decode cX5_truncate 12 = .ok (.aload_n 0, 1) := by decide +kernel
theorem dX5_truncate_13 : decode cX5_truncate 13 = .ok (.invokevirtual 90, 3) := by decide +kernel
theorem dX5_truncate_16 : decode cX5_truncate 16 = .ok (.ifCond .eq 7, 3) := by decide +kernel
theorem dX5_truncate_19 : decode cX5_truncate 19 = .ok (.iconst 2, 1) := by decide +kernel
theorem dX5_truncate_20 : decode cX5_truncate 20 = .ok (.goto 4, 3) := by decide +kernel
theorem dX5_truncate_23 : decode cX5_truncate 23 = .ok (.iconst 0, 1) := by decide +kernel
theorem dX5_truncate_24 : decode cX5_truncate 24 = .ok (.invokevirtual 94, 3) := by decide +kernel
theorem dX5_truncate_27 : decode cX5_truncate 27 = .ok (.ifCond .eq 5, 3) := by decide +kernel
theorem dX5_truncate_30 : decode cX5_truncate 30 = .ok (.iconst 0, 1) := by decide +kernel
theorem dX5_truncate_31 : decode cX5_truncate 31 = .ok (.ireturn, 1) := by decide +kernel
theorem dX5_truncate_32 : decode cX5_truncate 32 = .ok (.iconst 0, 1) := by decide +kernel
theorem dX5_truncate_33 : decode cX5_truncate 33 = .ok (.istore_n 2, 1) := by decide +kernel
theorem dX5_truncate_34 : decode cX5_truncate 34 = .ok (.bipush 12, 2) := by decide +kernel
theorem dX5_truncate_36 : decode cX5_truncate 36 = .ok (.iload_n 1, 1) := by decide +kernel
theorem dX5_truncate_37 : decode cX5_truncate 37 = .ok (.imul, 1) := by decide +kernel
theorem dX5_truncate_38 : decode cX5_truncate 38 = .ok (.istore_n 3, 1) := by decide +kernel
theorem dX5_truncate_39 : decode cX5_truncate 39 = .ok (.iload_n 3, 1) := by decide +kernel
theorem dX5_truncate_40 : decode cX5_truncate 40 = .ok (.bipush 12, 2) := by decide +kernel
theorem dX5_truncate_42 : decode cX5_truncate 42 = .ok (.iload_n 1, 1) := by decide +kernel
theorem dX5_truncate_43 : decode cX5_truncate 43 = .ok (.imul, 1) := by decide +kernel
theorem dX5_truncate_44 : decode cX5_truncate 44 = .ok (.bipush 12, 2) := by decide +kernel
theorem dX5_truncate_46 : decode cX5_truncate 46 = .ok (.iadd, 1) := by decide +kernel
theorem dX5_truncate_47 : decode cX5_truncate 47 = .ok (.if_icmp .ge 27, 3) := by decide +kernel
theorem dX5_truncate_50 : decode cX5_truncate 50 = .ok (.iload_n 2, 1) := by decide +kernel
theorem dX5_truncate_51 : decode cX5_truncate 51 = .ok (.aload_n 0, 1) := by decide +kernel
theorem dX5_truncate_52 : decode cX5_truncate 52 = .ok (.getfield 7, 3) := by decide +kernel
theorem dX5_truncate_55 : decode cX5_truncate 55 = .ok (.iload_n 3, 1) := by decide +kernel
theorem dX5_truncate_56 : decode cX5_truncate 56 = .ok (.iaload, 1) := by decide +kernel
theorem dX5_truncate_57 : decode cX5_truncate 57 = .ok (.iconst (-1), 1) := by decide +kernel
theorem dX5_truncate_58 : decode cX5_truncate 58 = .ok (.if_icmp .ne 7, 3) := by decide +kernel
theorem dX5_truncate_61 : decode cX5_truncate 61 = .ok (.iconst 0, 1) := by decide +kernel
theorem dX5_truncate_62 : decode cX5_truncate 62 = .ok (.goto 4, 3) := by decide +kernel
theorem dX5_truncate_65 : decode cX5_truncate 65 = .ok (.iconst 1, 1) := by decide +kernel
theorem dX5_truncate_66 : decode cX5_truncate 66 = .ok (.iadd, 1) := by decide +kernel
theorem dX5_truncate_67 : decode cX5_truncate 67 = .ok (.istore_n 2, 1) := by decide +kernel
theorem dX5_truncate_68 : decode cX5_truncate 68 = .ok (.iinc 3 1, 3) := by decide +kernel
theorem dX5_truncate_71 : decode cX5_truncate 71 = .ok (.goto (-32), 3) := by decide +kernel
theorem dX5_truncate_74 : decode cX5_truncate 74 = .ok (.aload_n 0, 1) := by decide +kernel
theorem dX5_truncate_75 : decode cX5_truncate 75 = .ok (.iload_n 1, 1) := by decide +kernel
theorem dX5_truncate_76 : decode cX5_truncate 76 = .ok (.iconst (-1), 1) := by decide +kernel
theorem dX5_truncate_77 : decode cX5_truncate 77 = .ok (.iconst (-1), 1) := by decide +kernel
theorem dX5_truncate_78 : decode cX5_truncate 78 = .ok (.invokevirtual 97, 3) := by decide +kernel
theorem dX5_truncate_81 : decode cX5_truncate 81 = .ok (.iload_n 2, 1) := by decide +kernel
theorem dX5_truncate_82 : decode cX5_truncate 82 = .ok (.ireturn, 1) := by decide +kernel
set_option maxRecDepth 20000 in
theorem ggX5_cuts_X5_isIn : GoodIn wsX5_cuts wsX5_isIn := goodIn_r _ [8] (by decide +kernel) (by decide +kernel)
set_option maxRecDepth 20000 in
theorem gX5_cuts_X5_isIn : GoodIn wsX5_cuts (va_wsS RX5 68 yX5_isIn wsX5_isIn) := goodIn_app (goodIn_of _ (by decide +kernel)) ggX5_cuts_X5_isIn
theorem dX5_cuts_0 : decode cX5_cuts 0 = .ok (.iconst 0, 1) := by decide +kernel
theorem dX5_cuts_1 : decode cX5_cuts 1 = .ok (.istore_n 1, 1) := by decide +kernel
theorem dX5_cuts_2 : decode cX5_cuts 2 = .ok (.iconst 0, 1) := by decide +kernel
theorem dX5_cuts_3 : decode cX5_cuts 3 = .ok (.istore_n 2, 1) := by decide +kernel
theorem dX5_cuts_4 : decode cX5_cuts 4 = .ok (.iload_n 2, 1) := by decide +kernel
theorem dX5_cuts_5 : decode cX5_cuts 5 = .ok (.iconst 3, 1) := by decide +kernel
theorem dX5_cuts_6 : decode cX5_cuts 6 = .ok (.if_icmp .ge 51, 3) := by decide +kernel
theorem dX5_cuts_9 : decode cX5_cuts 9 = .ok (.aload_n 0, 1) := by decide +kernel
theorem dX5_cuts_10 : decode cX5_cuts 10 = .ok (.getfield 47, 3) := by decide +kernel
theorem dX5_cuts_13 : decode cX5_cuts 13 = .ok (.iload_n 2, 1) := by decide +kernel
theorem dX5_cuts_14 : decode cX5_cuts 14 = .ok (.iaload, 1) := by decide +kernel
theorem dX5_cuts_15 : decode cX5_cuts 15 = .ok (.iconst 1, 1) := by decide +kernel
theorem dX5_cuts_16 : decode cX5_cuts 16 = .ok (.iconst 2, 1) := by decide +kernel
theorem dX5_cuts_17 : decode cX5_cuts 17 = .ok (.invokestatic 68, 3) := by decide +kernel
theorem dX5_cuts_20 : decode cX5_cuts 20 = .ok (.ifCond .eq 31, 3) := by decide +kernel
theorem dX5_cuts_23 : decode cX5_cuts 23 = .ok (.aload_n 0, 1) := by decide +kernel
theorem dX5_cuts_24 : decode cX5_cuts 24 = .ok (.getfield 76, 3) := by decide +kernel
theorem dX5_cuts_27 : decode cX5_cuts 27 = .ok (.aload_n 0, 1) := by decide +kernel
theorem dX5_cuts_28 : decode cX5_cuts 28 = .ok (.getfield 50, 3) := by decide +kernel
theorem dX5_cuts_31 : decode cX5_cuts 31 = .ok (.iload_n 2, 1) := by decide +kernel
theorem dX5_cuts_32 : decode cX5_cuts 32 = .ok (.iaload, 1) := by decide +kernel
theorem dX5_cuts_33 : decode cX5_cuts 33 = .ok (.isub, 1) := by decide +kernel
theorem dX5_cuts_34 : decode cX5_cuts 34 = .ok (.aload_n 0, 1) := by decide +kernel
theorem dX5_cuts_35 : decode cX5_cuts 35 = .ok (.getfield 16, 3) := by decide +kernel
theorem dX5_cuts_38 : decode cX5_cuts 38 = .ok (.if_icmp .le 13, 3) := by decide +kernel
theorem dX5_cuts_41 : decode cX5_cuts 41 = .ok (.aload_n 0, 1) := by decide +kernel
theorem dX5_cuts_42 : decode cX5_cuts 42 = .ok (.getfield 47, 3) := by decide +kernel
theorem dX5_cuts_45 : decode cX5_cuts 45 = .ok (.iload_n 2, 1) := by decide +kernel
theorem dX5_cuts_46 : decode cX5_cuts 46 = .ok (.iconst 3, 1) := by decide +kernel
theorem dX5_cuts_47 : decode cX5_cuts 47 = .ok (.iastore, 1) := by decide +kernel
theorem dX5_cuts_48 : decode cX5_cuts 48 = .ok (.iinc 1 1, 3) := by decide +kernel
theorem dX5_cuts_51 : decode cX5_cuts 51 = .ok (.iinc 2 1, 3) := by decide +kernel
theorem dX5_cuts_54 : decode cX5_cuts 54 = .ok (.goto (-50), 3) := by decide +kernel
theorem dX5_cuts_57 : decode cX5_cuts 57 = .ok (.iload_n 1, 1) := by decide +kernel
theorem dX5_cuts_58 : decode cX5_cuts 58 = .ok (.ireturn, 1) := by decide +kernel
set_option maxRecDepth 20000 in
theorem ggX5_commit_X5_fails : GoodIn wsX5_commit wsX5_fails := goodIn_r _ [9, 10, 21, 22, 23, 24, 25, 26, 27, 28, 29, 30, 31, 32, 33, 34, 35, 36, 37, 38, 39, 40] (by decide +kernel) (by decide +kernel)
set_option maxRecDepth 20000 in
theorem gX5_commit_X5_fails : GoodIn wsX5_commit (wsV RX5 94 RX5 yX5_fails wsX5_fails) := goodIn_app (goodIn_of _ (by decide +kernel)) ggX5_commit_X5_fails
set_option maxRecDepth 20000 in
theorem ggX5_commit_X5_cuts : GoodIn wsX5_commit wsX5_cuts := goodIn_r _ [14, 15, 1, 16, 17, 18, 19, 8, 20, 21, 22, 23, 24, 25, 26, 27, 28, 29, 30, 31, 32, 33, 34, 35, 36, 37, 38, 39, 40] (by decide +kernel) (by decide +kernel)
set_option maxRecDepth 20000 in
theorem gX5_commit_X5_cuts : GoodIn wsX5_commit (wsV RX5 101 RX5 yX5_cuts wsX5_cuts) := goodIn_app (goodIn_of _ (by decide +kernel)) ggX5_commit_X5_cuts
theorem dX5_commit_0 : decode cX5_commit 0 = .ok (.aload_n 0, 1) := by decide +kernel
theorem dX5_commit_1 : decode cX5_commit 1 = .ok (.aload_n 0, 1) := by decide +kernel
theorem dX5_commit_2 : decode cX5_commit 2 = .ok (.getfield 76, 3) := by decide +kernel
theorem dX5_commit_5 : decode cX5_commit 5 = .ok (.bipush 50, 2) := by decide +kernel
theorem dX5_commit_7 : decode cX5_commit 7 = .ok (.if_icmp .ne 7, 3) := by decide +kernel
theorem dX5_commit_10 : decode cX5_commit 10 = .ok (.iconst 1, 1) := by decide +kernel
theorem dX5_commit_11 : decode cX5_commit 11 = .ok (.goto 4, 3) := by decide +kernel
theorem dX5_commit_14 : decode cX5_commit 14 = .ok (.iconst 0, 1) := by decide +kernel
theorem dX5_commit_15 : decode cX5_commit 15 = .ok (.invokevirtual 94, 3) := by decide +kernel
theorem dX5_commit_18 : decode cX5_commit 18 = .ok (.ifCond .eq 5, 3) := by decide +kernel
theorem dX5_commit_21 : decode cX5_commit 21 = .ok (.iconst 0, 1) := by decide +kernel
theorem dX5_commit_22 : decode cX5_commit 22 = .ok (.ireturn, 1) := by decide +kernel
theorem dX5_commit_23 : decode cX5_commit 23 = .ok (.aload_n 0, 1) := by decide +kernel
theorem dX5_commit_24 : decode cX5_commit 24 = .ok (.dup, 1) := by decide +kernel
theorem dX5_commit_25 : decode cX5_commit 25 = .ok (.getfield 76, 3) := by decide +kernel
theorem dX5_commit_28 : decode cX5_commit 28 = .ok (.iconst 1, 1) := by decide +kernel
theorem dX5_commit_29 : decode cX5_commit 29 = .ok (.iadd, 1) := by decide +kernel
theorem dX5_commit_30 : decode cX5_commit 30 = .ok (.putfield 76, 3) := by decide +kernel
theorem dX5_commit_33 : decode cX5_commit 33 = .ok (.aload_n 0, 1) := by decide +kernel
theorem dX5_commit_34 : decode cX5_commit 34 = .ok (.getfield 20, 3) := by decide +kernel
theorem dX5_commit_37 : decode cX5_commit 37 = .ok (.aload_n 0, 1) := by decide +kernel
theorem dX5_commit_38 : decode cX5_commit 38 = .ok (.getfield 76, 3) := by decide +kernel
theorem dX5_commit_41 : decode cX5_commit 41 = .ok (.iconst 1, 1) := by decide +kernel
theorem dX5_commit_42 : decode cX5_commit 42 = .ok (.iadd, 1) := by decide +kernel
theorem dX5_commit_43 : decode cX5_commit 43 = .ok (.iconst 0, 1) := by decide +kernel
theorem dX5_commit_44 : decode cX5_commit 44 = .ok (.iastore, 1) := by decide +kernel
theorem dX5_commit_45 : decode cX5_commit 45 = .ok (.iconst 0, 1) := by decide +kernel
theorem dX5_commit_46 : decode cX5_commit 46 = .ok (.istore_n 1, 1) := by decide +kernel
theorem dX5_commit_47 : decode cX5_commit 47 = .ok (.iload_n 1, 1) := by decide +kernel
theorem dX5_commit_48 : decode cX5_commit 48 = .ok (.bipush 24, 2) := by decide +kernel
theorem dX5_commit_50 : decode cX5_commit 50 = .ok (.if_icmp .ge 29, 3) := by decide +kernel
theorem dX5_commit_53 : decode cX5_commit 53 = .ok (.aload_n 0, 1) := by decide +kernel
theorem dX5_commit_54 : decode cX5_commit 54 = .ok (.getfield 13, 3) := by decide +kernel
theorem dX5_commit_57 : decode cX5_commit 57 = .ok (.bipush 24, 2) := by decide +kernel
theorem dX5_commit_59 : decode cX5_commit 59 = .ok (.aload_n 0, 1) := by decide +kernel
theorem dX5_commit_60 : decode cX5_commit 60 = .ok (.getfield 76, 3) := by decide +kernel
theorem dX5_commit_63 : decode cX5_commit 63 = .ok (.imul, 1) := by decide +kernel
theorem dX5_commit_64 : decode cX5_commit 64 = .ok (.iload_n 1, 1) := by decide +kernel
theorem dX5_commit_65 : decode cX5_commit 65 = .ok (.iadd, 1) := by decide +kernel
theorem dX5_commit_66 : decode cX5_commit 66 = .ok (.aload_n 0, 1) := by decide +kernel
theorem dX5_commit_67 : decode cX5_commit 67 = .ok (.getfield 7, 3) := by decide +kernel
theorem dX5_commit_70 : decode cX5_commit 70 = .ok (.iload_n 1, 1) := by decide +kernel
theorem dX5_commit_71 : decode cX5_commit 71 = .ok (.iaload, 1) := by decide +kernel
theorem dX5_commit_72 : decode cX5_commit 72 = .ok (.iastore, 1) := by decide +kernel
theorem dX5_commit_73 : decode cX5_commit 73 = .ok (.iinc 1 1, 3) := by decide +kernel
theorem dX5_commit_76 : decode cX5_commit 76 = .ok (.goto (-29), 3) := by decide +kernel
theorem dX5_commit_79 : decode cX5_commit 79 = .ok (.aload_n 0, 1) := by decide +kernel
theorem dX5_commit_80 : decode cX5_commit 80 = .ok (.invokevirtual 101, 3) := by decide +kernel
theorem dX5_commit_83 : decode cX5_commit 83 = .ok (.pop, 1) := by decide +kernel
theorem dX5_commit_84 : decode cX5_commit 84 = .ok (.aload_n 0, 1) := by decide +kernel
theorem dX5_commit_85 : decode cX5_commit 85 = .ok (.getfield 76, 3) := by decide +kernel
theorem dX5_commit_88 : decode cX5_commit 88 = .ok (.ireturn, 1) := by decide +kernel
theorem dX5_rollBack_0 : decode cX5_rollBack 0 = .ok (.aload_n 0, 1) := by decide +kernel
theorem dX5_rollBack_1 : decode cX5_rollBack 1 = .ok (.iconst 0, 1) := by decide +kernel
theorem dX5_rollBack_2 : decode cX5_rollBack 2 = .ok (.putfield 65, 3) := by decide +kernel
theorem dX5_rollBack_5 : decode cX5_rollBack 5 = .ok (.aload_n 0, 1) := by decide +kernel
theorem dX5_rollBack_6 : decode cX5_rollBack 6 = .ok (.getfield 20, 3) := by decide +kernel
theorem dX5_rollBack_9 : decode cX5_rollBack 9 = .ok (.aload_n 0, 1) := by decide +kernel
theorem dX5_rollBack_10 : decode cX5_rollBack 10 = .ok (.getfield 76, 3) := by decide +kernel
theorem dX5_rollBack_13 : decode cX5_rollBack 13 = .ok (.iconst 1, 1) := by decide +kernel
theorem dX5_rollBack_14 : decode cX5_rollBack 14 = .ok (.iadd, 1) := by decide +kernel
theorem dX5_rollBack_15 : decode cX5_rollBack 15 = .ok (.iaload, 1) := by decide +kernel
theorem dX5_rollBack_16 : decode cX5_rollBack 16 = .ok (.istore_n 1, 1) := by decide +kernel
theorem dX5_rollBack_17 : decode cX5_rollBack 17 = .ok (.aload_n 0, 1) := by decide +kernel
theorem dX5_rollBack_18 : decode cX5_rollBack 18 = .ok (.getfield 20, 3) := by decide +kernel
theorem dX5_rollBack_21 : decode cX5_rollBack 21 = .ok (.aload_n 0, 1) := by decide +kernel
theorem dX5_rollBack_22 : decode cX5_rollBack 22 = .ok (.getfield 76, 3) := by decide +kernel
theorem dX5_rollBack_25 : decode cX5_rollBack 25 = .ok (.iconst 1, 1) := by decide +kernel
theorem dX5_rollBack_26 : decode cX5_rollBack 26 = .ok (.iadd, 1) := by decide +kernel
theorem dX5_rollBack_27 : decode cX5_rollBack 27 = .ok (.iconst 0, 1) := by decide +kernel
theorem dX5_rollBack_28 : decode cX5_rollBack 28 = .ok (.iastore, 1) := by decide +kernel
theorem dX5_rollBack_29 : decode cX5_rollBack 29 = .ok (.iconst 0, 1) := by decide +kernel
theorem dX5_rollBack_30 : decode cX5_rollBack 30 = .ok (.istore_n 2, 1) := by decide +kernel
theorem dX5_rollBack_31 : decode cX5_rollBack 31 = .ok (.iload_n 2, 1) := by decide +kernel
theorem dX5_rollBack_32 : decode cX5_rollBack 32 = .ok (.bipush 24, 2) := by decide +kernel
theorem dX5_rollBack_34 : decode cX5_rollBack 34 = .ok (.if_icmp .ge 29, 3) := by decide +kernel
theorem dX5_rollBack_37 : decode cX5_rollBack 37 = .ok (.aload_n 0, 1) := by decide +kernel
theorem dX5_rollBack_38 : decode cX5_rollBack 38 = .ok (.getfield 7, 3) := by decide +kernel
theorem dX5_rollBack_41 : decode cX5_rollBack 41 = .ok (.iload_n 2, 1) := by decide +kernel
theorem dX5_rollBack_42 : decode cX5_rollBack 42 = .ok (.aload_n 0, 1) := by decide +kernel
theorem dX5_rollBack_43 : decode cX5_rollBack 43 = .ok (.getfield 13, 3) := by decide +kernel
theorem dX5_rollBack_46 : decode cX5_rollBack 46 = .ok (.bipush 24, 2) := by decide +kernel
theorem dX5_rollBack_48 : decode cX5_rollBack 48 = .ok (.aload_n 0, 1) := by decide +kernel
theorem dX5_rollBack_49 : decode cX5_rollBack 49 = .ok (.getfield 76, 3) := by decide +kernel
theorem dX5_rollBack_52 : decode cX5_rollBack 52 = .ok (.imul, 1) := by decide +kernel
theorem dX5_rollBack_53 : decode cX5_rollBack 53 = .ok (.iload_n 2, 1) := by decide +kernel
theorem dX5_rollBack_54 : decode cX5_rollBack 54 = .ok (.iadd, 1) := by decide +kernel
theorem dX5_rollBack_55 : decode cX5_rollBack 55 = .ok (.iaload, 1) := by decide +kernel
theorem dX5_rollBack_56 : decode cX5_rollBack 56 = .ok (.iastore, 1) := by decide +kernel
theorem dX5_rollBack_57 : decode cX5_rollBack 57 = .ok (.iinc 2 1, 3) := by decide +kernel
theorem dX5_rollBack_60 : decode cX5_rollBack 60 = .ok (.goto (-29), 3) := by decide +kernel
theorem dX5_rollBack_63 : decode cX5_rollBack 63 = .ok (.iload_n 1, 1) := by decide +kernel
theorem dX5_rollBack_64 : decode cX5_rollBack 64 = .ok (.ireturn, 1) := by decide +kernel
theorem dX5_numberOf_0 : decode cX5_numberOf 0 = .ok (.iload_n 0, 1) := by decide +kernel
theorem dX5_numberOf_1 : decode cX5_numberOf 1 = .ok (.iconst (-1), 1) := by decide +kernel
theorem dX5_numberOf_2 : decode cX5_numberOf 2 = .ok (.if_icmp .ne 7, 3) := by decide +kernel
theorem dX5_numberOf_5 : decode cX5_numberOf 5 = .ok (.iconst (-1), 1) := by decide +kernel
theorem dX5_numberOf_6 : decode cX5_numberOf 6 = .ok (.goto 34, 3) := by decide +kernel
theorem dX5_numberOf_9 : decode cX5_numberOf 9 = .ok (.iload_n 1, 1) := by decide +kernel
theorem dX5_numberOf_10 : decode cX5_numberOf 10 = .ok (.ifCond .ne 10, 3) := by decide +kernel
theorem dX5_numberOf_13 : decode cX5_numberOf 13 = .ok (.iload_n 0, 1) := by decide +kernel
theorem dX5_numberOf_14 : decode cX5_numberOf 14 = .ok (.bipush 100, 2) := by decide +kernel
theorem dX5_numberOf_16 : decode cX5_numberOf 16 = .ok (.irem, 1) := by decide +kernel
theorem dX5_numberOf_17 : decode cX5_numberOf 17 = .ok (.goto 23, 3) := by decide +kernel
theorem dX5_numberOf_20 : decode cX5_numberOf 20 = .ok (.iload_n 1, 1) := by decide +kernel
theorem dX5_numberOf_21 : decode cX5_numberOf 21 = .ok (.iconst 1, 1) := by decide +kernel
theorem dX5_numberOf_22 : decode cX5_numberOf 22 = .ok (.if_icmp .ne 13, 3) := by decide +kernel
theorem dX5_numberOf_25 : decode cX5_numberOf 25 = .ok (.iload_n 0, 1) := by decide +kernel
theorem dX5_numberOf_26 : decode cX5_numberOf 26 = .ok (.bipush 100, 2) := by decide +kernel
theorem dX5_numberOf_28 : decode cX5_numberOf 28 = .ok (.idiv, 1) := by decide +kernel
theorem dX5_numberOf_29 : decode cX5_numberOf 29 = .ok (.bipush 100, 2) := by decide +kernel
theorem dX5_numberOf_31 : decode cX5_numberOf 31 = .ok (.irem, 1) := by decide +kernel
theorem dX5_numberOf_32 : decode cX5_numberOf 32 = .ok (.goto 8, 3) := by decide +kernel
theorem dX5_numberOf_35 : decode cX5_numberOf 35 = .ok (.iload_n 0, 1) := by decide +kernel
theorem dX5_numberOf_36 : decode cX5_numberOf 36 = .ok (.sipush 10000, 3) := by decide +kernel
theorem dX5_numberOf_39 : decode cX5_numberOf 39 = .ok (.idiv, 1) := by decide +kernel
theorem dX5_numberOf_40 : decode cX5_numberOf 40 = .ok (.ireturn, 1) := by decide +kernel
set_option maxRecDepth 20000 in
theorem ggX5_at_X5_isRow : GoodIn wsX5_at wsX5_isRow := goodIn_r _ [5, 6, 7, 4, 8, 9, 10, 11] (by decide +kernel) (by decide +kernel)
set_option maxRecDepth 20000 in
theorem gX5_at_X5_isRow : GoodIn wsX5_at (va_wsS RX5 86 yX5_isRow wsX5_isRow) := goodIn_app (goodIn_of _ (by decide +kernel)) ggX5_at_X5_isRow
set_option maxRecDepth 20000 in
theorem ggX5_at_X5_isThird : GoodIn wsX5_at wsX5_isThird := goodIn_r _ [14, 9, 10, 4, 11] (by decide +kernel) (by decide +kernel)
set_option maxRecDepth 20000 in
theorem gX5_at_X5_isThird : GoodIn wsX5_at (va_wsS RX5 105 yX5_isThird wsX5_isThird) := goodIn_app (goodIn_of _ (by decide +kernel)) ggX5_at_X5_isThird
set_option maxRecDepth 20000 in
theorem ggX5_at_X5_fails : GoodIn wsX5_at wsX5_fails := goodIn_r _ [18, 19, 23, 24, 25, 26, 27, 28, 29, 30, 31, 32, 33, 34, 35, 36, 37, 38, 39, 40, 41, 42] (by decide +kernel) (by decide +kernel)
set_option maxRecDepth 20000 in
theorem gX5_at_X5_fails : GoodIn wsX5_at (wsV RX5 94 RX5 yX5_fails wsX5_fails) := goodIn_app (goodIn_of _ (by decide +kernel)) ggX5_at_X5_fails
set_option maxRecDepth 20000 in
theorem ggX5_at_X5_numberOf : GoodIn wsX5_at wsX5_numberOf := goodIn_r _ [22] (by decide +kernel) (by decide +kernel)
set_option maxRecDepth 20000 in
theorem gX5_at_X5_numberOf : GoodIn wsX5_at (va_wsS RX5 108 yX5_numberOf wsX5_numberOf) := goodIn_app (goodIn_of _ (by decide +kernel)) ggX5_at_X5_numberOf
theorem dX5_at_0 : decode cX5_at 0 = .ok (.aload_n 0, 1) := by decide +kernel
theorem dX5_at_1 : decode cX5_at 1 = .ok (.iload_n 1, 1) := by decide +kernel
theorem dX5_at_2 : decode cX5_at 2 = .ok (.iload_n 2, 1) := by decide +kernel
theorem dX5_at_3 : decode cX5_at 3 = .ok (.invokestatic 86, 3) := by decide +kernel
theorem dX5_at_6 : decode cX5_at 6 = .ok (.ifCond .eq 14, 3) := by decide +kernel
theorem dX5_at_9 : decode cX5_at 9 = .ok (.iload_n 3, 1) := by decide +kernel
theorem dX5_at_10 : decode cX5_at 10 = .ok (.invokestatic 105, 3) := by decide +kernel
theorem dX5_at_13 : decode cX5_at 13 = .ok (.ifCond .eq 7, 3) := by decide +kernel
theorem dX5_at_16 : decode cX5_at 16 = .ok (.iconst 0, 1) := by decide +kernel
theorem dX5_at_17 : decode cX5_at 17 = .ok (.goto 4, 3) := by decide +kernel
theorem dX5_at_20 : decode cX5_at 20 = .ok (.iconst 1, 1) := by decide +kernel
theorem dX5_at_21 : decode cX5_at 21 = .ok (.invokevirtual 94, 3) := by decide +kernel
theorem dX5_at_24 : decode cX5_at 24 = .ok (.ifCond .eq 7, 3) := by decide +kernel
theorem dX5_at_27 : decode cX5_at 27 = .ok (.iconst 0, 1) := by decide +kernel
theorem dX5_at_28 : decode cX5_at 28 = .ok (.goto 18, 3) := by decide +kernel
theorem dX5_at_31 : decode cX5_at 31 = .ok (.aload_n 0, 1) := by decide +kernel
theorem dX5_at_32 : decode cX5_at 32 = .ok (.getfield 7, 3) := by decide +kernel
theorem dX5_at_35 : decode cX5_at 35 = .ok (.bipush 12, 2) := by decide +kernel
theorem dX5_at_37 : decode cX5_at 37 = .ok (.iload_n 1, 1) := by decide +kernel
theorem dX5_at_38 : decode cX5_at 38 = .ok (.imul, 1) := by decide +kernel
theorem dX5_at_39 : decode cX5_at 39 = .ok (.iload_n 2, 1) := by decide +kernel
theorem dX5_at_40 : decode cX5_at 40 = .ok (.iadd, 1) := by decide +kernel
theorem dX5_at_41 : decode cX5_at 41 = .ok (.iaload, 1) := by decide +kernel
theorem dX5_at_42 : decode cX5_at 42 = .ok (.iload_n 3, 1) := by decide +kernel
theorem dX5_at_43 : decode cX5_at 43 = .ok (.invokestatic 108, 3) := by decide +kernel
theorem dX5_at_46 : decode cX5_at 46 = .ok (.ireturn, 1) := by decide +kernel
theorem dX5_commits_0 : decode cX5_commits 0 = .ok (.aload_n 0, 1) := by decide +kernel
theorem dX5_commits_1 : decode cX5_commits 1 = .ok (.iconst 0, 1) := by decide +kernel
theorem dX5_commits_2 : decode cX5_commits 2 = .ok (.putfield 65, 3) := by decide +kernel
theorem dX5_commits_5 : decode cX5_commits 5 = .ok (.aload_n 0, 1) := by decide +kernel
theorem dX5_commits_6 : decode cX5_commits 6 = .ok (.getfield 76, 3) := by decide +kernel
theorem dX5_commits_9 : decode cX5_commits 9 = .ok (.ireturn, 1) := by decide +kernel
set_option maxRecDepth 20000 in
theorem ggX5_setLimit_X5_isIn : GoodIn wsX5_setLimit wsX5_isIn := goodIn_r _ [5] (by decide +kernel) (by decide +kernel)
set_option maxRecDepth 20000 in
theorem gX5_setLimit_X5_isIn : GoodIn wsX5_setLimit (va_wsS RX5 68 yX5_isIn wsX5_isIn) := goodIn_app (goodIn_of _ (by decide +kernel)) ggX5_setLimit_X5_isIn
set_option maxRecDepth 20000 in
theorem ggX5_setLimit_X5_fails : GoodIn wsX5_setLimit wsX5_fails := goodIn_r _ [9, 10, 18, 19, 20, 21, 22, 23, 24, 25, 26, 27, 28, 29, 30, 31, 32, 33, 34, 35, 36, 37] (by decide +kernel) (by decide +kernel)
set_option maxRecDepth 20000 in
theorem gX5_setLimit_X5_fails : GoodIn wsX5_setLimit (wsV RX5 94 RX5 yX5_fails wsX5_fails) := goodIn_app (goodIn_of _ (by decide +kernel)) ggX5_setLimit_X5_fails
set_option maxRecDepth 20000 in
theorem ggX5_setLimit_X5_cuts : GoodIn wsX5_setLimit wsX5_cuts := goodIn_r _ [14, 15, 16, 17, 1, 2, 3, 4, 5, 18, 19, 20, 21, 22, 23, 24, 25, 26, 27, 28, 29, 30, 31, 32, 33, 34, 35, 36, 37] (by decide +kernel) (by decide +kernel)
set_option maxRecDepth 20000 in
theorem gX5_setLimit_X5_cuts : GoodIn wsX5_setLimit (wsV RX5 101 RX5 yX5_cuts wsX5_cuts) := goodIn_app (goodIn_of _ (by decide +kernel)) ggX5_setLimit_X5_cuts
theorem dX5_setLimit_0 : decode cX5_setLimit 0 = .ok (.aload_n 0, 1) := by decide +kernel
theorem dX5_setLimit_1 : decode cX5_setLimit 1 = .ok (.iload_n 1, 1) := by decide +kernel
theorem dX5_setLimit_2 : decode cX5_setLimit 2 = .ok (.iconst 0, 1) := by decide +kernel
theorem dX5_setLimit_3 : decode cX5_setLimit 3 = .ok (.bipush 50, 2) := by decide +kernel
theorem dX5_setLimit_5 : decode cX5_setLimit 5 = .ok (.invokestatic 68, 3) := by decide +kernel
theorem dX5_setLimit_8 : decode cX5_setLimit 8 = .ok (.ifCond .eq 7, 3) := by decide +kernel
theorem dX5_setLimit_11 : decode cX5_setLimit 11 = .ok (.iconst 0, 1) := by decide +kernel
theorem dX5_setLimit_12 : decode cX5_setLimit 12 = .ok (.goto 4, 3) := by decide +kernel
theorem dX5_setLimit_15 : decode cX5_setLimit 15 = .ok (.iconst 1, 1) := by decide +kernel
theorem dX5_setLimit_16 : decode cX5_setLimit 16 = .ok (.invokevirtual 94, 3) := by decide +kernel
theorem dX5_setLimit_19 : decode cX5_setLimit 19 = .ok (.ifCond .eq 5, 3) := by decide +kernel
theorem dX5_setLimit_22 : decode cX5_setLimit 22 = .ok (.iconst 0, 1) := by decide +kernel
theorem dX5_setLimit_23 : decode cX5_setLimit 23 = .ok (.ireturn, 1) := by decide +kernel
theorem dX5_setLimit_24 : decode cX5_setLimit 24 = .ok (.aload_n 0, 1) := by decide +kernel
theorem dX5_setLimit_25 : decode cX5_setLimit 25 = .ok (.iload_n 1, 1) := by decide +kernel
theorem dX5_setLimit_26 : decode cX5_setLimit 26 = .ok (.putfield 16, 3) := by decide +kernel
theorem dX5_setLimit_29 : decode cX5_setLimit 29 = .ok (.aload_n 0, 1) := by decide +kernel
theorem dX5_setLimit_30 : decode cX5_setLimit 30 = .ok (.invokevirtual 101, 3) := by decide +kernel
theorem dX5_setLimit_33 : decode cX5_setLimit 33 = .ok (.ireturn, 1) := by decide +kernel
theorem dX5_forgets_0 : decode cX5_forgets 0 = .ok (.iconst 0, 1) := by decide +kernel
theorem dX5_forgets_1 : decode cX5_forgets 1 = .ok (.istore_n 3, 1) := by decide +kernel
theorem dX5_forgets_2 : decode cX5_forgets 2 = .ok (.iconst 0, 1) := by decide +kernel
theorem dX5_forgets_3 : decode cX5_forgets 3 = .ok (.istore 4, 2) := by decide +kernel
theorem dX5_forgets_5 : decode cX5_forgets 5 = .ok (.iload 4, 2) := by decide +kernel
theorem dX5_forgets_7 : decode cX5_forgets 7 = .ok (.iconst 3, 1) := by decide +kernel
theorem dX5_forgets_8 : decode cX5_forgets 8 = .ok (.if_icmp .ge 65, 3) := by decide +kernel
theorem dX5_forgets_11 : decode cX5_forgets 11 = .ok (.aload_n 0, 1) := by decide +kernel
theorem dX5_forgets_12 : decode cX5_forgets 12 = .ok (.getfield 47, 3) := by decide +kernel
theorem dX5_forgets_15 : decode cX5_forgets 15 = .ok (.iload 4, 2) := by decide +kernel
theorem dX5_forgets_17 : decode cX5_forgets 17 = .ok (.iaload, 1) := by decide +kernel
theorem dX5_forgets_18 : decode cX5_forgets 18 = .ok (.ifCond .le 49, 3) := by decide +kernel
theorem dX5_forgets_21 : decode cX5_forgets 21 = .ok (.aload_n 0, 1) := by decide +kernel
theorem dX5_forgets_22 : decode cX5_forgets 22 = .ok (.getfield 44, 3) := by decide +kernel
theorem dX5_forgets_25 : decode cX5_forgets 25 = .ok (.iload 4, 2) := by decide +kernel
theorem dX5_forgets_27 : decode cX5_forgets 27 = .ok (.iaload, 1) := by decide +kernel
theorem dX5_forgets_28 : decode cX5_forgets 28 = .ok (.iload_n 1, 1) := by decide +kernel
theorem dX5_forgets_29 : decode cX5_forgets 29 = .ok (.if_icmp .ne 38, 3) := by decide +kernel
theorem dX5_forgets_32 : decode cX5_forgets 32 = .ok (.iload_n 3, 1) := by decide +kernel
theorem dX5_forgets_33 : decode cX5_forgets 33 = .ok (.aload_n 0, 1) := by decide +kernel
theorem dX5_forgets_34 : decode cX5_forgets 34 = .ok (.getfield 53, 3) := by decide +kernel
theorem dX5_forgets_37 : decode cX5_forgets 37 = .ok (.iconst 2, 1) := by decide +kernel
theorem dX5_forgets_38 : decode cX5_forgets 38 = .ok (.iload 4, 2) := by decide +kernel
theorem dX5_forgets_40 : decode cX5_forgets 40 = .ok (.imul, 1) := by decide +kernel
theorem dX5_forgets_41 : decode cX5_forgets 41 = .ok (.iload_n 2, 1) := by decide +kernel
theorem dX5_forgets_42 : decode cX5_forgets 42 = .ok (.iadd, 1) := by decide +kernel
theorem dX5_forgets_43 : decode cX5_forgets 43 = .ok (.iaload, 1) := by decide +kernel
theorem dX5_forgets_44 : decode cX5_forgets 44 = .ok (.iconst (-1), 1) := by decide +kernel
theorem dX5_forgets_45 : decode cX5_forgets 45 = .ok (.if_icmp .ne 7, 3) := by decide +kernel
theorem dX5_forgets_48 : decode cX5_forgets 48 = .ok (.iconst 0, 1) := by decide +kernel
theorem dX5_forgets_49 : decode cX5_forgets 49 = .ok (.goto 4, 3) := by decide +kernel
theorem dX5_forgets_52 : decode cX5_forgets 52 = .ok (.iconst 1, 1) := by decide +kernel
theorem dX5_forgets_53 : decode cX5_forgets 53 = .ok (.iadd, 1) := by decide +kernel
theorem dX5_forgets_54 : decode cX5_forgets 54 = .ok (.istore_n 3, 1) := by decide +kernel
theorem dX5_forgets_55 : decode cX5_forgets 55 = .ok (.aload_n 0, 1) := by decide +kernel
theorem dX5_forgets_56 : decode cX5_forgets 56 = .ok (.getfield 53, 3) := by decide +kernel
theorem dX5_forgets_59 : decode cX5_forgets 59 = .ok (.iconst 2, 1) := by decide +kernel
theorem dX5_forgets_60 : decode cX5_forgets 60 = .ok (.iload 4, 2) := by decide +kernel
theorem dX5_forgets_62 : decode cX5_forgets 62 = .ok (.imul, 1) := by decide +kernel
theorem dX5_forgets_63 : decode cX5_forgets 63 = .ok (.iload_n 2, 1) := by decide +kernel
theorem dX5_forgets_64 : decode cX5_forgets 64 = .ok (.iadd, 1) := by decide +kernel
theorem dX5_forgets_65 : decode cX5_forgets 65 = .ok (.iconst (-1), 1) := by decide +kernel
theorem dX5_forgets_66 : decode cX5_forgets 66 = .ok (.iastore, 1) := by decide +kernel
theorem dX5_forgets_67 : decode cX5_forgets 67 = .ok (.iinc 4 1, 3) := by decide +kernel
theorem dX5_forgets_70 : decode cX5_forgets 70 = .ok (.goto (-65), 3) := by decide +kernel
theorem dX5_forgets_73 : decode cX5_forgets 73 = .ok (.iload_n 3, 1) := by decide +kernel
theorem dX5_forgets_74 : decode cX5_forgets 74 = .ok (.ireturn, 1) := by decide +kernel
set_option maxRecDepth 20000 in
theorem ggX5_setCondition_X5_isThird : GoodIn wsX5_setCondition wsX5_isThird := goodIn_r _ [7, 8, 9, 6, 10] (by decide +kernel) (by decide +kernel)
set_option maxRecDepth 20000 in
theorem gX5_setCondition_X5_isThird : GoodIn wsX5_setCondition (va_wsS RX5 105 yX5_isThird wsX5_isThird) := goodIn_app (goodIn_of _ (by decide +kernel)) ggX5_setCondition_X5_isThird
set_option maxRecDepth 20000 in
theorem ggX5_setCondition_X5_isTable : GoodIn wsX5_setCondition wsX5_isTable := goodIn_r _ [13, 8, 9, 6, 10] (by decide +kernel) (by decide +kernel)
set_option maxRecDepth 20000 in
theorem gX5_setCondition_X5_isTable : GoodIn wsX5_setCondition (va_wsS RX5 72 yX5_isTable wsX5_isTable) := goodIn_app (goodIn_of _ (by decide +kernel)) ggX5_setCondition_X5_isTable
set_option maxRecDepth 20000 in
theorem ggX5_setCondition_X5_isNumber : GoodIn wsX5_setCondition wsX5_isNumber := goodIn_r _ [16, 8, 9, 6, 10] (by decide +kernel) (by decide +kernel)
set_option maxRecDepth 20000 in
theorem gX5_setCondition_X5_isNumber : GoodIn wsX5_setCondition (va_wsS RX5 83 yX5_isNumber wsX5_isNumber) := goodIn_app (goodIn_of _ (by decide +kernel)) ggX5_setCondition_X5_isNumber
set_option maxRecDepth 20000 in
theorem ggX5_setCondition_X5_fails : GoodIn wsX5_setCondition wsX5_fails := goodIn_r _ [20, 21, 29, 30, 31, 32, 33, 34, 35, 36, 37, 38, 39, 40, 41, 42, 43, 44, 45, 46, 47, 48] (by decide +kernel) (by decide +kernel)
set_option maxRecDepth 20000 in
theorem gX5_setCondition_X5_fails : GoodIn wsX5_setCondition (wsV RX5 94 RX5 yX5_fails wsX5_fails) := goodIn_app (goodIn_of _ (by decide +kernel)) ggX5_setCondition_X5_fails
set_option maxRecDepth 20000 in
theorem ggX5_setCondition_X5_forgets : GoodIn wsX5_setCondition wsX5_forgets := goodIn_r _ [25, 26, 27, 28, 29, 30, 31, 32, 33, 34, 35, 36, 37, 38, 39, 40, 41, 42, 43, 44, 45, 46, 47, 48] (by decide +kernel) (by decide +kernel)
set_option maxRecDepth 20000 in
theorem gX5_setCondition_X5_forgets : GoodIn wsX5_setCondition (wsV RX5 112 RX5 yX5_forgets wsX5_forgets) := goodIn_app (goodIn_of _ (by decide +kernel)) ggX5_setCondition_X5_forgets
theorem dX5_setCondition_0 : decode cX5_setCondition 0 = .ok (.iload_n 1, 1) := by decide +kernel
theorem dX5_setCondition_1 : decode cX5_setCondition 1 = .ok (.invokestatic 105, 3) := by decide +kernel
theorem dX5_setCondition_4 : decode cX5_setCondition 4 = .ok (.ifCond .eq 21, 3) := by decide +kernel
theorem dX5_setCondition_7 : decode cX5_setCondition 7 = .ok (.iload_n 2, 1) := by decide +kernel
theorem dX5_setCondition_8 : decode cX5_setCondition 8 = .ok (.invokestatic 72, 3) := by decide +kernel
theorem dX5_setCondition_11 : decode cX5_setCondition 11 = .ok (.ifCond .eq 14, 3) := by decide +kernel
theorem dX5_setCondition_14 : decode cX5_setCondition 14 = .ok (.iload_n 3, 1) := by decide +kernel
theorem dX5_setCondition_15 : decode cX5_setCondition 15 = .ok (.invokestatic 105, 3) := by decide +kernel
theorem dX5_setCondition_18 : decode cX5_setCondition 18 = .ok (.ifCond .eq 7, 3) := by decide +kernel
theorem dX5_setCondition_21 : decode cX5_setCondition 21 = .ok (.iconst 1, 1) := by decide +kernel
theorem dX5_setCondition_22 : decode cX5_setCondition 22 = .ok (.goto 4, 3) := by decide +kernel
theorem dX5_setCondition_25 : decode cX5_setCondition 25 = .ok (.iconst 0, 1) := by decide +kernel
theorem dX5_setCondition_26 : decode cX5_setCondition 26 = .ok (.istore 6, 2) := by decide +kernel
theorem dX5_setCondition_28 : decode cX5_setCondition 28 = .ok (.aload_n 0, 1) := by decide +kernel
theorem dX5_setCondition_29 : decode cX5_setCondition 29 = .ok (.iload 6, 2) := by decide +kernel
theorem dX5_setCondition_31 : decode cX5_setCondition 31 = .ok (.ifCond .ne 7, 3) := by decide +kernel
theorem dX5_setCondition_34 : decode cX5_setCondition 34 = .ok (.iconst 1, 1) := by decide +kernel
theorem dX5_setCondition_35 : decode cX5_setCondition 35 = .ok (.goto 24, 3) := by decide +kernel
theorem dX5_setCondition_38 : decode cX5_setCondition 38 = .ok (.iload 4, 2) := by decide +kernel
theorem dX5_setCondition_40 : decode cX5_setCondition 40 = .ok (.invokestatic 105, 3) := by decide +kernel
theorem dX5_setCondition_43 : decode cX5_setCondition 43 = .ok (.ifCond .eq 15, 3) := by decide +kernel
theorem dX5_setCondition_46 : decode cX5_setCondition 46 = .ok (.iload 5, 2) := by decide +kernel
theorem dX5_setCondition_48 : decode cX5_setCondition 48 = .ok (.invokestatic 83, 3) := by decide +kernel
theorem dX5_setCondition_51 : decode cX5_setCondition 51 = .ok (.ifCond .eq 7, 3) := by decide +kernel
theorem dX5_setCondition_54 : decode cX5_setCondition 54 = .ok (.iconst 0, 1) := by decide +kernel
theorem dX5_setCondition_55 : decode cX5_setCondition 55 = .ok (.goto 4, 3) := by decide +kernel
theorem dX5_setCondition_58 : decode cX5_setCondition 58 = .ok (.iconst 2, 1) := by decide +kernel
theorem dX5_setCondition_59 : decode cX5_setCondition 59 = .ok (.invokevirtual 94, 3) := by decide +kernel
theorem dX5_setCondition_62 : decode cX5_setCondition 62 = .ok (.ifCond .eq 5, 3) := by decide +kernel
theorem dX5_setCondition_65 : decode cX5_setCondition 65 = .ok (.iconst 0, 1) := by decide +kernel
theorem dX5_setCondition_66 : decode cX5_setCondition 66 = .ok (.ireturn, 1) := by decide +kernel
theorem dX5_setCondition_67 : decode cX5_setCondition 67 = .ok (.aload_n 0, 1) := by decide +kernel
theorem dX5_setCondition_68 : decode cX5_setCondition 68 = .ok (.getfield 32, 3) := by decide +kernel
theorem dX5_setCondition_71 : decode cX5_setCondition 71 = .ok (.iconst 2, 1) := by decide +kernel
theorem dX5_setCondition_72 : decode cX5_setCondition 72 = .ok (.iload_n 1, 1) := by decide +kernel
theorem dX5_setCondition_73 : decode cX5_setCondition 73 = .ok (.imul, 1) := by decide +kernel
theorem dX5_setCondition_74 : decode cX5_setCondition 74 = .ok (.iload_n 2, 1) := by decide +kernel
theorem dX5_setCondition_75 : decode cX5_setCondition 75 = .ok (.iadd, 1) := by decide +kernel
theorem dX5_setCondition_76 : decode cX5_setCondition 76 = .ok (.iload_n 3, 1) := by decide +kernel
theorem dX5_setCondition_77 : decode cX5_setCondition 77 = .ok (.iastore, 1) := by decide +kernel
theorem dX5_setCondition_78 : decode cX5_setCondition 78 = .ok (.aload_n 0, 1) := by decide +kernel
theorem dX5_setCondition_79 : decode cX5_setCondition 79 = .ok (.getfield 35, 3) := by decide +kernel
theorem dX5_setCondition_82 : decode cX5_setCondition 82 = .ok (.iconst 2, 1) := by decide +kernel
theorem dX5_setCondition_83 : decode cX5_setCondition 83 = .ok (.iload_n 1, 1) := by decide +kernel
theorem dX5_setCondition_84 : decode cX5_setCondition 84 = .ok (.imul, 1) := by decide +kernel
theorem dX5_setCondition_85 : decode cX5_setCondition 85 = .ok (.iload_n 2, 1) := by decide +kernel
theorem dX5_setCondition_86 : decode cX5_setCondition 86 = .ok (.iadd, 1) := by decide +kernel
theorem dX5_setCondition_87 : decode cX5_setCondition 87 = .ok (.iload 4, 2) := by decide +kernel
theorem dX5_setCondition_89 : decode cX5_setCondition 89 = .ok (.iastore, 1) := by decide +kernel
theorem dX5_setCondition_90 : decode cX5_setCondition 90 = .ok (.aload_n 0, 1) := by decide +kernel
theorem dX5_setCondition_91 : decode cX5_setCondition 91 = .ok (.getfield 38, 3) := by decide +kernel
theorem dX5_setCondition_94 : decode cX5_setCondition 94 = .ok (.iconst 2, 1) := by decide +kernel
theorem dX5_setCondition_95 : decode cX5_setCondition 95 = .ok (.iload_n 1, 1) := by decide +kernel
theorem dX5_setCondition_96 : decode cX5_setCondition 96 = .ok (.imul, 1) := by decide +kernel
theorem dX5_setCondition_97 : decode cX5_setCondition 97 = .ok (.iload_n 2, 1) := by decide +kernel
theorem dX5_setCondition_98 : decode cX5_setCondition 98 = .ok (.iadd, 1) := by decide +kernel
theorem dX5_setCondition_99 : decode cX5_setCondition 99 = .ok (.iload 5, 2) := by decide +kernel
theorem dX5_setCondition_101 : decode cX5_setCondition 101 = .ok (.iastore, 1) := by decide +kernel
theorem dX5_setCondition_102 : decode cX5_setCondition 102 = .ok (.aload_n 0, 1) := by decide +kernel
theorem dX5_setCondition_103 : decode cX5_setCondition 103 = .ok (.iload_n 1, 1) := by decide +kernel
theorem dX5_setCondition_104 : decode cX5_setCondition 104 = .ok (.iload_n 2, 1) := by decide +kernel
theorem dX5_setCondition_105 : decode cX5_setCondition 105 = .ok (.invokevirtual 112, 3) := by decide +kernel
theorem dX5_setCondition_108 : decode cX5_setCondition 108 = .ok (.ireturn, 1) := by decide +kernel
set_option maxRecDepth 20000 in
theorem ggX5_setColumns_X5_isThird : GoodIn wsX5_setColumns wsX5_isThird := goodIn_r _ [5, 6, 7, 4, 8] (by decide +kernel) (by decide +kernel)
set_option maxRecDepth 20000 in
theorem gX5_setColumns_X5_isThird : GoodIn wsX5_setColumns (va_wsS RX5 105 yX5_isThird wsX5_isThird) := goodIn_app (goodIn_of _ (by decide +kernel)) ggX5_setColumns_X5_isThird
set_option maxRecDepth 20000 in
theorem ggX5_setColumns_X5_isTable : GoodIn wsX5_setColumns wsX5_isTable := goodIn_r _ [11, 6, 7, 4, 8] (by decide +kernel) (by decide +kernel)
set_option maxRecDepth 20000 in
theorem gX5_setColumns_X5_isTable : GoodIn wsX5_setColumns (va_wsS RX5 72 yX5_isTable wsX5_isTable) := goodIn_app (goodIn_of _ (by decide +kernel)) ggX5_setColumns_X5_isTable
set_option maxRecDepth 20000 in
theorem ggX5_setColumns_X5_isIn : GoodIn wsX5_setColumns wsX5_isIn := goodIn_r _ [8] (by decide +kernel) (by decide +kernel)
set_option maxRecDepth 20000 in
theorem gX5_setColumns_X5_isIn : GoodIn wsX5_setColumns (va_wsS RX5 68 yX5_isIn wsX5_isIn) := goodIn_app (goodIn_of _ (by decide +kernel)) ggX5_setColumns_X5_isIn
set_option maxRecDepth 20000 in
theorem ggX5_setColumns_X5_fails : GoodIn wsX5_setColumns wsX5_fails := goodIn_r _ [15, 16, 24, 25, 26, 27, 28, 29, 30, 31, 32, 33, 34, 35, 36, 37, 38, 39, 40, 41, 42, 43] (by decide +kernel) (by decide +kernel)
set_option maxRecDepth 20000 in
theorem gX5_setColumns_X5_fails : GoodIn wsX5_setColumns (wsV RX5 94 RX5 yX5_fails wsX5_fails) := goodIn_app (goodIn_of _ (by decide +kernel)) ggX5_setColumns_X5_fails
set_option maxRecDepth 20000 in
theorem ggX5_setColumns_X5_forgets : GoodIn wsX5_setColumns wsX5_forgets := goodIn_r _ [20, 21, 22, 23, 24, 25, 26, 27, 28, 29, 30, 31, 32, 33, 34, 35, 36, 37, 38, 39, 40, 41, 42, 43] (by decide +kernel) (by decide +kernel)
set_option maxRecDepth 20000 in
theorem gX5_setColumns_X5_forgets : GoodIn wsX5_setColumns (wsV RX5 112 RX5 yX5_forgets wsX5_forgets) := goodIn_app (goodIn_of _ (by decide +kernel)) ggX5_setColumns_X5_forgets
theorem dX5_setColumns_0 : decode cX5_setColumns 0 = .ok (.aload_n 0, 1) := by decide +kernel
theorem dX5_setColumns_1 : decode cX5_setColumns 1 = .ok (.iload_n 1, 1) := by decide +kernel
theorem dX5_setColumns_2 : decode cX5_setColumns 2 = .ok (.invokestatic 105, 3) := by decide +kernel
theorem dX5_setColumns_5 : decode cX5_setColumns 5 = .ok (.ifCond .eq 10, 3) := by decide +kernel
theorem dX5_setColumns_8 : decode cX5_setColumns 8 = .ok (.iload_n 2, 1) := by decide +kernel
theorem dX5_setColumns_9 : decode cX5_setColumns 9 = .ok (.invokestatic 72, 3) := by decide +kernel
theorem dX5_setColumns_12 : decode cX5_setColumns 12 = .ok (.ifCond .ne 7, 3) := by decide +kernel
theorem dX5_setColumns_15 : decode cX5_setColumns 15 = .ok (.iconst 1, 1) := by decide +kernel
theorem dX5_setColumns_16 : decode cX5_setColumns 16 = .ok (.goto 18, 3) := by decide +kernel
theorem dX5_setColumns_19 : decode cX5_setColumns 19 = .ok (.iload_n 3, 1) := by decide +kernel
theorem dX5_setColumns_20 : decode cX5_setColumns 20 = .ok (.iconst 0, 1) := by decide +kernel
theorem dX5_setColumns_21 : decode cX5_setColumns 21 = .ok (.bipush 7, 2) := by decide +kernel
theorem dX5_setColumns_23 : decode cX5_setColumns 23 = .ok (.invokestatic 68, 3) := by decide +kernel
theorem dX5_setColumns_26 : decode cX5_setColumns 26 = .ok (.ifCond .eq 7, 3) := by decide +kernel
theorem dX5_setColumns_29 : decode cX5_setColumns 29 = .ok (.iconst 0, 1) := by decide +kernel
theorem dX5_setColumns_30 : decode cX5_setColumns 30 = .ok (.goto 4, 3) := by decide +kernel
theorem dX5_setColumns_33 : decode cX5_setColumns 33 = .ok (.iconst 2, 1) := by decide +kernel
theorem dX5_setColumns_34 : decode cX5_setColumns 34 = .ok (.invokevirtual 94, 3) := by decide +kernel
theorem dX5_setColumns_37 : decode cX5_setColumns 37 = .ok (.ifCond .eq 5, 3) := by decide +kernel
theorem dX5_setColumns_40 : decode cX5_setColumns 40 = .ok (.iconst 0, 1) := by decide +kernel
theorem dX5_setColumns_41 : decode cX5_setColumns 41 = .ok (.ireturn, 1) := by decide +kernel
theorem dX5_setColumns_42 : decode cX5_setColumns 42 = .ok (.aload_n 0, 1) := by decide +kernel
theorem dX5_setColumns_43 : decode cX5_setColumns 43 = .ok (.getfield 41, 3) := by decide +kernel
theorem dX5_setColumns_46 : decode cX5_setColumns 46 = .ok (.iconst 2, 1) := by decide +kernel
theorem dX5_setColumns_47 : decode cX5_setColumns 47 = .ok (.iload_n 1, 1) := by decide +kernel
theorem dX5_setColumns_48 : decode cX5_setColumns 48 = .ok (.imul, 1) := by decide +kernel
theorem dX5_setColumns_49 : decode cX5_setColumns 49 = .ok (.iload_n 2, 1) := by decide +kernel
theorem dX5_setColumns_50 : decode cX5_setColumns 50 = .ok (.iadd, 1) := by decide +kernel
theorem dX5_setColumns_51 : decode cX5_setColumns 51 = .ok (.iload_n 3, 1) := by decide +kernel
theorem dX5_setColumns_52 : decode cX5_setColumns 52 = .ok (.iastore, 1) := by decide +kernel
theorem dX5_setColumns_53 : decode cX5_setColumns 53 = .ok (.aload_n 0, 1) := by decide +kernel
theorem dX5_setColumns_54 : decode cX5_setColumns 54 = .ok (.iload_n 1, 1) := by decide +kernel
theorem dX5_setColumns_55 : decode cX5_setColumns 55 = .ok (.iload_n 2, 1) := by decide +kernel
theorem dX5_setColumns_56 : decode cX5_setColumns 56 = .ok (.invokevirtual 112, 3) := by decide +kernel
theorem dX5_setColumns_59 : decode cX5_setColumns 59 = .ok (.ireturn, 1) := by decide +kernel
set_option maxRecDepth 20000 in
theorem ggX5_counts_X5_numberOf : GoodIn wsX5_counts wsX5_numberOf := goodIn_r _ [7] (by decide +kernel) (by decide +kernel)
set_option maxRecDepth 20000 in
theorem gX5_counts_X5_numberOf : GoodIn wsX5_counts (va_wsS RX5 108 yX5_numberOf wsX5_numberOf) := goodIn_app (goodIn_of _ (by decide +kernel)) ggX5_counts_X5_numberOf
theorem dX5_counts_0 : decode cX5_counts 0 = .ok (.iconst 2, 1) := by decide +kernel
theorem dX5_counts_1 : decode cX5_counts 1 = .ok (.iload_n 1, 1) := by decide +kernel
theorem dX5_counts_2 : decode cX5_counts 2 = .ok (.imul, 1) := by decide +kernel
theorem dX5_counts_3 : decode cX5_counts 3 = .ok (.iload_n 2, 1) := by decide +kernel
theorem dX5_counts_4 : decode cX5_counts 4 = .ok (.iadd, 1) := by decide +kernel
theorem dX5_counts_5 : decode cX5_counts 5 = .ok (.istore 4, 2) := by decide +kernel
theorem dX5_counts_7 : decode cX5_counts 7 = .ok (.iload_n 3, 1) := by decide +kernel
theorem dX5_counts_8 : decode cX5_counts 8 = .ok (.aload_n 0, 1) := by decide +kernel
theorem dX5_counts_9 : decode cX5_counts 9 = .ok (.getfield 32, 3) := by decide +kernel
theorem dX5_counts_12 : decode cX5_counts 12 = .ok (.iload 4, 2) := by decide +kernel
theorem dX5_counts_14 : decode cX5_counts 14 = .ok (.iaload, 1) := by decide +kernel
theorem dX5_counts_15 : decode cX5_counts 15 = .ok (.invokestatic 108, 3) := by decide +kernel
theorem dX5_counts_18 : decode cX5_counts 18 = .ok (.istore 5, 2) := by decide +kernel
theorem dX5_counts_20 : decode cX5_counts 20 = .ok (.iload_n 3, 1) := by decide +kernel
theorem dX5_counts_21 : decode cX5_counts 21 = .ok (.iconst (-1), 1) := by decide +kernel
theorem dX5_counts_22 : decode cX5_counts 22 = .ok (.if_icmp .eq 53, 3) := by decide +kernel
theorem dX5_counts_25 : decode cX5_counts 25 = .ok (.aload_n 0, 1) := by decide +kernel
theorem dX5_counts_26 : decode cX5_counts 26 = .ok (.getfield 35, 3) := by decide +kernel
theorem dX5_counts_29 : decode cX5_counts 29 = .ok (.iload 4, 2) := by decide +kernel
theorem dX5_counts_31 : decode cX5_counts 31 = .ok (.iaload, 1) := by decide +kernel
theorem dX5_counts_32 : decode cX5_counts 32 = .ok (.ifCond .eq 39, 3) := by decide +kernel
theorem dX5_counts_35 : decode cX5_counts 35 = .ok (.aload_n 0, 1) := by decide +kernel
theorem dX5_counts_36 : decode cX5_counts 36 = .ok (.getfield 35, 3) := by decide +kernel
theorem dX5_counts_39 : decode cX5_counts 39 = .ok (.iload 4, 2) := by decide +kernel
theorem dX5_counts_41 : decode cX5_counts 41 = .ok (.iaload, 1) := by decide +kernel
theorem dX5_counts_42 : decode cX5_counts 42 = .ok (.iconst 1, 1) := by decide +kernel
theorem dX5_counts_43 : decode cX5_counts 43 = .ok (.if_icmp .ne 7, 3) := by decide +kernel
theorem dX5_counts_46 : decode cX5_counts 46 = .ok (.iconst 1, 1) := by decide +kernel
theorem dX5_counts_47 : decode cX5_counts 47 = .ok (.goto 4, 3) := by decide +kernel
theorem dX5_counts_50 : decode cX5_counts 50 = .ok (.iconst 0, 1) := by decide +kernel
theorem dX5_counts_51 : decode cX5_counts 51 = .ok (.iload 5, 2) := by decide +kernel
theorem dX5_counts_53 : decode cX5_counts 53 = .ok (.aload_n 0, 1) := by decide +kernel
theorem dX5_counts_54 : decode cX5_counts 54 = .ok (.getfield 38, 3) := by decide +kernel
theorem dX5_counts_57 : decode cX5_counts 57 = .ok (.iload 4, 2) := by decide +kernel
theorem dX5_counts_59 : decode cX5_counts 59 = .ok (.iaload, 1) := by decide +kernel
theorem dX5_counts_60 : decode cX5_counts 60 = .ok (.if_icmp .ge 7, 3) := by decide +kernel
theorem dX5_counts_63 : decode cX5_counts 63 = .ok (.iconst 1, 1) := by decide +kernel
theorem dX5_counts_64 : decode cX5_counts 64 = .ok (.goto 4, 3) := by decide +kernel
theorem dX5_counts_67 : decode cX5_counts 67 = .ok (.iconst 0, 1) := by decide +kernel
theorem dX5_counts_68 : decode cX5_counts 68 = .ok (.if_icmp .ne 7, 3) := by decide +kernel
theorem dX5_counts_71 : decode cX5_counts 71 = .ok (.iconst 1, 1) := by decide +kernel
theorem dX5_counts_72 : decode cX5_counts 72 = .ok (.goto 4, 3) := by decide +kernel
theorem dX5_counts_75 : decode cX5_counts 75 = .ok (.iconst 0, 1) := by decide +kernel
theorem dX5_counts_76 : decode cX5_counts 76 = .ok (.ireturn, 1) := by decide +kernel
set_option maxRecDepth 20000 in
theorem ggX5_chosen_X5_numberOf : GoodIn wsX5_chosen wsX5_numberOf := goodIn_r _ [5] (by decide +kernel) (by decide +kernel)
set_option maxRecDepth 20000 in
theorem gX5_chosen_X5_numberOf : GoodIn wsX5_chosen (va_wsS RX5 108 yX5_numberOf wsX5_numberOf) := goodIn_app (goodIn_of _ (by decide +kernel)) ggX5_chosen_X5_numberOf
theorem dX5_chosen_0 : decode cX5_chosen 0 = .ok (.iconst 0, 1) := by decide +kernel
theorem dX5_chosen_1 : decode cX5_chosen 1 = .ok (.istore 4, 2) := by decide +kernel
theorem dX5_chosen_3 : decode cX5_chosen 3 = .ok (.iconst 1, 1) := by decide +kernel
theorem dX5_chosen_4 : decode cX5_chosen 4 = .ok (.istore 5, 2) := by decide +kernel
theorem dX5_chosen_6 : decode cX5_chosen 6 = .ok (.iconst 0, 1) := by decide +kernel
theorem dX5_chosen_7 : decode cX5_chosen 7 = .ok (.istore 6, 2) := by decide +kernel
theorem dX5_chosen_9 : decode cX5_chosen 9 = .ok (.iload 6, 2) := by decide +kernel
theorem dX5_chosen_11 : decode cX5_chosen 11 = .ok (.iconst 3, 1) := by decide +kernel
theorem dX5_chosen_12 : decode cX5_chosen 12 = .ok (.if_icmp .ge 53, 3) := by decide +kernel
theorem dX5_chosen_15 : decode cX5_chosen 15 = .ok (.iload 4, 2) := by decide +kernel
theorem dX5_chosen_17 : decode cX5_chosen 17 = .ok (.aload_n 0, 1) := by decide +kernel
theorem dX5_chosen_18 : decode cX5_chosen 18 = .ok (.getfield 41, 3) := by decide +kernel
theorem dX5_chosen_21 : decode cX5_chosen 21 = .ok (.iconst 2, 1) := by decide +kernel
theorem dX5_chosen_22 : decode cX5_chosen 22 = .ok (.iload_n 1, 1) := by decide +kernel
theorem dX5_chosen_23 : decode cX5_chosen 23 = .ok (.imul, 1) := by decide +kernel
theorem dX5_chosen_24 : decode cX5_chosen 24 = .ok (.iload_n 2, 1) := by decide +kernel
theorem dX5_chosen_25 : decode cX5_chosen 25 = .ok (.iadd, 1) := by decide +kernel
theorem dX5_chosen_26 : decode cX5_chosen 26 = .ok (.iaload, 1) := by decide +kernel
theorem dX5_chosen_27 : decode cX5_chosen 27 = .ok (.iload 6, 2) := by decide +kernel
theorem dX5_chosen_29 : decode cX5_chosen 29 = .ok (.ishr, 1) := by decide +kernel
theorem dX5_chosen_30 : decode cX5_chosen 30 = .ok (.iconst 1, 1) := by decide +kernel
theorem dX5_chosen_31 : decode cX5_chosen 31 = .ok (.iand, 1) := by decide +kernel
theorem dX5_chosen_32 : decode cX5_chosen 32 = .ok (.iconst 1, 1) := by decide +kernel
theorem dX5_chosen_33 : decode cX5_chosen 33 = .ok (.if_icmp .ne 15, 3) := by decide +kernel
theorem dX5_chosen_36 : decode cX5_chosen 36 = .ok (.iload 5, 2) := by decide +kernel
theorem dX5_chosen_38 : decode cX5_chosen 38 = .ok (.iload_n 3, 1) := by decide +kernel
theorem dX5_chosen_39 : decode cX5_chosen 39 = .ok (.iload 6, 2) := by decide +kernel
theorem dX5_chosen_41 : decode cX5_chosen 41 = .ok (.invokestatic 108, 3) := by decide +kernel
theorem dX5_chosen_44 : decode cX5_chosen 44 = .ok (.imul, 1) := by decide +kernel
theorem dX5_chosen_45 : decode cX5_chosen 45 = .ok (.goto 4, 3) := by decide +kernel
theorem dX5_chosen_48 : decode cX5_chosen 48 = .ok (.iconst 0, 1) := by decide +kernel
theorem dX5_chosen_49 : decode cX5_chosen 49 = .ok (.iadd, 1) := by decide +kernel
theorem dX5_chosen_50 : decode cX5_chosen 50 = .ok (.istore 4, 2) := by decide +kernel
theorem dX5_chosen_52 : decode cX5_chosen 52 = .ok (.iload 5, 2) := by decide +kernel
theorem dX5_chosen_54 : decode cX5_chosen 54 = .ok (.bipush 100, 2) := by decide +kernel
theorem dX5_chosen_56 : decode cX5_chosen 56 = .ok (.imul, 1) := by decide +kernel
theorem dX5_chosen_57 : decode cX5_chosen 57 = .ok (.istore 5, 2) := by decide +kernel
theorem dX5_chosen_59 : decode cX5_chosen 59 = .ok (.iinc 6 1, 3) := by decide +kernel
theorem dX5_chosen_62 : decode cX5_chosen 62 = .ok (.goto (-53), 3) := by decide +kernel
theorem dX5_chosen_65 : decode cX5_chosen 65 = .ok (.iload 4, 2) := by decide +kernel
theorem dX5_chosen_67 : decode cX5_chosen 67 = .ok (.ireturn, 1) := by decide +kernel
set_option maxRecDepth 20000 in
theorem ggX5_subscribe_X5_isThird : GoodIn wsX5_subscribe wsX5_isThird := goodIn_r _ [9, 10, 11, 8, 12] (by decide +kernel) (by decide +kernel)
set_option maxRecDepth 20000 in
theorem gX5_subscribe_X5_isThird : GoodIn wsX5_subscribe (va_wsS RX5 105 yX5_isThird wsX5_isThird) := goodIn_app (goodIn_of _ (by decide +kernel)) ggX5_subscribe_X5_isThird
set_option maxRecDepth 20000 in
theorem ggX5_subscribe_X5_fails : GoodIn wsX5_subscribe wsX5_fails := goodIn_r _ [16, 17, 18, 19, 20, 21, 22, 23, 24, 25, 26, 27, 28, 29, 30, 31, 32, 33, 34, 35, 36, 37] (by decide +kernel) (by decide +kernel)
set_option maxRecDepth 20000 in
theorem gX5_subscribe_X5_fails : GoodIn wsX5_subscribe (wsV RX5 94 RX5 yX5_fails wsX5_fails) := goodIn_app (goodIn_of _ (by decide +kernel)) ggX5_subscribe_X5_fails
theorem dX5_subscribe_0 : decode cX5_subscribe 0 = .ok (.aload_n 0, 1) := by decide +kernel
theorem dX5_subscribe_1 : decode cX5_subscribe 1 = .ok (.iload_n 1, 1) := by decide +kernel
theorem dX5_subscribe_2 : decode cX5_subscribe 2 = .ok (.invokestatic 105, 3) := by decide +kernel
theorem dX5_subscribe_5 : decode cX5_subscribe 5 = .ok (.ifCond .eq 14, 3) := by decide +kernel
theorem dX5_subscribe_8 : decode cX5_subscribe 8 = .ok (.iload_n 2, 1) := by decide +kernel
theorem dX5_subscribe_9 : decode cX5_subscribe 9 = .ok (.invokestatic 105, 3) := by decide +kernel
theorem dX5_subscribe_12 : decode cX5_subscribe 12 = .ok (.ifCond .eq 7, 3) := by decide +kernel
theorem dX5_subscribe_15 : decode cX5_subscribe 15 = .ok (.iconst 0, 1) := by decide +kernel
theorem dX5_subscribe_16 : decode cX5_subscribe 16 = .ok (.goto 4, 3) := by decide +kernel
theorem dX5_subscribe_19 : decode cX5_subscribe 19 = .ok (.iconst 1, 1) := by decide +kernel
theorem dX5_subscribe_20 : decode cX5_subscribe 20 = .ok (.invokevirtual 94, 3) := by decide +kernel
theorem dX5_subscribe_23 : decode cX5_subscribe 23 = .ok (.ifCond .eq 5, 3) := by decide +kernel
theorem dX5_subscribe_26 : decode cX5_subscribe 26 = .ok (.iconst 0, 1) := by decide +kernel
theorem dX5_subscribe_27 : decode cX5_subscribe 27 = .ok (.ireturn, 1) := by decide +kernel
theorem dX5_subscribe_28 : decode cX5_subscribe 28 = .ok (.aload_n 0, 1) := by decide +kernel
theorem dX5_subscribe_29 : decode cX5_subscribe 29 = .ok (.getfield 47, 3) := by decide +kernel
theorem dX5_subscribe_32 : decode cX5_subscribe 32 = .ok (.iload_n 1, 1) := by decide +kernel
theorem dX5_subscribe_33 : decode cX5_subscribe 33 = .ok (.iaload, 1) := by decide +kernel
theorem dX5_subscribe_34 : decode cX5_subscribe 34 = .ok (.istore_n 3, 1) := by decide +kernel
theorem dX5_subscribe_35 : decode cX5_subscribe 35 = .ok (.aload_n 0, 1) := by decide +kernel
theorem dX5_subscribe_36 : decode cX5_subscribe 36 = .ok (.getfield 44, 3) := by decide +kernel
theorem dX5_subscribe_39 : decode cX5_subscribe 39 = .ok (.iload_n 1, 1) := by decide +kernel
theorem dX5_subscribe_40 : decode cX5_subscribe 40 = .ok (.iload_n 2, 1) := by decide +kernel
theorem dX5_subscribe_41 : decode cX5_subscribe 41 = .ok (.iastore, 1) := by decide +kernel
theorem dX5_subscribe_42 : decode cX5_subscribe 42 = .ok (.aload_n 0, 1) := by decide +kernel
theorem dX5_subscribe_43 : decode cX5_subscribe 43 = .ok (.getfield 47, 3) := by decide +kernel
theorem dX5_subscribe_46 : decode cX5_subscribe 46 = .ok (.iload_n 1, 1) := by decide +kernel
theorem dX5_subscribe_47 : decode cX5_subscribe 47 = .ok (.iconst 1, 1) := by decide +kernel
theorem dX5_subscribe_48 : decode cX5_subscribe 48 = .ok (.iastore, 1) := by decide +kernel
theorem dX5_subscribe_49 : decode cX5_subscribe 49 = .ok (.aload_n 0, 1) := by decide +kernel
theorem dX5_subscribe_50 : decode cX5_subscribe 50 = .ok (.getfield 50, 3) := by decide +kernel
theorem dX5_subscribe_53 : decode cX5_subscribe 53 = .ok (.iload_n 1, 1) := by decide +kernel
theorem dX5_subscribe_54 : decode cX5_subscribe 54 = .ok (.aload_n 0, 1) := by decide +kernel
theorem dX5_subscribe_55 : decode cX5_subscribe 55 = .ok (.getfield 76, 3) := by decide +kernel
theorem dX5_subscribe_58 : decode cX5_subscribe 58 = .ok (.iastore, 1) := by decide +kernel
theorem dX5_subscribe_59 : decode cX5_subscribe 59 = .ok (.iconst 0, 1) := by decide +kernel
theorem dX5_subscribe_60 : decode cX5_subscribe 60 = .ok (.istore 4, 2) := by decide +kernel
theorem dX5_subscribe_62 : decode cX5_subscribe 62 = .ok (.iload 4, 2) := by decide +kernel
theorem dX5_subscribe_64 : decode cX5_subscribe 64 = .ok (.iconst 2, 1) := by decide +kernel
theorem dX5_subscribe_65 : decode cX5_subscribe 65 = .ok (.if_icmp .ge 21, 3) := by decide +kernel
theorem dX5_subscribe_68 : decode cX5_subscribe 68 = .ok (.aload_n 0, 1) := by decide +kernel
theorem dX5_subscribe_69 : decode cX5_subscribe 69 = .ok (.getfield 53, 3) := by decide +kernel
theorem dX5_subscribe_72 : decode cX5_subscribe 72 = .ok (.iconst 2, 1) := by decide +kernel
theorem dX5_subscribe_73 : decode cX5_subscribe 73 = .ok (.iload_n 1, 1) := by decide +kernel
theorem dX5_subscribe_74 : decode cX5_subscribe 74 = .ok (.imul, 1) := by decide +kernel
theorem dX5_subscribe_75 : decode cX5_subscribe 75 = .ok (.iload 4, 2) := by decide +kernel
theorem dX5_subscribe_77 : decode cX5_subscribe 77 = .ok (.iadd, 1) := by decide +kernel
theorem dX5_subscribe_78 : decode cX5_subscribe 78 = .ok (.iconst (-1), 1) := by decide +kernel
theorem dX5_subscribe_79 : decode cX5_subscribe 79 = .ok (.iastore, 1) := by decide +kernel
theorem dX5_subscribe_80 : decode cX5_subscribe 80 = .ok (.iinc 4 1, 3) := by decide +kernel
theorem dX5_subscribe_83 : decode cX5_subscribe 83 = .ok (.goto (-21), 3) := by decide +kernel
theorem dX5_subscribe_86 : decode cX5_subscribe 86 = .ok (.iload_n 3, 1) := by decide +kernel
theorem dX5_subscribe_87 : decode cX5_subscribe 87 = .ok (.ireturn, 1) := by decide +kernel
set_option maxRecDepth 20000 in
theorem ggX5_drop_X5_isThird : GoodIn wsX5_drop wsX5_isThird := goodIn_r _ [6, 7, 8, 5, 9] (by decide +kernel) (by decide +kernel)
set_option maxRecDepth 20000 in
theorem gX5_drop_X5_isThird : GoodIn wsX5_drop (va_wsS RX5 105 yX5_isThird wsX5_isThird) := goodIn_app (goodIn_of _ (by decide +kernel)) ggX5_drop_X5_isThird
set_option maxRecDepth 20000 in
theorem ggX5_drop_X5_fails : GoodIn wsX5_drop wsX5_fails := goodIn_r _ [13, 14, 15, 16, 17, 18, 19, 20, 21, 22, 23, 24, 25, 26, 27, 28, 29, 30, 31, 32, 33, 34] (by decide +kernel) (by decide +kernel)
set_option maxRecDepth 20000 in
theorem gX5_drop_X5_fails : GoodIn wsX5_drop (wsV RX5 94 RX5 yX5_fails wsX5_fails) := goodIn_app (goodIn_of _ (by decide +kernel)) ggX5_drop_X5_fails
theorem dX5_drop_0 : decode cX5_drop 0 = .ok (.aload_n 0, 1) := by decide +kernel
theorem dX5_drop_1 : decode cX5_drop 1 = .ok (.iload_n 1, 1) := by decide +kernel
theorem dX5_drop_2 : decode cX5_drop 2 = .ok (.invokestatic 105, 3) := by decide +kernel
theorem dX5_drop_5 : decode cX5_drop 5 = .ok (.ifCond .eq 7, 3) := by decide +kernel
theorem dX5_drop_8 : decode cX5_drop 8 = .ok (.iconst 0, 1) := by decide +kernel
theorem dX5_drop_9 : decode cX5_drop 9 = .ok (.goto 4, 3) := by decide +kernel
theorem dX5_drop_12 : decode cX5_drop 12 = .ok (.iconst 1, 1) := by decide +kernel
theorem dX5_drop_13 : decode cX5_drop 13 = .ok (.invokevirtual 94, 3) := by decide +kernel
theorem dX5_drop_16 : decode cX5_drop 16 = .ok (.ifCond .eq 5, 3) := by decide +kernel
theorem dX5_drop_19 : decode cX5_drop 19 = .ok (.iconst 0, 1) := by decide +kernel
theorem dX5_drop_20 : decode cX5_drop 20 = .ok (.ireturn, 1) := by decide +kernel
theorem dX5_drop_21 : decode cX5_drop 21 = .ok (.aload_n 0, 1) := by decide +kernel
theorem dX5_drop_22 : decode cX5_drop 22 = .ok (.getfield 47, 3) := by decide +kernel
theorem dX5_drop_25 : decode cX5_drop 25 = .ok (.iload_n 1, 1) := by decide +kernel
theorem dX5_drop_26 : decode cX5_drop 26 = .ok (.iaload, 1) := by decide +kernel
theorem dX5_drop_27 : decode cX5_drop 27 = .ok (.istore_n 2, 1) := by decide +kernel
theorem dX5_drop_28 : decode cX5_drop 28 = .ok (.aload_n 0, 1) := by decide +kernel
theorem dX5_drop_29 : decode cX5_drop 29 = .ok (.getfield 47, 3) := by decide +kernel
theorem dX5_drop_32 : decode cX5_drop 32 = .ok (.iload_n 1, 1) := by decide +kernel
theorem dX5_drop_33 : decode cX5_drop 33 = .ok (.iconst 0, 1) := by decide +kernel
theorem dX5_drop_34 : decode cX5_drop 34 = .ok (.iastore, 1) := by decide +kernel
theorem dX5_drop_35 : decode cX5_drop 35 = .ok (.iconst 0, 1) := by decide +kernel
theorem dX5_drop_36 : decode cX5_drop 36 = .ok (.istore_n 3, 1) := by decide +kernel
theorem dX5_drop_37 : decode cX5_drop 37 = .ok (.iload_n 3, 1) := by decide +kernel
theorem dX5_drop_38 : decode cX5_drop 38 = .ok (.iconst 2, 1) := by decide +kernel
theorem dX5_drop_39 : decode cX5_drop 39 = .ok (.if_icmp .ge 20, 3) := by decide +kernel
theorem dX5_drop_42 : decode cX5_drop 42 = .ok (.aload_n 0, 1) := by decide +kernel
theorem dX5_drop_43 : decode cX5_drop 43 = .ok (.getfield 53, 3) := by decide +kernel
theorem dX5_drop_46 : decode cX5_drop 46 = .ok (.iconst 2, 1) := by decide +kernel
theorem dX5_drop_47 : decode cX5_drop 47 = .ok (.iload_n 1, 1) := by decide +kernel
theorem dX5_drop_48 : decode cX5_drop 48 = .ok (.imul, 1) := by decide +kernel
theorem dX5_drop_49 : decode cX5_drop 49 = .ok (.iload_n 3, 1) := by decide +kernel
theorem dX5_drop_50 : decode cX5_drop 50 = .ok (.iadd, 1) := by decide +kernel
theorem dX5_drop_51 : decode cX5_drop 51 = .ok (.iconst (-1), 1) := by decide +kernel
theorem dX5_drop_52 : decode cX5_drop 52 = .ok (.iastore, 1) := by decide +kernel
theorem dX5_drop_53 : decode cX5_drop 53 = .ok (.iinc 3 1, 3) := by decide +kernel
theorem dX5_drop_56 : decode cX5_drop 56 = .ok (.goto (-19), 3) := by decide +kernel
theorem dX5_drop_59 : decode cX5_drop 59 = .ok (.iload_n 2, 1) := by decide +kernel
theorem dX5_drop_60 : decode cX5_drop 60 = .ok (.ireturn, 1) := by decide +kernel
set_option maxRecDepth 20000 in
theorem ggX5_chosenAt_X5_counts : GoodIn wsX5_chosenAt wsX5_counts := goodIn_r _ [6, 7, 8, 9, 10, 11, 5, 12, 18, 19, 20, 21, 22, 23, 24, 25, 26, 27, 28, 29, 30, 31, 32, 33, 34, 35, 36, 37] (by decide +kernel) (by decide +kernel)
set_option maxRecDepth 20000 in
theorem gX5_chosenAt_X5_counts : GoodIn wsX5_chosenAt (wsV RX5 115 RX5 yX5_counts wsX5_counts) := goodIn_app (goodIn_of _ (by decide +kernel)) ggX5_chosenAt_X5_counts
set_option maxRecDepth 20000 in
theorem ggX5_chosenAt_X5_chosen : GoodIn wsX5_chosenAt wsX5_chosen := goodIn_r _ [16, 17, 10, 11, 5, 12, 18, 19, 20, 21, 22, 23, 24, 25, 26, 27, 28, 29, 30, 31, 32, 33, 34, 35, 36, 37] (by decide +kernel) (by decide +kernel)
set_option maxRecDepth 20000 in
theorem gX5_chosenAt_X5_chosen : GoodIn wsX5_chosenAt (wsV RX5 118 RX5 yX5_chosen wsX5_chosen) := goodIn_app (goodIn_of _ (by decide +kernel)) ggX5_chosenAt_X5_chosen
theorem dX5_chosenAt_0 : decode cX5_chosenAt 0 = .ok (.aload_n 0, 1) := by decide +kernel
theorem dX5_chosenAt_1 : decode cX5_chosenAt 1 = .ok (.getfield 13, 3) := by decide +kernel
theorem dX5_chosenAt_4 : decode cX5_chosenAt 4 = .ok (.bipush 24, 2) := by decide +kernel
theorem dX5_chosenAt_6 : decode cX5_chosenAt 6 = .ok (.iload 4, 2) := by decide +kernel
theorem dX5_chosenAt_8 : decode cX5_chosenAt 8 = .ok (.imul, 1) := by decide +kernel
theorem dX5_chosenAt_9 : decode cX5_chosenAt 9 = .ok (.bipush 12, 2) := by decide +kernel
theorem dX5_chosenAt_11 : decode cX5_chosenAt 11 = .ok (.iload_n 2, 1) := by decide +kernel
theorem dX5_chosenAt_12 : decode cX5_chosenAt 12 = .ok (.imul, 1) := by decide +kernel
theorem dX5_chosenAt_13 : decode cX5_chosenAt 13 = .ok (.iadd, 1) := by decide +kernel
theorem dX5_chosenAt_14 : decode cX5_chosenAt 14 = .ok (.iload_n 3, 1) := by decide +kernel
theorem dX5_chosenAt_15 : decode cX5_chosenAt 15 = .ok (.iadd, 1) := by decide +kernel
theorem dX5_chosenAt_16 : decode cX5_chosenAt 16 = .ok (.iaload, 1) := by decide +kernel
theorem dX5_chosenAt_17 : decode cX5_chosenAt 17 = .ok (.istore 5, 2) := by decide +kernel
theorem dX5_chosenAt_19 : decode cX5_chosenAt 19 = .ok (.aload_n 0, 1) := by decide +kernel
theorem dX5_chosenAt_20 : decode cX5_chosenAt 20 = .ok (.iload_n 1, 1) := by decide +kernel
theorem dX5_chosenAt_21 : decode cX5_chosenAt 21 = .ok (.iload_n 2, 1) := by decide +kernel
theorem dX5_chosenAt_22 : decode cX5_chosenAt 22 = .ok (.iload 5, 2) := by decide +kernel
theorem dX5_chosenAt_24 : decode cX5_chosenAt 24 = .ok (.invokevirtual 115, 3) := by decide +kernel
theorem dX5_chosenAt_27 : decode cX5_chosenAt 27 = .ok (.ifCond .eq 14, 3) := by decide +kernel
theorem dX5_chosenAt_30 : decode cX5_chosenAt 30 = .ok (.aload_n 0, 1) := by decide +kernel
theorem dX5_chosenAt_31 : decode cX5_chosenAt 31 = .ok (.iload_n 1, 1) := by decide +kernel
theorem dX5_chosenAt_32 : decode cX5_chosenAt 32 = .ok (.iload_n 2, 1) := by decide +kernel
theorem dX5_chosenAt_33 : decode cX5_chosenAt 33 = .ok (.iload 5, 2) := by decide +kernel
theorem dX5_chosenAt_35 : decode cX5_chosenAt 35 = .ok (.invokevirtual 118, 3) := by decide +kernel
theorem dX5_chosenAt_38 : decode cX5_chosenAt 38 = .ok (.goto 4, 3) := by decide +kernel
theorem dX5_chosenAt_41 : decode cX5_chosenAt 41 = .ok (.iconst (-1), 1) := by decide +kernel
theorem dX5_chosenAt_42 : decode cX5_chosenAt 42 = .ok (.ireturn, 1) := by decide +kernel
set_option maxRecDepth 20000 in
theorem ggX5_copy_X5_isThird : GoodIn wsX5_copy wsX5_isThird := goodIn_r _ [10, 11, 12, 9, 13] (by decide +kernel) (by decide +kernel)
set_option maxRecDepth 20000 in
theorem gX5_copy_X5_isThird : GoodIn wsX5_copy (va_wsS RX5 105 yX5_isThird wsX5_isThird) := goodIn_app (goodIn_of _ (by decide +kernel)) ggX5_copy_X5_isThird
set_option maxRecDepth 20000 in
theorem ggX5_copy_X5_isTable : GoodIn wsX5_copy wsX5_isTable := goodIn_r _ [16, 11, 12, 9, 13] (by decide +kernel) (by decide +kernel)
set_option maxRecDepth 20000 in
theorem gX5_copy_X5_isTable : GoodIn wsX5_copy (va_wsS RX5 72 yX5_isTable wsX5_isTable) := goodIn_app (goodIn_of _ (by decide +kernel)) ggX5_copy_X5_isTable
set_option maxRecDepth 20000 in
theorem ggX5_copy_X5_fails : GoodIn wsX5_copy wsX5_fails := goodIn_r _ [20, 21, 42, 43, 44, 45, 46, 47, 48, 49, 50, 51, 52, 53, 54, 55, 56, 57, 58, 59, 60, 61] (by decide +kernel) (by decide +kernel)
set_option maxRecDepth 20000 in
theorem gX5_copy_X5_fails : GoodIn wsX5_copy (wsV RX5 94 RX5 yX5_fails wsX5_fails) := goodIn_app (goodIn_of _ (by decide +kernel)) ggX5_copy_X5_fails
set_option maxRecDepth 20000 in
theorem ggX5_copy_X5_chosenAt : GoodIn wsX5_copy wsX5_chosenAt := goodIn_r _ [25, 26, 27, 28, 29, 9, 30, 31, 32, 33, 34, 35, 36, 37, 38, 39, 40, 41, 42, 43, 44, 45, 46, 47, 48, 49, 50, 51, 52, 53, 54, 55, 56, 57, 58, 59, 60, 61] (by decide +kernel) (by decide +kernel)
set_option maxRecDepth 20000 in
theorem gX5_copy_X5_chosenAt : GoodIn wsX5_copy (wsV RX5 122 RX5 yX5_chosenAt wsX5_chosenAt) := goodIn_app (goodIn_of _ (by decide +kernel)) ggX5_copy_X5_chosenAt
theorem dX5_copy_0 : decode cX5_copy 0 = .ok (.aload_n 0, 1) := by decide +kernel
theorem dX5_copy_1 : decode cX5_copy 1 = .ok (.iload_n 1, 1) := by decide +kernel
theorem dX5_copy_2 : decode cX5_copy 2 = .ok (.invokestatic 105, 3) := by decide +kernel
theorem dX5_copy_5 : decode cX5_copy 5 = .ok (.ifCond .eq 10, 3) := by decide +kernel
theorem dX5_copy_8 : decode cX5_copy 8 = .ok (.iload_n 2, 1) := by decide +kernel
theorem dX5_copy_9 : decode cX5_copy 9 = .ok (.invokestatic 72, 3) := by decide +kernel
theorem dX5_copy_12 : decode cX5_copy 12 = .ok (.ifCond .ne 7, 3) := by decide +kernel
theorem dX5_copy_15 : decode cX5_copy 15 = .ok (.iconst 1, 1) := by decide +kernel
theorem dX5_copy_16 : decode cX5_copy 16 = .ok (.goto 32, 3) := by decide +kernel
theorem dX5_copy_19 : decode cX5_copy 19 = .ok (.aload_n 0, 1) := by decide +kernel
theorem dX5_copy_20 : decode cX5_copy 20 = .ok (.getfield 47, 3) := by decide +kernel
theorem dX5_copy_23 : decode cX5_copy 23 = .ok (.iload_n 1, 1) := by decide +kernel
theorem dX5_copy_24 : decode cX5_copy 24 = .ok (.iaload, 1) := by decide +kernel
theorem dX5_copy_25 : decode cX5_copy 25 = .ok (.iconst 1, 1) := by decide +kernel
theorem dX5_copy_26 : decode cX5_copy 26 = .ok (.if_icmp .ne 17, 3) := by decide +kernel
theorem dX5_copy_29 : decode cX5_copy 29 = .ok (.aload_n 0, 1) := by decide +kernel
theorem dX5_copy_30 : decode cX5_copy 30 = .ok (.getfield 20, 3) := by decide +kernel
theorem dX5_copy_33 : decode cX5_copy 33 = .ok (.aload_n 0, 1) := by decide +kernel
theorem dX5_copy_34 : decode cX5_copy 34 = .ok (.getfield 76, 3) := by decide +kernel
theorem dX5_copy_37 : decode cX5_copy 37 = .ok (.iconst 1, 1) := by decide +kernel
theorem dX5_copy_38 : decode cX5_copy 38 = .ok (.iadd, 1) := by decide +kernel
theorem dX5_copy_39 : decode cX5_copy 39 = .ok (.iaload, 1) := by decide +kernel
theorem dX5_copy_40 : decode cX5_copy 40 = .ok (.ifCond .le 7, 3) := by decide +kernel
theorem dX5_copy_43 : decode cX5_copy 43 = .ok (.iconst 2, 1) := by decide +kernel
theorem dX5_copy_44 : decode cX5_copy 44 = .ok (.goto 4, 3) := by decide +kernel
theorem dX5_copy_47 : decode cX5_copy 47 = .ok (.iconst 0, 1) := by decide +kernel
theorem dX5_copy_48 : decode cX5_copy 48 = .ok (.invokevirtual 94, 3) := by decide +kernel
theorem dX5_copy_51 : decode cX5_copy 51 = .ok (.ifCond .eq 5, 3) := by decide +kernel
theorem dX5_copy_54 : decode cX5_copy 54 = .ok (.iconst 0, 1) := by decide +kernel
theorem dX5_copy_55 : decode cX5_copy 55 = .ok (.ireturn, 1) := by decide +kernel
theorem dX5_copy_56 : decode cX5_copy 56 = .ok (.iconst 0, 1) := by decide +kernel
theorem dX5_copy_57 : decode cX5_copy 57 = .ok (.istore_n 3, 1) := by decide +kernel
theorem dX5_copy_58 : decode cX5_copy 58 = .ok (.iconst 0, 1) := by decide +kernel
theorem dX5_copy_59 : decode cX5_copy 59 = .ok (.istore 4, 2) := by decide +kernel
theorem dX5_copy_61 : decode cX5_copy 61 = .ok (.iload 4, 2) := by decide +kernel
theorem dX5_copy_63 : decode cX5_copy 63 = .ok (.bipush 12, 2) := by decide +kernel
theorem dX5_copy_65 : decode cX5_copy 65 = .ok (.if_icmp .ge 66, 3) := by decide +kernel
theorem dX5_copy_68 : decode cX5_copy 68 = .ok (.bipush 24, 2) := by decide +kernel
theorem dX5_copy_70 : decode cX5_copy 70 = .ok (.iload_n 1, 1) := by decide +kernel
theorem dX5_copy_71 : decode cX5_copy 71 = .ok (.imul, 1) := by decide +kernel
theorem dX5_copy_72 : decode cX5_copy 72 = .ok (.bipush 12, 2) := by decide +kernel
theorem dX5_copy_74 : decode cX5_copy 74 = .ok (.iload_n 2, 1) := by decide +kernel
theorem dX5_copy_75 : decode cX5_copy 75 = .ok (.imul, 1) := by decide +kernel
theorem dX5_copy_76 : decode cX5_copy 76 = .ok (.iadd, 1) := by decide +kernel
theorem dX5_copy_77 : decode cX5_copy 77 = .ok (.iload 4, 2) := by decide +kernel
theorem dX5_copy_79 : decode cX5_copy 79 = .ok (.iadd, 1) := by decide +kernel
theorem dX5_copy_80 : decode cX5_copy 80 = .ok (.istore 5, 2) := by decide +kernel
theorem dX5_copy_82 : decode cX5_copy 82 = .ok (.aload_n 0, 1) := by decide +kernel
theorem dX5_copy_83 : decode cX5_copy 83 = .ok (.getfield 56, 3) := by decide +kernel
theorem dX5_copy_86 : decode cX5_copy 86 = .ok (.iload 5, 2) := by decide +kernel
theorem dX5_copy_88 : decode cX5_copy 88 = .ok (.aload_n 0, 1) := by decide +kernel
theorem dX5_copy_89 : decode cX5_copy 89 = .ok (.aload_n 0, 1) := by decide +kernel
theorem dX5_copy_90 : decode cX5_copy 90 = .ok (.getfield 44, 3) := by decide +kernel
theorem dX5_copy_93 : decode cX5_copy 93 = .ok (.iload_n 1, 1) := by decide +kernel
theorem dX5_copy_94 : decode cX5_copy 94 = .ok (.iaload, 1) := by decide +kernel
theorem dX5_copy_95 : decode cX5_copy 95 = .ok (.iload_n 2, 1) := by decide +kernel
theorem dX5_copy_96 : decode cX5_copy 96 = .ok (.iload 4, 2) := by decide +kernel
theorem dX5_copy_98 : decode cX5_copy 98 = .ok (.aload_n 0, 1) := by decide +kernel
theorem dX5_copy_99 : decode cX5_copy 99 = .ok (.getfield 76, 3) := by decide +kernel
theorem dX5_copy_102 : decode cX5_copy 102 = .ok (.invokevirtual 122, 3) := by decide +kernel
theorem dX5_copy_105 : decode cX5_copy 105 = .ok (.iastore, 1) := by decide +kernel
theorem dX5_copy_106 : decode cX5_copy 106 = .ok (.iload_n 3, 1) := by decide +kernel
theorem dX5_copy_107 : decode cX5_copy 107 = .ok (.aload_n 0, 1) := by decide +kernel
theorem dX5_copy_108 : decode cX5_copy 108 = .ok (.getfield 56, 3) := by decide +kernel
theorem dX5_copy_111 : decode cX5_copy 111 = .ok (.iload 5, 2) := by decide +kernel
theorem dX5_copy_113 : decode cX5_copy 113 = .ok (.iaload, 1) := by decide +kernel
theorem dX5_copy_114 : decode cX5_copy 114 = .ok (.iconst (-1), 1) := by decide +kernel
theorem dX5_copy_115 : decode cX5_copy 115 = .ok (.if_icmp .ne 7, 3) := by decide +kernel
theorem dX5_copy_118 : decode cX5_copy 118 = .ok (.iconst 0, 1) := by decide +kernel
theorem dX5_copy_119 : decode cX5_copy 119 = .ok (.goto 4, 3) := by decide +kernel
theorem dX5_copy_122 : decode cX5_copy 122 = .ok (.iconst 1, 1) := by decide +kernel
theorem dX5_copy_123 : decode cX5_copy 123 = .ok (.iadd, 1) := by decide +kernel
theorem dX5_copy_124 : decode cX5_copy 124 = .ok (.istore_n 3, 1) := by decide +kernel
theorem dX5_copy_125 : decode cX5_copy 125 = .ok (.iinc 4 1, 3) := by decide +kernel
theorem dX5_copy_128 : decode cX5_copy 128 = .ok (.goto (-67), 3) := by decide +kernel
theorem dX5_copy_131 : decode cX5_copy 131 = .ok (.aload_n 0, 1) := by decide +kernel
theorem dX5_copy_132 : decode cX5_copy 132 = .ok (.getfield 53, 3) := by decide +kernel
theorem dX5_copy_135 : decode cX5_copy 135 = .ok (.iconst 2, 1) := by decide +kernel
theorem dX5_copy_136 : decode cX5_copy 136 = .ok (.iload_n 1, 1) := by decide +kernel
theorem dX5_copy_137 : decode cX5_copy 137 = .ok (.imul, 1) := by decide +kernel
theorem dX5_copy_138 : decode cX5_copy 138 = .ok (.iload_n 2, 1) := by decide +kernel
theorem dX5_copy_139 : decode cX5_copy 139 = .ok (.iadd, 1) := by decide +kernel
theorem dX5_copy_140 : decode cX5_copy 140 = .ok (.aload_n 0, 1) := by decide +kernel
theorem dX5_copy_141 : decode cX5_copy 141 = .ok (.getfield 76, 3) := by decide +kernel
theorem dX5_copy_144 : decode cX5_copy 144 = .ok (.iastore, 1) := by decide +kernel
theorem dX5_copy_145 : decode cX5_copy 145 = .ok (.iload_n 3, 1) := by decide +kernel
theorem dX5_copy_146 : decode cX5_copy 146 = .ok (.ireturn, 1) := by decide +kernel
set_option maxRecDepth 20000 in
theorem ggX5_applies_X5_counts : GoodIn wsX5_applies wsX5_counts := goodIn_r _ [8, 9, 10, 11, 12, 13, 7, 14, 20, 21, 22, 23, 24, 25, 26, 27, 28, 29, 30, 31, 32, 33, 34, 35, 36, 37, 38, 39] (by decide +kernel) (by decide +kernel)
set_option maxRecDepth 20000 in
theorem gX5_applies_X5_counts : GoodIn wsX5_applies (wsV RX5 115 RX5 yX5_counts wsX5_counts) := goodIn_app (goodIn_of _ (by decide +kernel)) ggX5_applies_X5_counts
set_option maxRecDepth 20000 in
theorem ggX5_applies_X5_chosen : GoodIn wsX5_applies wsX5_chosen := goodIn_r _ [18, 19, 12, 13, 7, 14, 20, 21, 22, 23, 24, 25, 26, 27, 28, 29, 30, 31, 32, 33, 34, 35, 36, 37, 38, 39] (by decide +kernel) (by decide +kernel)
set_option maxRecDepth 20000 in
theorem gX5_applies_X5_chosen : GoodIn wsX5_applies (wsV RX5 118 RX5 yX5_chosen wsX5_chosen) := goodIn_app (goodIn_of _ (by decide +kernel)) ggX5_applies_X5_chosen
theorem dX5_applies_0 : decode cX5_applies 0 = .ok (.aload_n 0, 1) := by decide +kernel
theorem dX5_applies_1 : decode cX5_applies 1 = .ok (.aload_n 0, 1) := by decide +kernel
theorem dX5_applies_2 : decode cX5_applies 2 = .ok (.getfield 44, 3) := by decide +kernel
theorem dX5_applies_5 : decode cX5_applies 5 = .ok (.iload_n 1, 1) := by decide +kernel
theorem dX5_applies_6 : decode cX5_applies 6 = .ok (.iaload, 1) := by decide +kernel
theorem dX5_applies_7 : decode cX5_applies 7 = .ok (.iload_n 2, 1) := by decide +kernel
theorem dX5_applies_8 : decode cX5_applies 8 = .ok (.aload_n 0, 1) := by decide +kernel
theorem dX5_applies_9 : decode cX5_applies 9 = .ok (.getfield 59, 3) := by decide +kernel
theorem dX5_applies_12 : decode cX5_applies 12 = .ok (.iload_n 3, 1) := by decide +kernel
theorem dX5_applies_13 : decode cX5_applies 13 = .ok (.iaload, 1) := by decide +kernel
theorem dX5_applies_14 : decode cX5_applies 14 = .ok (.invokevirtual 115, 3) := by decide +kernel
theorem dX5_applies_17 : decode cX5_applies 17 = .ok (.istore 5, 2) := by decide +kernel
theorem dX5_applies_19 : decode cX5_applies 19 = .ok (.aload_n 0, 1) := by decide +kernel
theorem dX5_applies_20 : decode cX5_applies 20 = .ok (.aload_n 0, 1) := by decide +kernel
theorem dX5_applies_21 : decode cX5_applies 21 = .ok (.getfield 44, 3) := by decide +kernel
theorem dX5_applies_24 : decode cX5_applies 24 = .ok (.iload_n 1, 1) := by decide +kernel
theorem dX5_applies_25 : decode cX5_applies 25 = .ok (.iaload, 1) := by decide +kernel
theorem dX5_applies_26 : decode cX5_applies 26 = .ok (.iload_n 2, 1) := by decide +kernel
theorem dX5_applies_27 : decode cX5_applies 27 = .ok (.iload 4, 2) := by decide +kernel
theorem dX5_applies_29 : decode cX5_applies 29 = .ok (.invokevirtual 115, 3) := by decide +kernel
theorem dX5_applies_32 : decode cX5_applies 32 = .ok (.istore 6, 2) := by decide +kernel
theorem dX5_applies_34 : decode cX5_applies 34 = .ok (.iload 6, 2) := by decide +kernel
theorem dX5_applies_36 : decode cX5_applies 36 = .ok (.ifCond .eq 22, 3) := by decide +kernel
theorem dX5_applies_39 : decode cX5_applies 39 = .ok (.iload 5, 2) := by decide +kernel
theorem dX5_applies_41 : decode cX5_applies 41 = .ok (.ifCond .ne 17, 3) := by decide +kernel
theorem dX5_applies_44 : decode cX5_applies 44 = .ok (.aload_n 0, 1) := by decide +kernel
theorem dX5_applies_45 : decode cX5_applies 45 = .ok (.getfield 62, 3) := by decide +kernel
theorem dX5_applies_48 : decode cX5_applies 48 = .ok (.iload_n 3, 1) := by decide +kernel
theorem dX5_applies_49 : decode cX5_applies 49 = .ok (.iaload, 1) := by decide +kernel
theorem dX5_applies_50 : decode cX5_applies 50 = .ok (.iconst (-1), 1) := by decide +kernel
theorem dX5_applies_51 : decode cX5_applies 51 = .ok (.if_icmp .eq 7, 3) := by decide +kernel
theorem dX5_applies_54 : decode cX5_applies 54 = .ok (.iconst 1, 1) := by decide +kernel
theorem dX5_applies_55 : decode cX5_applies 55 = .ok (.goto 4, 3) := by decide +kernel
theorem dX5_applies_58 : decode cX5_applies 58 = .ok (.iconst 0, 1) := by decide +kernel
theorem dX5_applies_59 : decode cX5_applies 59 = .ok (.istore 7, 2) := by decide +kernel
theorem dX5_applies_61 : decode cX5_applies 61 = .ok (.iload 6, 2) := by decide +kernel
theorem dX5_applies_63 : decode cX5_applies 63 = .ok (.ifCond .eq 25, 3) := by decide +kernel
theorem dX5_applies_66 : decode cX5_applies 66 = .ok (.aload_n 0, 1) := by decide +kernel
theorem dX5_applies_67 : decode cX5_applies 67 = .ok (.getfield 62, 3) := by decide +kernel
theorem dX5_applies_70 : decode cX5_applies 70 = .ok (.iload_n 3, 1) := by decide +kernel
theorem dX5_applies_71 : decode cX5_applies 71 = .ok (.aload_n 0, 1) := by decide +kernel
theorem dX5_applies_72 : decode cX5_applies 72 = .ok (.aload_n 0, 1) := by decide +kernel
theorem dX5_applies_73 : decode cX5_applies 73 = .ok (.getfield 44, 3) := by decide +kernel
theorem dX5_applies_76 : decode cX5_applies 76 = .ok (.iload_n 1, 1) := by decide +kernel
theorem dX5_applies_77 : decode cX5_applies 77 = .ok (.iaload, 1) := by decide +kernel
theorem dX5_applies_78 : decode cX5_applies 78 = .ok (.iload_n 2, 1) := by decide +kernel
theorem dX5_applies_79 : decode cX5_applies 79 = .ok (.iload 4, 2) := by decide +kernel
theorem dX5_applies_81 : decode cX5_applies 81 = .ok (.invokevirtual 118, 3) := by decide +kernel
theorem dX5_applies_84 : decode cX5_applies 84 = .ok (.iastore, 1) := by decide +kernel
theorem dX5_applies_85 : decode cX5_applies 85 = .ok (.goto 15, 3) := by decide +kernel
theorem dX5_applies_88 : decode cX5_applies 88 = .ok (.iload 5, 2) := by decide +kernel
theorem dX5_applies_90 : decode cX5_applies 90 = .ok (.ifCond .eq 10, 3) := by decide +kernel
theorem dX5_applies_93 : decode cX5_applies 93 = .ok (.aload_n 0, 1) := by decide +kernel
theorem dX5_applies_94 : decode cX5_applies 94 = .ok (.getfield 62, 3) := by decide +kernel
theorem dX5_applies_97 : decode cX5_applies 97 = .ok (.iload_n 3, 1) := by decide +kernel
theorem dX5_applies_98 : decode cX5_applies 98 = .ok (.iconst (-1), 1) := by decide +kernel
theorem dX5_applies_99 : decode cX5_applies 99 = .ok (.iastore, 1) := by decide +kernel
theorem dX5_applies_100 : decode cX5_applies 100 = .ok (.iload 7, 2) := by decide +kernel
theorem dX5_applies_102 : decode cX5_applies 102 = .ok (.ifCond .ne 7, 3) := by decide +kernel
theorem dX5_applies_105 : decode cX5_applies 105 = .ok (.iconst 1, 1) := by decide +kernel
theorem dX5_applies_106 : decode cX5_applies 106 = .ok (.goto 4, 3) := by decide +kernel
theorem dX5_applies_109 : decode cX5_applies 109 = .ok (.iconst 0, 1) := by decide +kernel
theorem dX5_applies_110 : decode cX5_applies 110 = .ok (.ireturn, 1) := by decide +kernel
set_option maxRecDepth 20000 in
theorem ggX5_tries_X5_isIn : GoodIn wsX5_tries wsX5_isIn := goodIn_r _ [14] (by decide +kernel) (by decide +kernel)
set_option maxRecDepth 20000 in
theorem gX5_tries_X5_isIn : GoodIn wsX5_tries (va_wsS RX5 68 yX5_isIn wsX5_isIn) := goodIn_app (goodIn_of _ (by decide +kernel)) ggX5_tries_X5_isIn
set_option maxRecDepth 20000 in
theorem ggX5_tries_X5_applies : GoodIn wsX5_tries wsX5_applies := goodIn_r _ [18, 19, 2, 4, 20, 21, 22, 13, 23, 24, 25, 26, 27, 28, 29, 30, 31, 32, 33, 34, 38, 39, 40, 41, 42, 43, 44, 45, 46, 47, 48, 49, 50, 51, 52, 53, 54, 55, 56, 57] (by decide +kernel) (by decide +kernel)
set_option maxRecDepth 20000 in
theorem gX5_tries_X5_applies : GoodIn wsX5_tries (wsV RX5 126 RX5 yX5_applies wsX5_applies) := goodIn_app (goodIn_of _ (by decide +kernel)) ggX5_tries_X5_applies
set_option maxRecDepth 20000 in
theorem ggX5_tries_X5_goes : GoodIn wsX5_tries wsX5_goes := goodIn_r _ [37] (by decide +kernel) (by decide +kernel)
set_option maxRecDepth 20000 in
theorem gX5_tries_X5_goes : GoodIn wsX5_tries (va_wsS RX5 79 yX5_goes wsX5_goes) := goodIn_app (goodIn_of _ (by decide +kernel)) ggX5_tries_X5_goes
theorem dX5_tries_0 : decode cX5_tries 0 = .ok (.aload_n 0, 1) := by decide +kernel
theorem dX5_tries_1 : decode cX5_tries 1 = .ok (.getfield 50, 3) := by decide +kernel
theorem dX5_tries_4 : decode cX5_tries 4 = .ok (.iload_n 1, 1) := by decide +kernel
theorem dX5_tries_5 : decode cX5_tries 5 = .ok (.iaload, 1) := by decide +kernel
theorem dX5_tries_6 : decode cX5_tries 6 = .ok (.iconst 1, 1) := by decide +kernel
theorem dX5_tries_7 : decode cX5_tries 7 = .ok (.iadd, 1) := by decide +kernel
theorem dX5_tries_8 : decode cX5_tries 8 = .ok (.istore_n 2, 1) := by decide +kernel
theorem dX5_tries_9 : decode cX5_tries 9 = .ok (.iconst 0, 1) := by decide +kernel
theorem dX5_tries_10 : decode cX5_tries 10 = .ok (.istore_n 3, 1) := by decide +kernel
theorem dX5_tries_11 : decode cX5_tries 11 = .ok (.iload_n 3, 1) := by decide +kernel
theorem dX5_tries_12 : decode cX5_tries 12 = .ok (.bipush 24, 2) := by decide +kernel
theorem dX5_tries_14 : decode cX5_tries 14 = .ok (.if_icmp .ge 45, 3) := by decide +kernel
theorem dX5_tries_17 : decode cX5_tries 17 = .ok (.aload_n 0, 1) := by decide +kernel
theorem dX5_tries_18 : decode cX5_tries 18 = .ok (.getfield 59, 3) := by decide +kernel
theorem dX5_tries_21 : decode cX5_tries 21 = .ok (.iload_n 3, 1) := by decide +kernel
theorem dX5_tries_22 : decode cX5_tries 22 = .ok (.aload_n 0, 1) := by decide +kernel
theorem dX5_tries_23 : decode cX5_tries 23 = .ok (.getfield 13, 3) := by decide +kernel
theorem dX5_tries_26 : decode cX5_tries 26 = .ok (.bipush 24, 2) := by decide +kernel
theorem dX5_tries_28 : decode cX5_tries 28 = .ok (.iload_n 2, 1) := by decide +kernel
theorem dX5_tries_29 : decode cX5_tries 29 = .ok (.iconst 1, 1) := by decide +kernel
theorem dX5_tries_30 : decode cX5_tries 30 = .ok (.isub, 1) := by decide +kernel
theorem dX5_tries_31 : decode cX5_tries 31 = .ok (.imul, 1) := by decide +kernel
theorem dX5_tries_32 : decode cX5_tries 32 = .ok (.iload_n 3, 1) := by decide +kernel
theorem dX5_tries_33 : decode cX5_tries 33 = .ok (.iadd, 1) := by decide +kernel
theorem dX5_tries_34 : decode cX5_tries 34 = .ok (.iaload, 1) := by decide +kernel
theorem dX5_tries_35 : decode cX5_tries 35 = .ok (.iastore, 1) := by decide +kernel
theorem dX5_tries_36 : decode cX5_tries 36 = .ok (.aload_n 0, 1) := by decide +kernel
theorem dX5_tries_37 : decode cX5_tries 37 = .ok (.getfield 62, 3) := by decide +kernel
theorem dX5_tries_40 : decode cX5_tries 40 = .ok (.iload_n 3, 1) := by decide +kernel
theorem dX5_tries_41 : decode cX5_tries 41 = .ok (.aload_n 0, 1) := by decide +kernel
theorem dX5_tries_42 : decode cX5_tries 42 = .ok (.getfield 56, 3) := by decide +kernel
theorem dX5_tries_45 : decode cX5_tries 45 = .ok (.bipush 24, 2) := by decide +kernel
theorem dX5_tries_47 : decode cX5_tries 47 = .ok (.iload_n 1, 1) := by decide +kernel
theorem dX5_tries_48 : decode cX5_tries 48 = .ok (.imul, 1) := by decide +kernel
theorem dX5_tries_49 : decode cX5_tries 49 = .ok (.iload_n 3, 1) := by decide +kernel
theorem dX5_tries_50 : decode cX5_tries 50 = .ok (.iadd, 1) := by decide +kernel
theorem dX5_tries_51 : decode cX5_tries 51 = .ok (.iaload, 1) := by decide +kernel
theorem dX5_tries_52 : decode cX5_tries 52 = .ok (.iastore, 1) := by decide +kernel
theorem dX5_tries_53 : decode cX5_tries 53 = .ok (.iinc 3 1, 3) := by decide +kernel
theorem dX5_tries_56 : decode cX5_tries 56 = .ok (.goto (-45), 3) := by decide +kernel
theorem dX5_tries_59 : decode cX5_tries 59 = .ok (.iconst 1, 1) := by decide +kernel
theorem dX5_tries_60 : decode cX5_tries 60 = .ok (.istore_n 3, 1) := by decide +kernel
theorem dX5_tries_61 : decode cX5_tries 61 = .ok (.bipush 12, 2) := by decide +kernel
theorem dX5_tries_63 : decode cX5_tries 63 = .ok (.iload_n 2, 1) := by decide +kernel
theorem dX5_tries_64 : decode cX5_tries 64 = .ok (.imul, 1) := by decide +kernel
theorem dX5_tries_65 : decode cX5_tries 65 = .ok (.istore 4, 2) := by decide +kernel
theorem dX5_tries_67 : decode cX5_tries 67 = .ok (.iload 4, 2) := by decide +kernel
theorem dX5_tries_69 : decode cX5_tries 69 = .ok (.bipush 12, 2) := by decide +kernel
theorem dX5_tries_71 : decode cX5_tries 71 = .ok (.iload_n 2, 1) := by decide +kernel
theorem dX5_tries_72 : decode cX5_tries 72 = .ok (.imul, 1) := by decide +kernel
theorem dX5_tries_73 : decode cX5_tries 73 = .ok (.aload_n 0, 1) := by decide +kernel
theorem dX5_tries_74 : decode cX5_tries 74 = .ok (.getfield 20, 3) := by decide +kernel
theorem dX5_tries_77 : decode cX5_tries 77 = .ok (.iload_n 2, 1) := by decide +kernel
theorem dX5_tries_78 : decode cX5_tries 78 = .ok (.iaload, 1) := by decide +kernel
theorem dX5_tries_79 : decode cX5_tries 79 = .ok (.iadd, 1) := by decide +kernel
theorem dX5_tries_80 : decode cX5_tries 80 = .ok (.if_icmp .ge 156, 3) := by decide +kernel
theorem dX5_tries_83 : decode cX5_tries 83 = .ok (.iload_n 3, 1) := by decide +kernel
theorem dX5_tries_84 : decode cX5_tries 84 = .ok (.ifCond .eq 152, 3) := by decide +kernel
theorem dX5_tries_87 : decode cX5_tries 87 = .ok (.aload_n 0, 1) := by decide +kernel
theorem dX5_tries_88 : decode cX5_tries 88 = .ok (.getfield 23, 3) := by decide +kernel
theorem dX5_tries_91 : decode cX5_tries 91 = .ok (.iload 4, 2) := by decide +kernel
theorem dX5_tries_93 : decode cX5_tries 93 = .ok (.iaload, 1) := by decide +kernel
theorem dX5_tries_94 : decode cX5_tries 94 = .ok (.istore 5, 2) := by decide +kernel
theorem dX5_tries_96 : decode cX5_tries 96 = .ok (.aload_n 0, 1) := by decide +kernel
theorem dX5_tries_97 : decode cX5_tries 97 = .ok (.getfield 53, 3) := by decide +kernel
theorem dX5_tries_100 : decode cX5_tries 100 = .ok (.iconst 2, 1) := by decide +kernel
theorem dX5_tries_101 : decode cX5_tries 101 = .ok (.iload_n 1, 1) := by decide +kernel
theorem dX5_tries_102 : decode cX5_tries 102 = .ok (.imul, 1) := by decide +kernel
theorem dX5_tries_103 : decode cX5_tries 103 = .ok (.iload 5, 2) := by decide +kernel
theorem dX5_tries_105 : decode cX5_tries 105 = .ok (.iadd, 1) := by decide +kernel
theorem dX5_tries_106 : decode cX5_tries 106 = .ok (.iaload, 1) := by decide +kernel
theorem dX5_tries_107 : decode cX5_tries 107 = .ok (.iconst 0, 1) := by decide +kernel
theorem dX5_tries_108 : decode cX5_tries 108 = .ok (.iload_n 2, 1) := by decide +kernel
theorem dX5_tries_109 : decode cX5_tries 109 = .ok (.iconst 1, 1) := by decide +kernel
theorem dX5_tries_110 : decode cX5_tries 110 = .ok (.isub, 1) := by decide +kernel
theorem dX5_tries_111 : decode cX5_tries 111 = .ok (.invokestatic 68, 3) := by decide +kernel
theorem dX5_tries_114 : decode cX5_tries 114 = .ok (.istore 6, 2) := by decide +kernel
theorem dX5_tries_116 : decode cX5_tries 116 = .ok (.iconst 0, 1) := by decide +kernel
theorem dX5_tries_117 : decode cX5_tries 117 = .ok (.istore 7, 2) := by decide +kernel
theorem dX5_tries_119 : decode cX5_tries 119 = .ok (.iload 7, 2) := by decide +kernel
theorem dX5_tries_121 : decode cX5_tries 121 = .ok (.bipush 12, 2) := by decide +kernel
theorem dX5_tries_123 : decode cX5_tries 123 = .ok (.if_icmp .ge 84, 3) := by decide +kernel
theorem dX5_tries_126 : decode cX5_tries 126 = .ok (.iload_n 3, 1) := by decide +kernel
theorem dX5_tries_127 : decode cX5_tries 127 = .ok (.ifCond .eq 80, 3) := by decide +kernel
theorem dX5_tries_130 : decode cX5_tries 130 = .ok (.iload 6, 2) := by decide +kernel
theorem dX5_tries_132 : decode cX5_tries 132 = .ok (.ifCond .eq 30, 3) := by decide +kernel
theorem dX5_tries_135 : decode cX5_tries 135 = .ok (.aload_n 0, 1) := by decide +kernel
theorem dX5_tries_136 : decode cX5_tries 136 = .ok (.getfield 26, 3) := by decide +kernel
theorem dX5_tries_139 : decode cX5_tries 139 = .ok (.iload 4, 2) := by decide +kernel
theorem dX5_tries_141 : decode cX5_tries 141 = .ok (.iaload, 1) := by decide +kernel
theorem dX5_tries_142 : decode cX5_tries 142 = .ok (.iload 7, 2) := by decide +kernel
theorem dX5_tries_144 : decode cX5_tries 144 = .ok (.if_icmp .eq 14, 3) := by decide +kernel
theorem dX5_tries_147 : decode cX5_tries 147 = .ok (.aload_n 0, 1) := by decide +kernel
theorem dX5_tries_148 : decode cX5_tries 148 = .ok (.getfield 26, 3) := by decide +kernel
theorem dX5_tries_151 : decode cX5_tries 151 = .ok (.iload 4, 2) := by decide +kernel
theorem dX5_tries_153 : decode cX5_tries 153 = .ok (.iaload, 1) := by decide +kernel
theorem dX5_tries_154 : decode cX5_tries 154 = .ok (.iconst (-1), 1) := by decide +kernel
theorem dX5_tries_155 : decode cX5_tries 155 = .ok (.if_icmp .ne 7, 3) := by decide +kernel
theorem dX5_tries_158 : decode cX5_tries 158 = .ok (.iconst 1, 1) := by decide +kernel
theorem dX5_tries_159 : decode cX5_tries 159 = .ok (.goto 4, 3) := by decide +kernel
theorem dX5_tries_162 : decode cX5_tries 162 = .ok (.iconst 0, 1) := by decide +kernel
theorem dX5_tries_163 : decode cX5_tries 163 = .ok (.istore 8, 2) := by decide +kernel
theorem dX5_tries_165 : decode cX5_tries 165 = .ok (.iload 8, 2) := by decide +kernel
theorem dX5_tries_167 : decode cX5_tries 167 = .ok (.ifCond .eq 28, 3) := by decide +kernel
theorem dX5_tries_170 : decode cX5_tries 170 = .ok (.aload_n 0, 1) := by decide +kernel
theorem dX5_tries_171 : decode cX5_tries 171 = .ok (.iload_n 1, 1) := by decide +kernel
theorem dX5_tries_172 : decode cX5_tries 172 = .ok (.iload 5, 2) := by decide +kernel
theorem dX5_tries_174 : decode cX5_tries 174 = .ok (.bipush 12, 2) := by decide +kernel
theorem dX5_tries_176 : decode cX5_tries 176 = .ok (.iload 5, 2) := by decide +kernel
theorem dX5_tries_178 : decode cX5_tries 178 = .ok (.imul, 1) := by decide +kernel
theorem dX5_tries_179 : decode cX5_tries 179 = .ok (.iload 7, 2) := by decide +kernel
theorem dX5_tries_181 : decode cX5_tries 181 = .ok (.iadd, 1) := by decide +kernel
theorem dX5_tries_182 : decode cX5_tries 182 = .ok (.aload_n 0, 1) := by decide +kernel
theorem dX5_tries_183 : decode cX5_tries 183 = .ok (.getfield 29, 3) := by decide +kernel
theorem dX5_tries_186 : decode cX5_tries 186 = .ok (.iload 4, 2) := by decide +kernel
theorem dX5_tries_188 : decode cX5_tries 188 = .ok (.iaload, 1) := by decide +kernel
theorem dX5_tries_189 : decode cX5_tries 189 = .ok (.invokevirtual 126, 3) := by decide +kernel
theorem dX5_tries_192 : decode cX5_tries 192 = .ok (.ifCond .eq 7, 3) := by decide +kernel
theorem dX5_tries_195 : decode cX5_tries 195 = .ok (.iconst 1, 1) := by decide +kernel
theorem dX5_tries_196 : decode cX5_tries 196 = .ok (.goto 4, 3) := by decide +kernel
theorem dX5_tries_199 : decode cX5_tries 199 = .ok (.iconst 0, 1) := by decide +kernel
theorem dX5_tries_200 : decode cX5_tries 200 = .ok (.istore_n 3, 1) := by decide +kernel
theorem dX5_tries_201 : decode cX5_tries 201 = .ok (.iinc 7 1, 3) := by decide +kernel
theorem dX5_tries_204 : decode cX5_tries 204 = .ok (.goto (-85), 3) := by decide +kernel
theorem dX5_tries_207 : decode cX5_tries 207 = .ok (.aload_n 0, 1) := by decide +kernel
theorem dX5_tries_208 : decode cX5_tries 208 = .ok (.getfield 59, 3) := by decide +kernel
theorem dX5_tries_211 : decode cX5_tries 211 = .ok (.iload 5, 2) := by decide +kernel
theorem dX5_tries_213 : decode cX5_tries 213 = .ok (.aload_n 0, 1) := by decide +kernel
theorem dX5_tries_214 : decode cX5_tries 214 = .ok (.getfield 26, 3) := by decide +kernel
theorem dX5_tries_217 : decode cX5_tries 217 = .ok (.iload 4, 2) := by decide +kernel
theorem dX5_tries_219 : decode cX5_tries 219 = .ok (.iaload, 1) := by decide +kernel
theorem dX5_tries_220 : decode cX5_tries 220 = .ok (.aload_n 0, 1) := by decide +kernel
theorem dX5_tries_221 : decode cX5_tries 221 = .ok (.getfield 29, 3) := by decide +kernel
theorem dX5_tries_224 : decode cX5_tries 224 = .ok (.iload 4, 2) := by decide +kernel
theorem dX5_tries_226 : decode cX5_tries 226 = .ok (.iaload, 1) := by decide +kernel
theorem dX5_tries_227 : decode cX5_tries 227 = .ok (.invokestatic 79, 3) := by decide +kernel
theorem dX5_tries_230 : decode cX5_tries 230 = .ok (.iinc 4 1, 3) := by decide +kernel
theorem dX5_tries_233 : decode cX5_tries 233 = .ok (.goto (-166), 3) := by decide +kernel
theorem dX5_tries_236 : decode cX5_tries 236 = .ok (.iconst 0, 1) := by decide +kernel
theorem dX5_tries_237 : decode cX5_tries 237 = .ok (.istore 4, 2) := by decide +kernel
theorem dX5_tries_239 : decode cX5_tries 239 = .ok (.iload 4, 2) := by decide +kernel
theorem dX5_tries_241 : decode cX5_tries 241 = .ok (.bipush 24, 2) := by decide +kernel
theorem dX5_tries_243 : decode cX5_tries 243 = .ok (.if_icmp .ge 32, 3) := by decide +kernel
theorem dX5_tries_246 : decode cX5_tries 246 = .ok (.iload_n 3, 1) := by decide +kernel
theorem dX5_tries_247 : decode cX5_tries 247 = .ok (.ifCond .eq 28, 3) := by decide +kernel
theorem dX5_tries_250 : decode cX5_tries 250 = .ok (.aload_n 0, 1) := by decide +kernel
theorem dX5_tries_251 : decode cX5_tries 251 = .ok (.getfield 56, 3) := by decide +kernel
theorem dX5_tries_254 : decode cX5_tries 254 = .ok (.bipush 24, 2) := by decide +kernel
theorem dX5_tries_256 : decode cX5_tries 256 = .ok (.iload_n 1, 1) := by decide +kernel
theorem dX5_tries_257 : decode cX5_tries 257 = .ok (.imul, 1) := by decide +kernel
theorem dX5_tries_258 : decode cX5_tries 258 = .ok (.iload 4, 2) := by decide +kernel
theorem dX5_tries_260 : decode cX5_tries 260 = .ok (.iadd, 1) := by decide +kernel
theorem dX5_tries_261 : decode cX5_tries 261 = .ok (.aload_n 0, 1) := by decide +kernel
theorem dX5_tries_262 : decode cX5_tries 262 = .ok (.getfield 62, 3) := by decide +kernel
theorem dX5_tries_265 : decode cX5_tries 265 = .ok (.iload 4, 2) := by decide +kernel
theorem dX5_tries_267 : decode cX5_tries 267 = .ok (.iaload, 1) := by decide +kernel
theorem dX5_tries_268 : decode cX5_tries 268 = .ok (.iastore, 1) := by decide +kernel
theorem dX5_tries_269 : decode cX5_tries 269 = .ok (.iinc 4 1, 3) := by decide +kernel
theorem dX5_tries_272 : decode cX5_tries 272 = .ok (.goto (-33), 3) := by decide +kernel
theorem dX5_tries_275 : decode cX5_tries 275 = .ok (.iload_n 3, 1) := by decide +kernel
theorem dX5_tries_276 : decode cX5_tries 276 = .ok (.ireturn, 1) := by decide +kernel
set_option maxRecDepth 20000 in
theorem ggX5_receive_X5_isThird : GoodIn wsX5_receive wsX5_isThird := goodIn_r _ [7, 8, 9, 6, 10] (by decide +kernel) (by decide +kernel)
set_option maxRecDepth 20000 in
theorem gX5_receive_X5_isThird : GoodIn wsX5_receive (va_wsS RX5 105 yX5_isThird wsX5_isThird) := goodIn_app (goodIn_of _ (by decide +kernel)) ggX5_receive_X5_isThird
set_option maxRecDepth 20000 in
theorem ggX5_receive_X5_isIn : GoodIn wsX5_receive wsX5_isIn := goodIn_r _ [10] (by decide +kernel) (by decide +kernel)
set_option maxRecDepth 20000 in
theorem gX5_receive_X5_isIn : GoodIn wsX5_receive (va_wsS RX5 68 yX5_isIn wsX5_isIn) := goodIn_app (goodIn_of _ (by decide +kernel)) ggX5_receive_X5_isIn
set_option maxRecDepth 20000 in
theorem ggX5_receive_X5_fails : GoodIn wsX5_receive wsX5_fails := goodIn_r _ [14, 15, 52, 53, 54, 55, 56, 57, 58, 59, 60, 61, 62, 63, 64, 65, 66, 67, 68, 69, 70, 71] (by decide +kernel) (by decide +kernel)
set_option maxRecDepth 20000 in
theorem gX5_receive_X5_fails : GoodIn wsX5_receive (wsV RX5 94 RX5 yX5_fails wsX5_fails) := goodIn_app (goodIn_of _ (by decide +kernel)) ggX5_receive_X5_fails
set_option maxRecDepth 20000 in
theorem ggX5_receive_X5_tries : GoodIn wsX5_receive wsX5_tries := goodIn_r _ [19, 2, 20, 21, 22, 23, 24, 25, 26, 27, 28, 8, 9, 6, 10, 29, 30, 31, 32, 33, 34, 35, 36, 37, 38, 39, 40, 41, 42, 43, 44, 45, 46, 47, 48, 49, 50, 51, 52, 53, 54, 55, 56, 57, 58, 59, 60, 61, 62, 63, 64, 65, 66, 67, 68, 69, 70, 71] (by decide +kernel) (by decide +kernel)
set_option maxRecDepth 20000 in
theorem gX5_receive_X5_tries : GoodIn wsX5_receive (wsV RX5 130 RX5 yX5_tries wsX5_tries) := goodIn_app (goodIn_of _ (by decide +kernel)) ggX5_receive_X5_tries
theorem dX5_receive_0 : decode cX5_receive 0 = .ok (.aload_n 0, 1) := by decide +kernel
theorem dX5_receive_1 : decode cX5_receive 1 = .ok (.iload_n 1, 1) := by decide +kernel
theorem dX5_receive_2 : decode cX5_receive 2 = .ok (.invokestatic 105, 3) := by decide +kernel
theorem dX5_receive_5 : decode cX5_receive 5 = .ok (.ifCond .ne 7, 3) := by decide +kernel
theorem dX5_receive_8 : decode cX5_receive 8 = .ok (.iconst 1, 1) := by decide +kernel
theorem dX5_receive_9 : decode cX5_receive 9 = .ok (.goto 32, 3) := by decide +kernel
theorem dX5_receive_12 : decode cX5_receive 12 = .ok (.iload_n 2, 1) := by decide +kernel
theorem dX5_receive_13 : decode cX5_receive 13 = .ok (.iconst 1, 1) := by decide +kernel
theorem dX5_receive_14 : decode cX5_receive 14 = .ok (.bipush 50, 2) := by decide +kernel
theorem dX5_receive_16 : decode cX5_receive 16 = .ok (.invokestatic 68, 3) := by decide +kernel
theorem dX5_receive_19 : decode cX5_receive 19 = .ok (.ifCond .ne 7, 3) := by decide +kernel
theorem dX5_receive_22 : decode cX5_receive 22 = .ok (.iconst 2, 1) := by decide +kernel
theorem dX5_receive_23 : decode cX5_receive 23 = .ok (.goto 18, 3) := by decide +kernel
theorem dX5_receive_26 : decode cX5_receive 26 = .ok (.aload_n 0, 1) := by decide +kernel
theorem dX5_receive_27 : decode cX5_receive 27 = .ok (.getfield 47, 3) := by decide +kernel
theorem dX5_receive_30 : decode cX5_receive 30 = .ok (.iload_n 1, 1) := by decide +kernel
theorem dX5_receive_31 : decode cX5_receive 31 = .ok (.iaload, 1) := by decide +kernel
theorem dX5_receive_32 : decode cX5_receive 32 = .ok (.iconst 1, 1) := by decide +kernel
theorem dX5_receive_33 : decode cX5_receive 33 = .ok (.if_icmp .ne 7, 3) := by decide +kernel
theorem dX5_receive_36 : decode cX5_receive 36 = .ok (.iconst 0, 1) := by decide +kernel
theorem dX5_receive_37 : decode cX5_receive 37 = .ok (.goto 4, 3) := by decide +kernel
theorem dX5_receive_40 : decode cX5_receive 40 = .ok (.iconst 3, 1) := by decide +kernel
theorem dX5_receive_41 : decode cX5_receive 41 = .ok (.invokevirtual 94, 3) := by decide +kernel
theorem dX5_receive_44 : decode cX5_receive 44 = .ok (.ifCond .eq 5, 3) := by decide +kernel
theorem dX5_receive_47 : decode cX5_receive 47 = .ok (.iconst 0, 1) := by decide +kernel
theorem dX5_receive_48 : decode cX5_receive 48 = .ok (.ireturn, 1) := by decide +kernel
theorem dX5_receive_49 : decode cX5_receive 49 = .ok (.iconst 0, 1) := by decide +kernel
theorem dX5_receive_50 : decode cX5_receive 50 = .ok (.istore_n 3, 1) := by decide +kernel
theorem dX5_receive_51 : decode cX5_receive 51 = .ok (.iload_n 3, 1) := by decide +kernel
theorem dX5_receive_52 : decode cX5_receive 52 = .ok (.iload_n 2, 1) := by decide +kernel
theorem dX5_receive_53 : decode cX5_receive 53 = .ok (.if_icmp .ge 60, 3) := by decide +kernel
theorem dX5_receive_56 : decode cX5_receive 56 = .ok (.aload_n 0, 1) := by decide +kernel
theorem dX5_receive_57 : decode cX5_receive 57 = .ok (.getfield 47, 3) := by decide +kernel
theorem dX5_receive_60 : decode cX5_receive 60 = .ok (.iload_n 1, 1) := by decide +kernel
theorem dX5_receive_61 : decode cX5_receive 61 = .ok (.iaload, 1) := by decide +kernel
theorem dX5_receive_62 : decode cX5_receive 62 = .ok (.iconst 1, 1) := by decide +kernel
theorem dX5_receive_63 : decode cX5_receive 63 = .ok (.if_icmp .ne 50, 3) := by decide +kernel
theorem dX5_receive_66 : decode cX5_receive 66 = .ok (.aload_n 0, 1) := by decide +kernel
theorem dX5_receive_67 : decode cX5_receive 67 = .ok (.getfield 50, 3) := by decide +kernel
theorem dX5_receive_70 : decode cX5_receive 70 = .ok (.iload_n 1, 1) := by decide +kernel
theorem dX5_receive_71 : decode cX5_receive 71 = .ok (.iaload, 1) := by decide +kernel
theorem dX5_receive_72 : decode cX5_receive 72 = .ok (.aload_n 0, 1) := by decide +kernel
theorem dX5_receive_73 : decode cX5_receive 73 = .ok (.getfield 76, 3) := by decide +kernel
theorem dX5_receive_76 : decode cX5_receive 76 = .ok (.if_icmp .ge 37, 3) := by decide +kernel
theorem dX5_receive_79 : decode cX5_receive 79 = .ok (.aload_n 0, 1) := by decide +kernel
theorem dX5_receive_80 : decode cX5_receive 80 = .ok (.iload_n 1, 1) := by decide +kernel
theorem dX5_receive_81 : decode cX5_receive 81 = .ok (.invokevirtual 130, 3) := by decide +kernel
theorem dX5_receive_84 : decode cX5_receive 84 = .ok (.ifCond .eq 19, 3) := by decide +kernel
theorem dX5_receive_87 : decode cX5_receive 87 = .ok (.aload_n 0, 1) := by decide +kernel
theorem dX5_receive_88 : decode cX5_receive 88 = .ok (.getfield 50, 3) := by decide +kernel
theorem dX5_receive_91 : decode cX5_receive 91 = .ok (.iload_n 1, 1) := by decide +kernel
theorem dX5_receive_92 : decode cX5_receive 92 = .ok (.dup2, 1) := by decide +kernel
theorem dX5_receive_93 : decode cX5_receive 93 = .ok (.iaload, 1) := by decide +kernel
theorem dX5_receive_94 : decode cX5_receive 94 = .ok (.iconst 1, 1) := by decide +kernel
theorem dX5_receive_95 : decode cX5_receive 95 = .ok (.iadd, 1) := by decide +kernel
theorem dX5_receive_96 : decode cX5_receive 96 = .ok (.iastore, 1) := by decide +kernel
theorem dX5_receive_97 : decode cX5_receive 97 = .ok (.iinc 3 1, 3) := by decide +kernel
theorem dX5_receive_100 : decode cX5_receive 100 = .ok (.goto (-49), 3) := by decide +kernel
theorem dX5_receive_103 : decode cX5_receive 103 = .ok (.aload_n 0, 1) := by decide +kernel
theorem dX5_receive_104 : decode cX5_receive 104 = .ok (.getfield 47, 3) := by decide +kernel
theorem dX5_receive_107 : decode cX5_receive 107 = .ok (.iload_n 1, 1) := by decide +kernel
theorem dX5_receive_108 : decode cX5_receive 108 = .ok (.iconst 2, 1) := by decide +kernel
theorem dX5_receive_109 : decode cX5_receive 109 = .ok (.iastore, 1) := by decide +kernel
theorem dX5_receive_110 : decode cX5_receive 110 = .ok (.goto (-59), 3) := by decide +kernel
theorem dX5_receive_113 : decode cX5_receive 113 = .ok (.iload_n 3, 1) := by decide +kernel
theorem dX5_receive_114 : decode cX5_receive 114 = .ok (.ireturn, 1) := by decide +kernel
set_option maxRecDepth 20000 in
theorem ggX5_goOn_X5_isThird : GoodIn wsX5_goOn wsX5_isThird := goodIn_r _ [6, 7, 8, 5, 9] (by decide +kernel) (by decide +kernel)
set_option maxRecDepth 20000 in
theorem gX5_goOn_X5_isThird : GoodIn wsX5_goOn (va_wsS RX5 105 yX5_isThird wsX5_isThird) := goodIn_app (goodIn_of _ (by decide +kernel)) ggX5_goOn_X5_isThird
set_option maxRecDepth 20000 in
theorem ggX5_goOn_X5_fails : GoodIn wsX5_goOn wsX5_fails := goodIn_r _ [13, 14, 15, 16, 17, 18, 19, 20, 21, 22, 23, 24, 25, 26, 27, 28, 29, 30, 31, 32, 33, 34] (by decide +kernel) (by decide +kernel)
set_option maxRecDepth 20000 in
theorem gX5_goOn_X5_fails : GoodIn wsX5_goOn (wsV RX5 94 RX5 yX5_fails wsX5_fails) := goodIn_app (goodIn_of _ (by decide +kernel)) ggX5_goOn_X5_fails
theorem dX5_goOn_0 : decode cX5_goOn 0 = .ok (.aload_n 0, 1) := by decide +kernel
theorem dX5_goOn_1 : decode cX5_goOn 1 = .ok (.iload_n 1, 1) := by decide +kernel
theorem dX5_goOn_2 : decode cX5_goOn 2 = .ok (.invokestatic 105, 3) := by decide +kernel
theorem dX5_goOn_5 : decode cX5_goOn 5 = .ok (.ifCond .ne 7, 3) := by decide +kernel
theorem dX5_goOn_8 : decode cX5_goOn 8 = .ok (.iconst 1, 1) := by decide +kernel
theorem dX5_goOn_9 : decode cX5_goOn 9 = .ok (.goto 18, 3) := by decide +kernel
theorem dX5_goOn_12 : decode cX5_goOn 12 = .ok (.aload_n 0, 1) := by decide +kernel
theorem dX5_goOn_13 : decode cX5_goOn 13 = .ok (.getfield 47, 3) := by decide +kernel
theorem dX5_goOn_16 : decode cX5_goOn 16 = .ok (.iload_n 1, 1) := by decide +kernel
theorem dX5_goOn_17 : decode cX5_goOn 17 = .ok (.iaload, 1) := by decide +kernel
theorem dX5_goOn_18 : decode cX5_goOn 18 = .ok (.iconst 2, 1) := by decide +kernel
theorem dX5_goOn_19 : decode cX5_goOn 19 = .ok (.if_icmp .ne 7, 3) := by decide +kernel
theorem dX5_goOn_22 : decode cX5_goOn 22 = .ok (.iconst 0, 1) := by decide +kernel
theorem dX5_goOn_23 : decode cX5_goOn 23 = .ok (.goto 4, 3) := by decide +kernel
theorem dX5_goOn_26 : decode cX5_goOn 26 = .ok (.iconst 2, 1) := by decide +kernel
theorem dX5_goOn_27 : decode cX5_goOn 27 = .ok (.invokevirtual 94, 3) := by decide +kernel
theorem dX5_goOn_30 : decode cX5_goOn 30 = .ok (.ifCond .eq 5, 3) := by decide +kernel
theorem dX5_goOn_33 : decode cX5_goOn 33 = .ok (.iconst 0, 1) := by decide +kernel
theorem dX5_goOn_34 : decode cX5_goOn 34 = .ok (.ireturn, 1) := by decide +kernel
theorem dX5_goOn_35 : decode cX5_goOn 35 = .ok (.aload_n 0, 1) := by decide +kernel
theorem dX5_goOn_36 : decode cX5_goOn 36 = .ok (.getfield 47, 3) := by decide +kernel
theorem dX5_goOn_39 : decode cX5_goOn 39 = .ok (.iload_n 1, 1) := by decide +kernel
theorem dX5_goOn_40 : decode cX5_goOn 40 = .ok (.iconst 1, 1) := by decide +kernel
theorem dX5_goOn_41 : decode cX5_goOn 41 = .ok (.iastore, 1) := by decide +kernel
theorem dX5_goOn_42 : decode cX5_goOn 42 = .ok (.aload_n 0, 1) := by decide +kernel
theorem dX5_goOn_43 : decode cX5_goOn 43 = .ok (.getfield 50, 3) := by decide +kernel
theorem dX5_goOn_46 : decode cX5_goOn 46 = .ok (.iload_n 1, 1) := by decide +kernel
theorem dX5_goOn_47 : decode cX5_goOn 47 = .ok (.dup2, 1) := by decide +kernel
theorem dX5_goOn_48 : decode cX5_goOn 48 = .ok (.iaload, 1) := by decide +kernel
theorem dX5_goOn_49 : decode cX5_goOn 49 = .ok (.iload_n 2, 1) := by decide +kernel
theorem dX5_goOn_50 : decode cX5_goOn 50 = .ok (.ifCond .eq 7, 3) := by decide +kernel
theorem dX5_goOn_53 : decode cX5_goOn 53 = .ok (.iconst 1, 1) := by decide +kernel
theorem dX5_goOn_54 : decode cX5_goOn 54 = .ok (.goto 4, 3) := by decide +kernel
theorem dX5_goOn_57 : decode cX5_goOn 57 = .ok (.iconst 0, 1) := by decide +kernel
theorem dX5_goOn_58 : decode cX5_goOn 58 = .ok (.iadd, 1) := by decide +kernel
theorem dX5_goOn_59 : decode cX5_goOn 59 = .ok (.iastore, 1) := by decide +kernel
theorem dX5_goOn_60 : decode cX5_goOn 60 = .ok (.aload_n 0, 1) := by decide +kernel
theorem dX5_goOn_61 : decode cX5_goOn 61 = .ok (.getfield 50, 3) := by decide +kernel
theorem dX5_goOn_64 : decode cX5_goOn 64 = .ok (.iload_n 1, 1) := by decide +kernel
theorem dX5_goOn_65 : decode cX5_goOn 65 = .ok (.iaload, 1) := by decide +kernel
theorem dX5_goOn_66 : decode cX5_goOn 66 = .ok (.ireturn, 1) := by decide +kernel
set_option maxRecDepth 20000 in
theorem ggX5_own_X5_isThird : GoodIn wsX5_own wsX5_isThird := goodIn_r _ [5, 6, 7, 4, 8] (by decide +kernel) (by decide +kernel)
set_option maxRecDepth 20000 in
theorem gX5_own_X5_isThird : GoodIn wsX5_own (va_wsS RX5 105 yX5_isThird wsX5_isThird) := goodIn_app (goodIn_of _ (by decide +kernel)) ggX5_own_X5_isThird
set_option maxRecDepth 20000 in
theorem ggX5_own_X5_isRow : GoodIn wsX5_own wsX5_isRow := goodIn_r _ [11, 12, 13, 4, 14, 6, 7, 8] (by decide +kernel) (by decide +kernel)
set_option maxRecDepth 20000 in
theorem gX5_own_X5_isRow : GoodIn wsX5_own (va_wsS RX5 86 yX5_isRow wsX5_isRow) := goodIn_app (goodIn_of _ (by decide +kernel)) ggX5_own_X5_isRow
set_option maxRecDepth 20000 in
theorem ggX5_own_X5_isIn : GoodIn wsX5_own wsX5_isIn := goodIn_r _ [8] (by decide +kernel) (by decide +kernel)
set_option maxRecDepth 20000 in
theorem gX5_own_X5_isIn : GoodIn wsX5_own (va_wsS RX5 68 yX5_isIn wsX5_isIn) := goodIn_app (goodIn_of _ (by decide +kernel)) ggX5_own_X5_isIn
set_option maxRecDepth 20000 in
theorem ggX5_own_X5_fails : GoodIn wsX5_own wsX5_fails := goodIn_r _ [18, 19, 20, 21, 22, 23, 24, 25, 26, 27, 28, 29, 30, 31, 32, 33, 34, 35, 36, 37, 38, 39] (by decide +kernel) (by decide +kernel)
set_option maxRecDepth 20000 in
theorem gX5_own_X5_fails : GoodIn wsX5_own (wsV RX5 94 RX5 yX5_fails wsX5_fails) := goodIn_app (goodIn_of _ (by decide +kernel)) ggX5_own_X5_fails
theorem dX5_own_0 : decode cX5_own 0 = .ok (.aload_n 0, 1) := by decide +kernel
theorem dX5_own_1 : decode cX5_own 1 = .ok (.iload_n 1, 1) := by decide +kernel
theorem dX5_own_2 : decode cX5_own 2 = .ok (.invokestatic 105, 3) := by decide +kernel
theorem dX5_own_5 : decode cX5_own 5 = .ok (.ifCond .eq 11, 3) := by decide +kernel
theorem dX5_own_8 : decode cX5_own 8 = .ok (.iload_n 2, 1) := by decide +kernel
theorem dX5_own_9 : decode cX5_own 9 = .ok (.iload_n 3, 1) := by decide +kernel
theorem dX5_own_10 : decode cX5_own 10 = .ok (.invokestatic 86, 3) := by decide +kernel
theorem dX5_own_13 : decode cX5_own 13 = .ok (.ifCond .ne 7, 3) := by decide +kernel
theorem dX5_own_16 : decode cX5_own 16 = .ok (.iconst 1, 1) := by decide +kernel
theorem dX5_own_17 : decode cX5_own 17 = .ok (.goto 19, 3) := by decide +kernel
theorem dX5_own_20 : decode cX5_own 20 = .ok (.iload 4, 2) := by decide +kernel
theorem dX5_own_22 : decode cX5_own 22 = .ok (.iconst (-1), 1) := by decide +kernel
theorem dX5_own_23 : decode cX5_own 23 = .ok (.bipush 99, 2) := by decide +kernel
theorem dX5_own_25 : decode cX5_own 25 = .ok (.invokestatic 68, 3) := by decide +kernel
theorem dX5_own_28 : decode cX5_own 28 = .ok (.ifCond .eq 7, 3) := by decide +kernel
theorem dX5_own_31 : decode cX5_own 31 = .ok (.iconst 0, 1) := by decide +kernel
theorem dX5_own_32 : decode cX5_own 32 = .ok (.goto 4, 3) := by decide +kernel
theorem dX5_own_35 : decode cX5_own 35 = .ok (.iconst 2, 1) := by decide +kernel
theorem dX5_own_36 : decode cX5_own 36 = .ok (.invokevirtual 94, 3) := by decide +kernel
theorem dX5_own_39 : decode cX5_own 39 = .ok (.ifCond .eq 5, 3) := by decide +kernel
theorem dX5_own_42 : decode cX5_own 42 = .ok (.iconst 0, 1) := by decide +kernel
theorem dX5_own_43 : decode cX5_own 43 = .ok (.ireturn, 1) := by decide +kernel
theorem dX5_own_44 : decode cX5_own 44 = .ok (.bipush 24, 2) := by decide +kernel
theorem dX5_own_46 : decode cX5_own 46 = .ok (.iload_n 1, 1) := by decide +kernel
theorem dX5_own_47 : decode cX5_own 47 = .ok (.imul, 1) := by decide +kernel
theorem dX5_own_48 : decode cX5_own 48 = .ok (.bipush 12, 2) := by decide +kernel
theorem dX5_own_50 : decode cX5_own 50 = .ok (.iload_n 2, 1) := by decide +kernel
theorem dX5_own_51 : decode cX5_own 51 = .ok (.imul, 1) := by decide +kernel
theorem dX5_own_52 : decode cX5_own 52 = .ok (.iadd, 1) := by decide +kernel
theorem dX5_own_53 : decode cX5_own 53 = .ok (.iload_n 3, 1) := by decide +kernel
theorem dX5_own_54 : decode cX5_own 54 = .ok (.iadd, 1) := by decide +kernel
theorem dX5_own_55 : decode cX5_own 55 = .ok (.istore 5, 2) := by decide +kernel
theorem dX5_own_57 : decode cX5_own 57 = .ok (.aload_n 0, 1) := by decide +kernel
theorem dX5_own_58 : decode cX5_own 58 = .ok (.getfield 56, 3) := by decide +kernel
theorem dX5_own_61 : decode cX5_own 61 = .ok (.iload 5, 2) := by decide +kernel
theorem dX5_own_63 : decode cX5_own 63 = .ok (.iaload, 1) := by decide +kernel
theorem dX5_own_64 : decode cX5_own 64 = .ok (.iconst (-1), 1) := by decide +kernel
theorem dX5_own_65 : decode cX5_own 65 = .ok (.if_icmp .eq 7, 3) := by decide +kernel
theorem dX5_own_68 : decode cX5_own 68 = .ok (.iconst 1, 1) := by decide +kernel
theorem dX5_own_69 : decode cX5_own 69 = .ok (.goto 4, 3) := by decide +kernel
theorem dX5_own_72 : decode cX5_own 72 = .ok (.iconst 0, 1) := by decide +kernel
theorem dX5_own_73 : decode cX5_own 73 = .ok (.istore 6, 2) := by decide +kernel
theorem dX5_own_75 : decode cX5_own 75 = .ok (.aload_n 0, 1) := by decide +kernel
theorem dX5_own_76 : decode cX5_own 76 = .ok (.getfield 56, 3) := by decide +kernel
theorem dX5_own_79 : decode cX5_own 79 = .ok (.iload 5, 2) := by decide +kernel
theorem dX5_own_81 : decode cX5_own 81 = .ok (.iload 4, 2) := by decide +kernel
theorem dX5_own_83 : decode cX5_own 83 = .ok (.iconst (-1), 1) := by decide +kernel
theorem dX5_own_84 : decode cX5_own 84 = .ok (.if_icmp .ne 7, 3) := by decide +kernel
theorem dX5_own_87 : decode cX5_own 87 = .ok (.iconst (-1), 1) := by decide +kernel
theorem dX5_own_88 : decode cX5_own 88 = .ok (.goto 9, 3) := by decide +kernel
theorem dX5_own_91 : decode cX5_own 91 = .ok (.sipush 10101, 3) := by decide +kernel
theorem dX5_own_94 : decode cX5_own 94 = .ok (.iload 4, 2) := by decide +kernel
theorem dX5_own_96 : decode cX5_own 96 = .ok (.imul, 1) := by decide +kernel
theorem dX5_own_97 : decode cX5_own 97 = .ok (.iastore, 1) := by decide +kernel
theorem dX5_own_98 : decode cX5_own 98 = .ok (.iload 6, 2) := by decide +kernel
theorem dX5_own_100 : decode cX5_own 100 = .ok (.ireturn, 1) := by decide +kernel
set_option maxRecDepth 20000 in
theorem ggX5_state_X5_isThird : GoodIn wsX5_state wsX5_isThird := goodIn_r _ [5, 6, 7, 4, 8] (by decide +kernel) (by decide +kernel)
set_option maxRecDepth 20000 in
theorem gX5_state_X5_isThird : GoodIn wsX5_state (va_wsS RX5 105 yX5_isThird wsX5_isThird) := goodIn_app (goodIn_of _ (by decide +kernel)) ggX5_state_X5_isThird
set_option maxRecDepth 20000 in
theorem ggX5_state_X5_fails : GoodIn wsX5_state wsX5_fails := goodIn_r _ [12, 13, 14, 15, 16, 17, 18, 19, 20, 21, 22, 23, 24, 25, 26, 27, 28, 29, 30, 31, 32, 33] (by decide +kernel) (by decide +kernel)
set_option maxRecDepth 20000 in
theorem gX5_state_X5_fails : GoodIn wsX5_state (wsV RX5 94 RX5 yX5_fails wsX5_fails) := goodIn_app (goodIn_of _ (by decide +kernel)) ggX5_state_X5_fails
theorem dX5_state_0 : decode cX5_state 0 = .ok (.aload_n 0, 1) := by decide +kernel
theorem dX5_state_1 : decode cX5_state 1 = .ok (.iload_n 1, 1) := by decide +kernel
theorem dX5_state_2 : decode cX5_state 2 = .ok (.invokestatic 105, 3) := by decide +kernel
theorem dX5_state_5 : decode cX5_state 5 = .ok (.ifCond .eq 7, 3) := by decide +kernel
theorem dX5_state_8 : decode cX5_state 8 = .ok (.iconst 0, 1) := by decide +kernel
theorem dX5_state_9 : decode cX5_state 9 = .ok (.goto 4, 3) := by decide +kernel
theorem dX5_state_12 : decode cX5_state 12 = .ok (.iconst 1, 1) := by decide +kernel
theorem dX5_state_13 : decode cX5_state 13 = .ok (.invokevirtual 94, 3) := by decide +kernel
theorem dX5_state_16 : decode cX5_state 16 = .ok (.ifCond .eq 7, 3) := by decide +kernel
theorem dX5_state_19 : decode cX5_state 19 = .ok (.iconst 0, 1) := by decide +kernel
theorem dX5_state_20 : decode cX5_state 20 = .ok (.goto 9, 3) := by decide +kernel
theorem dX5_state_23 : decode cX5_state 23 = .ok (.aload_n 0, 1) := by decide +kernel
theorem dX5_state_24 : decode cX5_state 24 = .ok (.getfield 47, 3) := by decide +kernel
theorem dX5_state_27 : decode cX5_state 27 = .ok (.iload_n 1, 1) := by decide +kernel
theorem dX5_state_28 : decode cX5_state 28 = .ok (.iaload, 1) := by decide +kernel
theorem dX5_state_29 : decode cX5_state 29 = .ok (.ireturn, 1) := by decide +kernel
set_option maxRecDepth 20000 in
theorem ggX5_lag_X5_isThird : GoodIn wsX5_lag wsX5_isThird := goodIn_r _ [7, 8, 9, 6, 10] (by decide +kernel) (by decide +kernel)
set_option maxRecDepth 20000 in
theorem gX5_lag_X5_isThird : GoodIn wsX5_lag (va_wsS RX5 105 yX5_isThird wsX5_isThird) := goodIn_app (goodIn_of _ (by decide +kernel)) ggX5_lag_X5_isThird
set_option maxRecDepth 20000 in
theorem ggX5_lag_X5_fails : GoodIn wsX5_lag wsX5_fails := goodIn_r _ [14, 15, 16, 17, 18, 19, 20, 21, 22, 23, 24, 25, 26, 27, 28, 29, 30, 31, 32, 33, 34, 35] (by decide +kernel) (by decide +kernel)
set_option maxRecDepth 20000 in
theorem gX5_lag_X5_fails : GoodIn wsX5_lag (wsV RX5 94 RX5 yX5_fails wsX5_fails) := goodIn_app (goodIn_of _ (by decide +kernel)) ggX5_lag_X5_fails
set_option maxRecDepth 20000 in
theorem ggX5_lag_X5_isIn : GoodIn wsX5_lag wsX5_isIn := goodIn_r _ [10] (by decide +kernel) (by decide +kernel)
set_option maxRecDepth 20000 in
theorem gX5_lag_X5_isIn : GoodIn wsX5_lag (va_wsS RX5 68 yX5_isIn wsX5_isIn) := goodIn_app (goodIn_of _ (by decide +kernel)) ggX5_lag_X5_isIn
theorem dX5_lag_0 : decode cX5_lag 0 = .ok (.aload_n 0, 1) := by decide +kernel
theorem dX5_lag_1 : decode cX5_lag 1 = .ok (.iload_n 1, 1) := by decide +kernel
theorem dX5_lag_2 : decode cX5_lag 2 = .ok (.invokestatic 105, 3) := by decide +kernel
theorem dX5_lag_5 : decode cX5_lag 5 = .ok (.ifCond .eq 7, 3) := by decide +kernel
theorem dX5_lag_8 : decode cX5_lag 8 = .ok (.iconst 0, 1) := by decide +kernel
theorem dX5_lag_9 : decode cX5_lag 9 = .ok (.goto 4, 3) := by decide +kernel
theorem dX5_lag_12 : decode cX5_lag 12 = .ok (.iconst 1, 1) := by decide +kernel
theorem dX5_lag_13 : decode cX5_lag 13 = .ok (.invokevirtual 94, 3) := by decide +kernel
theorem dX5_lag_16 : decode cX5_lag 16 = .ok (.ifCond .eq 7, 3) := by decide +kernel
theorem dX5_lag_19 : decode cX5_lag 19 = .ok (.iconst 0, 1) := by decide +kernel
theorem dX5_lag_20 : decode cX5_lag 20 = .ok (.goto 32, 3) := by decide +kernel
theorem dX5_lag_23 : decode cX5_lag 23 = .ok (.aload_n 0, 1) := by decide +kernel
theorem dX5_lag_24 : decode cX5_lag 24 = .ok (.getfield 47, 3) := by decide +kernel
theorem dX5_lag_27 : decode cX5_lag 27 = .ok (.iload_n 1, 1) := by decide +kernel
theorem dX5_lag_28 : decode cX5_lag 28 = .ok (.iaload, 1) := by decide +kernel
theorem dX5_lag_29 : decode cX5_lag 29 = .ok (.iconst 1, 1) := by decide +kernel
theorem dX5_lag_30 : decode cX5_lag 30 = .ok (.iconst 2, 1) := by decide +kernel
theorem dX5_lag_31 : decode cX5_lag 31 = .ok (.invokestatic 68, 3) := by decide +kernel
theorem dX5_lag_34 : decode cX5_lag 34 = .ok (.ifCond .eq 17, 3) := by decide +kernel
theorem dX5_lag_37 : decode cX5_lag 37 = .ok (.aload_n 0, 1) := by decide +kernel
theorem dX5_lag_38 : decode cX5_lag 38 = .ok (.getfield 76, 3) := by decide +kernel
theorem dX5_lag_41 : decode cX5_lag 41 = .ok (.aload_n 0, 1) := by decide +kernel
theorem dX5_lag_42 : decode cX5_lag 42 = .ok (.getfield 50, 3) := by decide +kernel
theorem dX5_lag_45 : decode cX5_lag 45 = .ok (.iload_n 1, 1) := by decide +kernel
theorem dX5_lag_46 : decode cX5_lag 46 = .ok (.iaload, 1) := by decide +kernel
theorem dX5_lag_47 : decode cX5_lag 47 = .ok (.isub, 1) := by decide +kernel
theorem dX5_lag_48 : decode cX5_lag 48 = .ok (.goto 4, 3) := by decide +kernel
theorem dX5_lag_51 : decode cX5_lag 51 = .ok (.iconst 0, 1) := by decide +kernel
theorem dX5_lag_52 : decode cX5_lag 52 = .ok (.ireturn, 1) := by decide +kernel
set_option maxRecDepth 20000 in
theorem ggX5_copiedAt_X5_isThird : GoodIn wsX5_copiedAt wsX5_isThird := goodIn_r _ [5, 6, 7, 4, 8] (by decide +kernel) (by decide +kernel)
set_option maxRecDepth 20000 in
theorem gX5_copiedAt_X5_isThird : GoodIn wsX5_copiedAt (va_wsS RX5 105 yX5_isThird wsX5_isThird) := goodIn_app (goodIn_of _ (by decide +kernel)) ggX5_copiedAt_X5_isThird
set_option maxRecDepth 20000 in
theorem ggX5_copiedAt_X5_isTable : GoodIn wsX5_copiedAt wsX5_isTable := goodIn_r _ [11, 6, 7, 4, 8] (by decide +kernel) (by decide +kernel)
set_option maxRecDepth 20000 in
theorem gX5_copiedAt_X5_isTable : GoodIn wsX5_copiedAt (va_wsS RX5 72 yX5_isTable wsX5_isTable) := goodIn_app (goodIn_of _ (by decide +kernel)) ggX5_copiedAt_X5_isTable
set_option maxRecDepth 20000 in
theorem ggX5_copiedAt_X5_fails : GoodIn wsX5_copiedAt wsX5_fails := goodIn_r _ [15, 16, 17, 18, 19, 20, 21, 22, 23, 24, 25, 26, 27, 28, 29, 30, 31, 32, 33, 34, 35, 36] (by decide +kernel) (by decide +kernel)
set_option maxRecDepth 20000 in
theorem gX5_copiedAt_X5_fails : GoodIn wsX5_copiedAt (wsV RX5 94 RX5 yX5_fails wsX5_fails) := goodIn_app (goodIn_of _ (by decide +kernel)) ggX5_copiedAt_X5_fails
theorem dX5_copiedAt_0 : decode cX5_copiedAt 0 = .ok (.aload_n 0, 1) := by decide +kernel
theorem dX5_copiedAt_1 : decode cX5_copiedAt 1 = .ok (.iload_n 1, 1) := by decide +kernel
theorem dX5_copiedAt_2 : decode cX5_copiedAt 2 = .ok (.invokestatic 105, 3) := by decide +kernel
theorem dX5_copiedAt_5 : decode cX5_copiedAt 5 = .ok (.ifCond .eq 14, 3) := by decide +kernel
theorem dX5_copiedAt_8 : decode cX5_copiedAt 8 = .ok (.iload_n 2, 1) := by decide +kernel
theorem dX5_copiedAt_9 : decode cX5_copiedAt 9 = .ok (.invokestatic 72, 3) := by decide +kernel
theorem dX5_copiedAt_12 : decode cX5_copiedAt 12 = .ok (.ifCond .eq 7, 3) := by decide +kernel
theorem dX5_copiedAt_15 : decode cX5_copiedAt 15 = .ok (.iconst 0, 1) := by decide +kernel
theorem dX5_copiedAt_16 : decode cX5_copiedAt 16 = .ok (.goto 4, 3) := by decide +kernel
theorem dX5_copiedAt_19 : decode cX5_copiedAt 19 = .ok (.iconst 1, 1) := by decide +kernel
theorem dX5_copiedAt_20 : decode cX5_copiedAt 20 = .ok (.invokevirtual 94, 3) := by decide +kernel
theorem dX5_copiedAt_23 : decode cX5_copiedAt 23 = .ok (.ifCond .eq 7, 3) := by decide +kernel
theorem dX5_copiedAt_26 : decode cX5_copiedAt 26 = .ok (.iconst 0, 1) := by decide +kernel
theorem dX5_copiedAt_27 : decode cX5_copiedAt 27 = .ok (.goto 13, 3) := by decide +kernel
theorem dX5_copiedAt_30 : decode cX5_copiedAt 30 = .ok (.aload_n 0, 1) := by decide +kernel
theorem dX5_copiedAt_31 : decode cX5_copiedAt 31 = .ok (.getfield 53, 3) := by decide +kernel
theorem dX5_copiedAt_34 : decode cX5_copiedAt 34 = .ok (.iconst 2, 1) := by decide +kernel
theorem dX5_copiedAt_35 : decode cX5_copiedAt 35 = .ok (.iload_n 1, 1) := by decide +kernel
theorem dX5_copiedAt_36 : decode cX5_copiedAt 36 = .ok (.imul, 1) := by decide +kernel
theorem dX5_copiedAt_37 : decode cX5_copiedAt 37 = .ok (.iload_n 2, 1) := by decide +kernel
theorem dX5_copiedAt_38 : decode cX5_copiedAt 38 = .ok (.iadd, 1) := by decide +kernel
theorem dX5_copiedAt_39 : decode cX5_copiedAt 39 = .ok (.iaload, 1) := by decide +kernel
theorem dX5_copiedAt_40 : decode cX5_copiedAt 40 = .ok (.ireturn, 1) := by decide +kernel
set_option maxRecDepth 20000 in
theorem ggX5_seen_X5_isThird : GoodIn wsX5_seen wsX5_isThird := goodIn_r _ [5, 6, 7, 4, 8] (by decide +kernel) (by decide +kernel)
set_option maxRecDepth 20000 in
theorem gX5_seen_X5_isThird : GoodIn wsX5_seen (va_wsS RX5 105 yX5_isThird wsX5_isThird) := goodIn_app (goodIn_of _ (by decide +kernel)) ggX5_seen_X5_isThird
set_option maxRecDepth 20000 in
theorem ggX5_seen_X5_isRow : GoodIn wsX5_seen wsX5_isRow := goodIn_r _ [11, 12, 13, 4, 14, 6, 7, 8] (by decide +kernel) (by decide +kernel)
set_option maxRecDepth 20000 in
theorem gX5_seen_X5_isRow : GoodIn wsX5_seen (va_wsS RX5 86 yX5_isRow wsX5_isRow) := goodIn_app (goodIn_of _ (by decide +kernel)) ggX5_seen_X5_isRow
set_option maxRecDepth 20000 in
theorem ggX5_seen_X5_fails : GoodIn wsX5_seen wsX5_fails := goodIn_r _ [18, 19, 23, 24, 25, 26, 27, 28, 29, 30, 31, 32, 33, 34, 35, 36, 37, 38, 39, 40, 41, 42] (by decide +kernel) (by decide +kernel)
set_option maxRecDepth 20000 in
theorem gX5_seen_X5_fails : GoodIn wsX5_seen (wsV RX5 94 RX5 yX5_fails wsX5_fails) := goodIn_app (goodIn_of _ (by decide +kernel)) ggX5_seen_X5_fails
set_option maxRecDepth 20000 in
theorem ggX5_seen_X5_numberOf : GoodIn wsX5_seen wsX5_numberOf := goodIn_r _ [22] (by decide +kernel) (by decide +kernel)
set_option maxRecDepth 20000 in
theorem gX5_seen_X5_numberOf : GoodIn wsX5_seen (va_wsS RX5 108 yX5_numberOf wsX5_numberOf) := goodIn_app (goodIn_of _ (by decide +kernel)) ggX5_seen_X5_numberOf
theorem dX5_seen_0 : decode cX5_seen 0 = .ok (.iload_n 1, 1) := by decide +kernel
theorem dX5_seen_1 : decode cX5_seen 1 = .ok (.invokestatic 105, 3) := by decide +kernel
theorem dX5_seen_4 : decode cX5_seen 4 = .ok (.ifCond .eq 23, 3) := by decide +kernel
theorem dX5_seen_7 : decode cX5_seen 7 = .ok (.iload_n 2, 1) := by decide +kernel
theorem dX5_seen_8 : decode cX5_seen 8 = .ok (.iload_n 3, 1) := by decide +kernel
theorem dX5_seen_9 : decode cX5_seen 9 = .ok (.invokestatic 86, 3) := by decide +kernel
theorem dX5_seen_12 : decode cX5_seen 12 = .ok (.ifCond .eq 15, 3) := by decide +kernel
theorem dX5_seen_15 : decode cX5_seen 15 = .ok (.iload 4, 2) := by decide +kernel
theorem dX5_seen_17 : decode cX5_seen 17 = .ok (.invokestatic 105, 3) := by decide +kernel
theorem dX5_seen_20 : decode cX5_seen 20 = .ok (.ifCond .eq 7, 3) := by decide +kernel
theorem dX5_seen_23 : decode cX5_seen 23 = .ok (.iconst 1, 1) := by decide +kernel
theorem dX5_seen_24 : decode cX5_seen 24 = .ok (.goto 4, 3) := by decide +kernel
theorem dX5_seen_27 : decode cX5_seen 27 = .ok (.iconst 0, 1) := by decide +kernel
theorem dX5_seen_28 : decode cX5_seen 28 = .ok (.istore 5, 2) := by decide +kernel
theorem dX5_seen_30 : decode cX5_seen 30 = .ok (.aload_n 0, 1) := by decide +kernel
theorem dX5_seen_31 : decode cX5_seen 31 = .ok (.iload 5, 2) := by decide +kernel
theorem dX5_seen_33 : decode cX5_seen 33 = .ok (.ifCond .eq 7, 3) := by decide +kernel
theorem dX5_seen_36 : decode cX5_seen 36 = .ok (.iconst 0, 1) := by decide +kernel
theorem dX5_seen_37 : decode cX5_seen 37 = .ok (.goto 4, 3) := by decide +kernel
theorem dX5_seen_40 : decode cX5_seen 40 = .ok (.iconst 1, 1) := by decide +kernel
theorem dX5_seen_41 : decode cX5_seen 41 = .ok (.invokevirtual 94, 3) := by decide +kernel
theorem dX5_seen_44 : decode cX5_seen 44 = .ok (.ifCond .eq 7, 3) := by decide +kernel
theorem dX5_seen_47 : decode cX5_seen 47 = .ok (.iconst 0, 1) := by decide +kernel
theorem dX5_seen_48 : decode cX5_seen 48 = .ok (.goto 24, 3) := by decide +kernel
theorem dX5_seen_51 : decode cX5_seen 51 = .ok (.aload_n 0, 1) := by decide +kernel
theorem dX5_seen_52 : decode cX5_seen 52 = .ok (.getfield 56, 3) := by decide +kernel
theorem dX5_seen_55 : decode cX5_seen 55 = .ok (.bipush 24, 2) := by decide +kernel
theorem dX5_seen_57 : decode cX5_seen 57 = .ok (.iload_n 1, 1) := by decide +kernel
theorem dX5_seen_58 : decode cX5_seen 58 = .ok (.imul, 1) := by decide +kernel
theorem dX5_seen_59 : decode cX5_seen 59 = .ok (.bipush 12, 2) := by decide +kernel
theorem dX5_seen_61 : decode cX5_seen 61 = .ok (.iload_n 2, 1) := by decide +kernel
theorem dX5_seen_62 : decode cX5_seen 62 = .ok (.imul, 1) := by decide +kernel
theorem dX5_seen_63 : decode cX5_seen 63 = .ok (.iadd, 1) := by decide +kernel
theorem dX5_seen_64 : decode cX5_seen 64 = .ok (.iload_n 3, 1) := by decide +kernel
theorem dX5_seen_65 : decode cX5_seen 65 = .ok (.iadd, 1) := by decide +kernel
theorem dX5_seen_66 : decode cX5_seen 66 = .ok (.iaload, 1) := by decide +kernel
theorem dX5_seen_67 : decode cX5_seen 67 = .ok (.iload 4, 2) := by decide +kernel
theorem dX5_seen_69 : decode cX5_seen 69 = .ok (.invokestatic 108, 3) := by decide +kernel
theorem dX5_seen_72 : decode cX5_seen 72 = .ok (.ireturn, 1) := by decide +kernel
set_option maxRecDepth 20000 in
theorem ggX5_isFaithful_X5_isThird : GoodIn wsX5_isFaithful wsX5_isThird := goodIn_r _ [9, 10, 11, 8, 12] (by decide +kernel) (by decide +kernel)
set_option maxRecDepth 20000 in
theorem gX5_isFaithful_X5_isThird : GoodIn wsX5_isFaithful (va_wsS RX5 105 yX5_isThird wsX5_isThird) := goodIn_app (goodIn_of _ (by decide +kernel)) ggX5_isFaithful_X5_isThird
set_option maxRecDepth 20000 in
theorem ggX5_isFaithful_X5_isTable : GoodIn wsX5_isFaithful wsX5_isTable := goodIn_r _ [15, 10, 11, 8, 12] (by decide +kernel) (by decide +kernel)
set_option maxRecDepth 20000 in
theorem gX5_isFaithful_X5_isTable : GoodIn wsX5_isFaithful (va_wsS RX5 72 yX5_isTable wsX5_isTable) := goodIn_app (goodIn_of _ (by decide +kernel)) ggX5_isFaithful_X5_isTable
set_option maxRecDepth 20000 in
theorem ggX5_isFaithful_X5_isIn : GoodIn wsX5_isFaithful wsX5_isIn := goodIn_r _ [12] (by decide +kernel) (by decide +kernel)
set_option maxRecDepth 20000 in
theorem gX5_isFaithful_X5_isIn : GoodIn wsX5_isFaithful (va_wsS RX5 68 yX5_isIn wsX5_isIn) := goodIn_app (goodIn_of _ (by decide +kernel)) ggX5_isFaithful_X5_isIn
set_option maxRecDepth 20000 in
theorem ggX5_isFaithful_X5_fails : GoodIn wsX5_isFaithful wsX5_fails := goodIn_r _ [19, 20, 41, 42, 43, 44, 45, 46, 47, 48, 49, 50, 51, 52, 53, 54, 55, 56, 57, 58, 59, 60] (by decide +kernel) (by decide +kernel)
set_option maxRecDepth 20000 in
theorem gX5_isFaithful_X5_fails : GoodIn wsX5_isFaithful (wsV RX5 94 RX5 yX5_fails wsX5_fails) := goodIn_app (goodIn_of _ (by decide +kernel)) ggX5_isFaithful_X5_fails
set_option maxRecDepth 20000 in
theorem ggX5_isFaithful_X5_chosenAt : GoodIn wsX5_isFaithful wsX5_chosenAt := goodIn_r _ [24, 25, 26, 27, 28, 8, 29, 30, 31, 32, 33, 34, 35, 36, 37, 38, 39, 40, 41, 42, 43, 44, 45, 46, 47, 48, 49, 50, 51, 52, 53, 54, 55, 56, 57, 58, 59, 60] (by decide +kernel) (by decide +kernel)
set_option maxRecDepth 20000 in
theorem gX5_isFaithful_X5_chosenAt : GoodIn wsX5_isFaithful (wsV RX5 122 RX5 yX5_chosenAt wsX5_chosenAt) := goodIn_app (goodIn_of _ (by decide +kernel)) ggX5_isFaithful_X5_chosenAt
theorem dX5_isFaithful_0 : decode cX5_isFaithful 0 = .ok (.iload_n 1, 1) := by decide +kernel
theorem dX5_isFaithful_1 : decode cX5_isFaithful 1 = .ok (.invokestatic 105, 3) := by decide +kernel
theorem dX5_isFaithful_4 : decode cX5_isFaithful 4 = .ok (.ifCond .eq 14, 3) := by decide +kernel
theorem dX5_isFaithful_7 : decode cX5_isFaithful 7 = .ok (.iload_n 2, 1) := by decide +kernel
theorem dX5_isFaithful_8 : decode cX5_isFaithful 8 = .ok (.invokestatic 72, 3) := by decide +kernel
theorem dX5_isFaithful_11 : decode cX5_isFaithful 11 = .ok (.ifCond .eq 7, 3) := by decide +kernel
theorem dX5_isFaithful_14 : decode cX5_isFaithful 14 = .ok (.iconst 1, 1) := by decide +kernel
theorem dX5_isFaithful_15 : decode cX5_isFaithful 15 = .ok (.goto 4, 3) := by decide +kernel
theorem dX5_isFaithful_18 : decode cX5_isFaithful 18 = .ok (.iconst 0, 1) := by decide +kernel
theorem dX5_isFaithful_19 : decode cX5_isFaithful 19 = .ok (.istore_n 3, 1) := by decide +kernel
theorem dX5_isFaithful_20 : decode cX5_isFaithful 20 = .ok (.aload_n 0, 1) := by decide +kernel
theorem dX5_isFaithful_21 : decode cX5_isFaithful 21 = .ok (.iload_n 3, 1) := by decide +kernel
theorem dX5_isFaithful_22 : decode cX5_isFaithful 22 = .ok (.ifCond .ne 7, 3) := by decide +kernel
theorem dX5_isFaithful_25 : decode cX5_isFaithful 25 = .ok (.iconst 1, 1) := by decide +kernel
theorem dX5_isFaithful_26 : decode cX5_isFaithful 26 = .ok (.goto 36, 3) := by decide +kernel
theorem dX5_isFaithful_29 : decode cX5_isFaithful 29 = .ok (.aload_n 0, 1) := by decide +kernel
theorem dX5_isFaithful_30 : decode cX5_isFaithful 30 = .ok (.getfield 47, 3) := by decide +kernel
theorem dX5_isFaithful_33 : decode cX5_isFaithful 33 = .ok (.iload_n 1, 1) := by decide +kernel
theorem dX5_isFaithful_34 : decode cX5_isFaithful 34 = .ok (.iaload, 1) := by decide +kernel
theorem dX5_isFaithful_35 : decode cX5_isFaithful 35 = .ok (.iconst 1, 1) := by decide +kernel
theorem dX5_isFaithful_36 : decode cX5_isFaithful 36 = .ok (.iconst 2, 1) := by decide +kernel
theorem dX5_isFaithful_37 : decode cX5_isFaithful 37 = .ok (.invokestatic 68, 3) := by decide +kernel
theorem dX5_isFaithful_40 : decode cX5_isFaithful 40 = .ok (.ifCond .eq 17, 3) := by decide +kernel
theorem dX5_isFaithful_43 : decode cX5_isFaithful 43 = .ok (.aload_n 0, 1) := by decide +kernel
theorem dX5_isFaithful_44 : decode cX5_isFaithful 44 = .ok (.getfield 53, 3) := by decide +kernel
theorem dX5_isFaithful_47 : decode cX5_isFaithful 47 = .ok (.iconst 2, 1) := by decide +kernel
theorem dX5_isFaithful_48 : decode cX5_isFaithful 48 = .ok (.iload_n 1, 1) := by decide +kernel
theorem dX5_isFaithful_49 : decode cX5_isFaithful 49 = .ok (.imul, 1) := by decide +kernel
theorem dX5_isFaithful_50 : decode cX5_isFaithful 50 = .ok (.iload_n 2, 1) := by decide +kernel
theorem dX5_isFaithful_51 : decode cX5_isFaithful 51 = .ok (.iadd, 1) := by decide +kernel
theorem dX5_isFaithful_52 : decode cX5_isFaithful 52 = .ok (.iaload, 1) := by decide +kernel
theorem dX5_isFaithful_53 : decode cX5_isFaithful 53 = .ok (.iconst (-1), 1) := by decide +kernel
theorem dX5_isFaithful_54 : decode cX5_isFaithful 54 = .ok (.if_icmp .ne 7, 3) := by decide +kernel
theorem dX5_isFaithful_57 : decode cX5_isFaithful 57 = .ok (.iconst 2, 1) := by decide +kernel
theorem dX5_isFaithful_58 : decode cX5_isFaithful 58 = .ok (.goto 4, 3) := by decide +kernel
theorem dX5_isFaithful_61 : decode cX5_isFaithful 61 = .ok (.iconst 0, 1) := by decide +kernel
theorem dX5_isFaithful_62 : decode cX5_isFaithful 62 = .ok (.invokevirtual 94, 3) := by decide +kernel
theorem dX5_isFaithful_65 : decode cX5_isFaithful 65 = .ok (.ifCond .eq 5, 3) := by decide +kernel
theorem dX5_isFaithful_68 : decode cX5_isFaithful 68 = .ok (.iconst 0, 1) := by decide +kernel
theorem dX5_isFaithful_69 : decode cX5_isFaithful 69 = .ok (.ireturn, 1) := by decide +kernel
theorem dX5_isFaithful_70 : decode cX5_isFaithful 70 = .ok (.aload_n 0, 1) := by decide +kernel
theorem dX5_isFaithful_71 : decode cX5_isFaithful 71 = .ok (.getfield 53, 3) := by decide +kernel
theorem dX5_isFaithful_74 : decode cX5_isFaithful 74 = .ok (.iconst 2, 1) := by decide +kernel
theorem dX5_isFaithful_75 : decode cX5_isFaithful 75 = .ok (.iload_n 1, 1) := by decide +kernel
theorem dX5_isFaithful_76 : decode cX5_isFaithful 76 = .ok (.imul, 1) := by decide +kernel
theorem dX5_isFaithful_77 : decode cX5_isFaithful 77 = .ok (.iload_n 2, 1) := by decide +kernel
theorem dX5_isFaithful_78 : decode cX5_isFaithful 78 = .ok (.iadd, 1) := by decide +kernel
theorem dX5_isFaithful_79 : decode cX5_isFaithful 79 = .ok (.iaload, 1) := by decide +kernel
theorem dX5_isFaithful_80 : decode cX5_isFaithful 80 = .ok (.aload_n 0, 1) := by decide +kernel
theorem dX5_isFaithful_81 : decode cX5_isFaithful 81 = .ok (.getfield 50, 3) := by decide +kernel
theorem dX5_isFaithful_84 : decode cX5_isFaithful 84 = .ok (.iload_n 1, 1) := by decide +kernel
theorem dX5_isFaithful_85 : decode cX5_isFaithful 85 = .ok (.iaload, 1) := by decide +kernel
theorem dX5_isFaithful_86 : decode cX5_isFaithful 86 = .ok (.if_icmp .le 16, 3) := by decide +kernel
theorem dX5_isFaithful_89 : decode cX5_isFaithful 89 = .ok (.aload_n 0, 1) := by decide +kernel
theorem dX5_isFaithful_90 : decode cX5_isFaithful 90 = .ok (.getfield 53, 3) := by decide +kernel
theorem dX5_isFaithful_93 : decode cX5_isFaithful 93 = .ok (.iconst 2, 1) := by decide +kernel
theorem dX5_isFaithful_94 : decode cX5_isFaithful 94 = .ok (.iload_n 1, 1) := by decide +kernel
theorem dX5_isFaithful_95 : decode cX5_isFaithful 95 = .ok (.imul, 1) := by decide +kernel
theorem dX5_isFaithful_96 : decode cX5_isFaithful 96 = .ok (.iload_n 2, 1) := by decide +kernel
theorem dX5_isFaithful_97 : decode cX5_isFaithful 97 = .ok (.iadd, 1) := by decide +kernel
theorem dX5_isFaithful_98 : decode cX5_isFaithful 98 = .ok (.iaload, 1) := by decide +kernel
theorem dX5_isFaithful_99 : decode cX5_isFaithful 99 = .ok (.goto 9, 3) := by decide +kernel
theorem dX5_isFaithful_102 : decode cX5_isFaithful 102 = .ok (.aload_n 0, 1) := by decide +kernel
theorem dX5_isFaithful_103 : decode cX5_isFaithful 103 = .ok (.getfield 50, 3) := by decide +kernel
theorem dX5_isFaithful_106 : decode cX5_isFaithful 106 = .ok (.iload_n 1, 1) := by decide +kernel
theorem dX5_isFaithful_107 : decode cX5_isFaithful 107 = .ok (.iaload, 1) := by decide +kernel
theorem dX5_isFaithful_108 : decode cX5_isFaithful 108 = .ok (.istore 4, 2) := by decide +kernel
theorem dX5_isFaithful_110 : decode cX5_isFaithful 110 = .ok (.iconst 1, 1) := by decide +kernel
theorem dX5_isFaithful_111 : decode cX5_isFaithful 111 = .ok (.istore 5, 2) := by decide +kernel
theorem dX5_isFaithful_113 : decode cX5_isFaithful 113 = .ok (.iconst 0, 1) := by decide +kernel
theorem dX5_isFaithful_114 : decode cX5_isFaithful 114 = .ok (.istore 6, 2) := by decide +kernel
theorem dX5_isFaithful_116 : decode cX5_isFaithful 116 = .ok (.iload 6, 2) := by decide +kernel
theorem dX5_isFaithful_118 : decode cX5_isFaithful 118 = .ok (.bipush 12, 2) := by decide +kernel
theorem dX5_isFaithful_120 : decode cX5_isFaithful 120 = .ok (.if_icmp .ge 56, 3) := by decide +kernel
theorem dX5_isFaithful_123 : decode cX5_isFaithful 123 = .ok (.iload 5, 2) := by decide +kernel
theorem dX5_isFaithful_125 : decode cX5_isFaithful 125 = .ok (.ifCond .eq 42, 3) := by decide +kernel
theorem dX5_isFaithful_128 : decode cX5_isFaithful 128 = .ok (.aload_n 0, 1) := by decide +kernel
theorem dX5_isFaithful_129 : decode cX5_isFaithful 129 = .ok (.getfield 56, 3) := by decide +kernel
theorem dX5_isFaithful_132 : decode cX5_isFaithful 132 = .ok (.bipush 24, 2) := by decide +kernel
theorem dX5_isFaithful_134 : decode cX5_isFaithful 134 = .ok (.iload_n 1, 1) := by decide +kernel
theorem dX5_isFaithful_135 : decode cX5_isFaithful 135 = .ok (.imul, 1) := by decide +kernel
theorem dX5_isFaithful_136 : decode cX5_isFaithful 136 = .ok (.bipush 12, 2) := by decide +kernel
theorem dX5_isFaithful_138 : decode cX5_isFaithful 138 = .ok (.iload_n 2, 1) := by decide +kernel
theorem dX5_isFaithful_139 : decode cX5_isFaithful 139 = .ok (.imul, 1) := by decide +kernel
theorem dX5_isFaithful_140 : decode cX5_isFaithful 140 = .ok (.iadd, 1) := by decide +kernel
theorem dX5_isFaithful_141 : decode cX5_isFaithful 141 = .ok (.iload 6, 2) := by decide +kernel
theorem dX5_isFaithful_143 : decode cX5_isFaithful 143 = .ok (.iadd, 1) := by decide +kernel
theorem dX5_isFaithful_144 : decode cX5_isFaithful 144 = .ok (.iaload, 1) := by decide +kernel
theorem dX5_isFaithful_145 : decode cX5_isFaithful 145 = .ok (.aload_n 0, 1) := by decide +kernel
theorem dX5_isFaithful_146 : decode cX5_isFaithful 146 = .ok (.aload_n 0, 1) := by decide +kernel
theorem dX5_isFaithful_147 : decode cX5_isFaithful 147 = .ok (.getfield 44, 3) := by decide +kernel
theorem dX5_isFaithful_150 : decode cX5_isFaithful 150 = .ok (.iload_n 1, 1) := by decide +kernel
theorem dX5_isFaithful_151 : decode cX5_isFaithful 151 = .ok (.iaload, 1) := by decide +kernel
theorem dX5_isFaithful_152 : decode cX5_isFaithful 152 = .ok (.iload_n 2, 1) := by decide +kernel
theorem dX5_isFaithful_153 : decode cX5_isFaithful 153 = .ok (.iload 6, 2) := by decide +kernel
theorem dX5_isFaithful_155 : decode cX5_isFaithful 155 = .ok (.iload 4, 2) := by decide +kernel
theorem dX5_isFaithful_157 : decode cX5_isFaithful 157 = .ok (.invokevirtual 122, 3) := by decide +kernel
theorem dX5_isFaithful_160 : decode cX5_isFaithful 160 = .ok (.if_icmp .ne 7, 3) := by decide +kernel
theorem dX5_isFaithful_163 : decode cX5_isFaithful 163 = .ok (.iconst 1, 1) := by decide +kernel
theorem dX5_isFaithful_164 : decode cX5_isFaithful 164 = .ok (.goto 4, 3) := by decide +kernel
theorem dX5_isFaithful_167 : decode cX5_isFaithful 167 = .ok (.iconst 0, 1) := by decide +kernel
theorem dX5_isFaithful_168 : decode cX5_isFaithful 168 = .ok (.istore 5, 2) := by decide +kernel
theorem dX5_isFaithful_170 : decode cX5_isFaithful 170 = .ok (.iinc 6 1, 3) := by decide +kernel
theorem dX5_isFaithful_173 : decode cX5_isFaithful 173 = .ok (.goto (-57), 3) := by decide +kernel
theorem dX5_isFaithful_176 : decode cX5_isFaithful 176 = .ok (.iload 5, 2) := by decide +kernel
theorem dX5_isFaithful_178 : decode cX5_isFaithful 178 = .ok (.ireturn, 1) := by decide +kernel
