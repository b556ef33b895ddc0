theorem dL_cell_0 : decode cL_cell 0 = .ok (.iload_n 1, 1) := by decide +kernel
theorem dL_cell_1 : decode cL_cell 1 = .ok (.aload_n 0, 1) := by decide +kernel
theorem dL_cell_2 : decode cL_cell 2 = .ok (.arraylength, 1) := by decide +kernel
theorem dL_cell_3 : decode cL_cell 3 = .ok (.if_icmp .ge 9, 3) := by decide +kernel
theorem dL_cell_6 : decode cL_cell 6 = .ok (.aload_n 0, 1) := by decide +kernel
theorem dL_cell_7 : decode cL_cell 7 = .ok (.iload_n 1, 1) := by decide +kernel
theorem dL_cell_8 : decode cL_cell 8 = .ok (.iaload, 1) := by decide +kernel
theorem dL_cell_9 : decode cL_cell 9 = .ok (.goto 15, 3) := by decide +kernel
theorem dL_cell_12 : decode cL_cell 12 = .ok (.sipush 7919, 3) := by decide +kernel
theorem dL_cell_15 : decode cL_cell 15 = .ok (.iload_n 1, 1) := by decide +kernel
theorem dL_cell_16 : decode cL_cell 16 = .ok (.iconst 3, 1) := by decide +kernel
theorem dL_cell_17 : decode cL_cell 17 = .ok (.iadd, 1) := by decide +kernel
theorem dL_cell_18 : decode cL_cell 18 = .ok (.imul, 1) := by decide +kernel
theorem dL_cell_19 : decode cL_cell 19 = .ok (.iload_n 1, 1) := by decide +kernel
theorem dL_cell_20 : decode cL_cell 20 = .ok (.bipush 11, 2) := by decide +kernel
theorem dL_cell_22 : decode cL_cell 22 = .ok (.iadd, 1) := by decide +kernel
theorem dL_cell_23 : decode cL_cell 23 = .ok (.imul, 1) := by decide +kernel
theorem dL_cell_24 : decode cL_cell 24 = .ok (.ireturn, 1) := by decide +kernel
theorem dL_low_0 : decode cL_low 0 = .ok (.iload_n 0, 1) := by decide +kernel
theorem dL_low_1 : decode cL_low 1 = .ok (.ldc 7, 2) := by decide +kernel
theorem dL_low_3 : decode cL_low 3 = .ok (.iand, 1) := by decide +kernel
theorem dL_low_4 : decode cL_low 4 = .ok (.iload_n 1, 1) := by decide +kernel
theorem dL_low_5 : decode cL_low 5 = .ok (.irem, 1) := by decide +kernel
theorem dL_low_6 : decode cL_low 6 = .ok (.ireturn, 1) := by decide +kernel
set_option maxRecDepth 20000 in
theorem ggL_isField_X4_count : GoodIn wsL_isField wsX4_count := goodIn_ca (goodIn_r _ [6, 7, 8, 9, 10, 11, 12, 13, 14, 15, 16, 17, 18, 19, 20, 21, 22, 23, 24, 25, 26, 27, 28, 29, 30, 31, 32, 33, 34, 35, 36, 37, 38, 39, 40, 41, 42, 43, 44, 45, 46, 47, 48, 49, 117, 118, 119, 120, 121, 122, 123, 124, 125, 126, 127, 128, 129, 130, 131, 132] (by decide +kernel) (by decide +kernel)) (goodIn_sub (fun _ h => List.mem_cons_of_mem _ (List.mem_append_left _ (List.mem_append_right _ h))) (by decide +kernel))
set_option maxRecDepth 20000 in
theorem gL_isField_X4_count : GoodIn wsL_isField (wsV RL 8 RX4 yX4_count wsX4_count) := goodIn_app (goodIn_of _ (by decide +kernel)) ggL_isField_X4_count
set_option maxRecDepth 20000 in
theorem ggL_isField_X4_squareOf : GoodIn wsL_isField wsX4_squareOf := goodIn_ca (goodIn_ca (goodIn_r _ [53, 54, 55, 7, 8, 9, 56, 57, 5, 58, 59, 24, 25, 21, 26, 27, 28, 12, 13, 14, 29, 16, 17, 30, 31, 32, 33, 34, 35, 60, 61, 62, 63, 64, 65, 66, 67, 68, 69, 70, 71, 72, 44, 73, 74, 75, 76, 77, 78, 79, 80, 23, 117, 118, 119, 120, 121, 122, 123, 124, 125, 126, 127, 128, 129] (by decide +kernel) (by decide +kernel)) (goodIn_sub (fun _ h => List.mem_cons_of_mem _ (List.mem_append_right _ h)) (by decide +kernel))) (goodIn_sub (fun _ h => List.mem_cons_of_mem _ (List.mem_append_left _ (List.mem_append_right _ h))) (by decide +kernel))
set_option maxRecDepth 20000 in
theorem gL_isField_X4_squareOf : GoodIn wsL_isField (wsV RL 14 RX4 yX4_squareOf wsX4_squareOf) := goodIn_app (goodIn_of _ (by decide +kernel)) ggL_isField_X4_squareOf
set_option maxRecDepth 20000 in
theorem ggL_isField_X4_whyNot : GoodIn wsL_isField wsX4_whyNot := goodIn_ca (goodIn_r _ [84, 54, 55, 9, 56, 57, 5, 58, 85, 86, 87, 21, 88, 44, 89, 27, 72, 23, 24, 25, 26, 28, 12, 13, 14, 29, 16, 17, 30, 31, 32, 33, 34, 35, 117, 118, 119, 120, 121, 122, 123, 124, 125, 126, 127, 128, 129] (by decide +kernel) (by decide +kernel)) (goodIn_sub (fun _ h => List.mem_cons_of_mem _ (List.mem_append_right _ h)) (by decide +kernel))
set_option maxRecDepth 20000 in
theorem gL_isField_X4_whyNot : GoodIn wsL_isField (wsV RL 18 RX4 yX4_whyNot wsX4_whyNot) := goodIn_app (goodIn_of _ (by decide +kernel)) ggL_isField_X4_whyNot
set_option maxRecDepth 20000 in
theorem ggL_isField_X4_darkShare : GoodIn wsL_isField wsX4_darkShare := goodIn_r _ [93, 9, 94, 18, 19, 20, 21, 22, 23, 24, 25, 26, 27, 28, 12, 13, 14, 29, 16, 17, 30, 31, 32, 33, 34, 35, 117, 118, 119, 120, 121, 122, 123, 124, 125, 126, 127, 128, 129] (by decide +kernel) (by decide +kernel)
set_option maxRecDepth 20000 in
theorem gL_isField_X4_darkShare : GoodIn wsL_isField (wsV RL 21 RX4 yX4_darkShare wsX4_darkShare) := goodIn_app (goodIn_of _ (by decide +kernel)) ggL_isField_X4_darkShare
set_option maxRecDepth 20000 in
theorem ggL_isField_X4_playerOf : GoodIn wsL_isField wsX4_playerOf := goodIn_ca (goodIn_ca (goodIn_r _ [98, 54, 55, 7, 8, 9, 99, 41, 42, 21, 43, 44, 100, 101, 102, 103, 27, 104, 105, 106, 107, 72, 23, 24, 25, 26, 28, 12, 13, 14, 29, 16, 17, 30, 31, 32, 33, 34, 35, 108, 109, 110, 111, 49, 112, 113, 114, 115, 116, 69, 70, 71, 117, 118, 119, 120, 121, 122, 123, 124, 125, 126, 127, 128, 129] (by decide +kernel) (by decide +kernel)) (goodIn_sub (fun _ h => List.mem_cons_of_mem _ (List.mem_append_right _ h)) (by decide +kernel))) (goodIn_sub (fun _ h => List.mem_cons_of_mem _ (List.mem_append_left _ (List.mem_append_right _ h))) (by decide +kernel))
set_option maxRecDepth 20000 in
theorem gL_isField_X4_playerOf : GoodIn wsL_isField (wsV RL 27 RX4 yX4_playerOf wsX4_playerOf) := goodIn_app (goodIn_of _ (by decide +kernel)) ggL_isField_X4_playerOf
theorem dL_isField_0 : decode cL_isField 0 = .ok (.aload_n 0, 1) := by decide +kernel
theorem dL_isField_1 : decode cL_isField 1 = .ok (.iconst 0, 1) := by decide +kernel
theorem dL_isField_2 : decode cL_isField 2 = .ok (.invokevirtual 8, 3) := by decide +kernel
theorem dL_isField_5 : decode cL_isField 5 = .ok (.istore_n 1, 1) := by decide +kernel
theorem dL_isField_6 : decode cL_isField 6 = .ok (.iconst 0, 1) := by decide +kernel
theorem dL_isField_7 : decode cL_isField 7 = .ok (.istore_n 2, 1) := by decide +kernel
theorem dL_isField_8 : decode cL_isField 8 = .ok (.iconst 0, 1) := by decide +kernel
theorem dL_isField_9 : decode cL_isField 9 = .ok (.istore_n 3, 1) := by decide +kernel
theorem dL_isField_10 : decode cL_isField 10 = .ok (.iconst 0, 1) := by decide +kernel
theorem dL_isField_11 : decode cL_isField 11 = .ok (.istore 4, 2) := by decide +kernel
theorem dL_isField_13 : decode cL_isField 13 = .ok (.iconst 0, 1) := by decide +kernel
theorem dL_isField_14 : decode cL_isField 14 = .ok (.istore 5, 2) := by decide +kernel
theorem dL_isField_16 : decode cL_isField 16 = .ok (.iconst 0, 1) := by decide +kernel
theorem dL_isField_17 : decode cL_isField 17 = .ok (.istore 6, 2) := by decide +kernel
theorem dL_isField_19 : decode cL_isField 19 = .ok (.iload_n 1, 1) := by decide +kernel
theorem dL_isField_20 : decode cL_isField 20 = .ok (.iconst 3, 1) := by decide +kernel
theorem dL_isField_21 : decode cL_isField 21 = .ok (.irem, 1) := by decide +kernel
theorem dL_isField_22 : decode cL_isField 22 = .ok (.ifCond .ne 7, 3) := by decide +kernel
theorem dL_isField_25 : decode cL_isField 25 = .ok (.iconst 1, 1) := by decide +kernel
theorem dL_isField_26 : decode cL_isField 26 = .ok (.goto 15, 3) := by decide +kernel
theorem dL_isField_29 : decode cL_isField 29 = .ok (.iload_n 1, 1) := by decide +kernel
theorem dL_isField_30 : decode cL_isField 30 = .ok (.iconst 3, 1) := by decide +kernel
theorem dL_isField_31 : decode cL_isField 31 = .ok (.irem, 1) := by decide +kernel
theorem dL_isField_32 : decode cL_isField 32 = .ok (.iconst 1, 1) := by decide +kernel
theorem dL_isField_33 : decode cL_isField 33 = .ok (.if_icmp .ne 7, 3) := by decide +kernel
theorem dL_isField_36 : decode cL_isField 36 = .ok (.iconst 3, 1) := by decide +kernel
theorem dL_isField_37 : decode cL_isField 37 = .ok (.goto 4, 3) := by decide +kernel
theorem dL_isField_40 : decode cL_isField 40 = .ok (.iconst 2, 1) := by decide +kernel
theorem dL_isField_41 : decode cL_isField 41 = .ok (.istore 7, 2) := by decide +kernel
theorem dL_isField_43 : decode cL_isField 43 = .ok (.iconst 0, 1) := by decide +kernel
theorem dL_isField_44 : decode cL_isField 44 = .ok (.istore 8, 2) := by decide +kernel
theorem dL_isField_46 : decode cL_isField 46 = .ok (.iload 8, 2) := by decide +kernel
theorem dL_isField_48 : decode cL_isField 48 = .ok (.bipush 36, 2) := by decide +kernel
theorem dL_isField_50 : decode cL_isField 50 = .ok (.if_icmp .ge 285, 3) := by decide +kernel
theorem dL_isField_53 : decode cL_isField 53 = .ok (.aload_n 0, 1) := by decide +kernel
theorem dL_isField_54 : decode cL_isField 54 = .ok (.iload 8, 2) := by decide +kernel
theorem dL_isField_56 : decode cL_isField 56 = .ok (.iconst 0, 1) := by decide +kernel
theorem dL_isField_57 : decode cL_isField 57 = .ok (.invokevirtual 14, 3) := by decide +kernel
theorem dL_isField_60 : decode cL_isField 60 = .ok (.istore 9, 2) := by decide +kernel
theorem dL_isField_62 : decode cL_isField 62 = .ok (.aload_n 0, 1) := by decide +kernel
theorem dL_isField_63 : decode cL_isField 63 = .ok (.iload 8, 2) := by decide +kernel
theorem dL_isField_65 : decode cL_isField 65 = .ok (.iconst 1, 1) := by decide +kernel
theorem dL_isField_66 : decode cL_isField 66 = .ok (.invokevirtual 14, 3) := by decide +kernel
theorem dL_isField_69 : decode cL_isField 69 = .ok (.istore 10, 2) := by decide +kernel
theorem dL_isField_71 : decode cL_isField 71 = .ok (.aload_n 0, 1) := by decide +kernel
theorem dL_isField_72 : decode cL_isField 72 = .ok (.iload 8, 2) := by decide +kernel
theorem dL_isField_74 : decode cL_isField 74 = .ok (.iconst 3, 1) := by decide +kernel
theorem dL_isField_75 : decode cL_isField 75 = .ok (.invokevirtual 14, 3) := by decide +kernel
theorem dL_isField_78 : decode cL_isField 78 = .ok (.istore 11, 2) := by decide +kernel
theorem dL_isField_80 : decode cL_isField 80 = .ok (.aload_n 0, 1) := by decide +kernel
theorem dL_isField_81 : decode cL_isField 81 = .ok (.iload 8, 2) := by decide +kernel
theorem dL_isField_83 : decode cL_isField 83 = .ok (.iconst 5, 1) := by decide +kernel
theorem dL_isField_84 : decode cL_isField 84 = .ok (.invokevirtual 14, 3) := by decide +kernel
theorem dL_isField_87 : decode cL_isField 87 = .ok (.istore 12, 2) := by decide +kernel
theorem dL_isField_89 : decode cL_isField 89 = .ok (.iload 9, 2) := by decide +kernel
theorem dL_isField_91 : decode cL_isField 91 = .ok (.ifCond .lt 120, 3) := by decide +kernel
theorem dL_isField_94 : decode cL_isField 94 = .ok (.iload 9, 2) := by decide +kernel
theorem dL_isField_96 : decode cL_isField 96 = .ok (.bipush 10, 2) := by decide +kernel
theorem dL_isField_98 : decode cL_isField 98 = .ok (.if_icmp .ge 113, 3) := by decide +kernel
theorem dL_isField_101 : decode cL_isField 101 = .ok (.iload 10, 2) := by decide +kernel
theorem dL_isField_103 : decode cL_isField 103 = .ok (.iconst (-1), 1) := by decide +kernel
theorem dL_isField_104 : decode cL_isField 104 = .ok (.if_icmp .ne 7, 3) := by decide +kernel
theorem dL_isField_107 : decode cL_isField 107 = .ok (.iconst 1, 1) := by decide +kernel
theorem dL_isField_108 : decode cL_isField 108 = .ok (.goto 4, 3) := by decide +kernel
theorem dL_isField_111 : decode cL_isField 111 = .ok (.iconst 0, 1) := by decide +kernel
theorem dL_isField_112 : decode cL_isField 112 = .ok (.iload 9, 2) := by decide +kernel
theorem dL_isField_114 : decode cL_isField 114 = .ok (.ifCond .ne 7, 3) := by decide +kernel
theorem dL_isField_117 : decode cL_isField 117 = .ok (.iconst 1, 1) := by decide +kernel
theorem dL_isField_118 : decode cL_isField 118 = .ok (.goto 4, 3) := by decide +kernel
theorem dL_isField_121 : decode cL_isField 121 = .ok (.iconst 0, 1) := by decide +kernel
theorem dL_isField_122 : decode cL_isField 122 = .ok (.if_icmp .ne 89, 3) := by decide +kernel
theorem dL_isField_125 : decode cL_isField 125 = .ok (.iload 10, 2) := by decide +kernel
theorem dL_isField_127 : decode cL_isField 127 = .ok (.iconst 2, 1) := by decide +kernel
theorem dL_isField_128 : decode cL_isField 128 = .ok (.if_icmp .ge 83, 3) := by decide +kernel
theorem dL_isField_131 : decode cL_isField 131 = .ok (.iload 11, 2) := by decide +kernel
theorem dL_isField_133 : decode cL_isField 133 = .ok (.aload_n 0, 1) := by decide +kernel
theorem dL_isField_134 : decode cL_isField 134 = .ok (.iload 8, 2) := by decide +kernel
theorem dL_isField_136 : decode cL_isField 136 = .ok (.iconst 4, 1) := by decide +kernel
theorem dL_isField_137 : decode cL_isField 137 = .ok (.invokevirtual 14, 3) := by decide +kernel
theorem dL_isField_140 : decode cL_isField 140 = .ok (.if_icmp .ne 71, 3) := by decide +kernel
theorem dL_isField_143 : decode cL_isField 143 = .ok (.iload 12, 2) := by decide +kernel
theorem dL_isField_145 : decode cL_isField 145 = .ok (.ifCond .le 7, 3) := by decide +kernel
theorem dL_isField_148 : decode cL_isField 148 = .ok (.iconst 1, 1) := by decide +kernel
theorem dL_isField_149 : decode cL_isField 149 = .ok (.goto 4, 3) := by decide +kernel
theorem dL_isField_152 : decode cL_isField 152 = .ok (.iconst 0, 1) := by decide +kernel
theorem dL_isField_153 : decode cL_isField 153 = .ok (.iload 11, 2) := by decide +kernel
theorem dL_isField_155 : decode cL_isField 155 = .ok (.iconst 1, 1) := by decide +kernel
theorem dL_isField_156 : decode cL_isField 156 = .ok (.if_icmp .ne 7, 3) := by decide +kernel
theorem dL_isField_159 : decode cL_isField 159 = .ok (.iconst 1, 1) := by decide +kernel
theorem dL_isField_160 : decode cL_isField 160 = .ok (.goto 4, 3) := by decide +kernel
theorem dL_isField_163 : decode cL_isField 163 = .ok (.iconst 0, 1) := by decide +kernel
theorem dL_isField_164 : decode cL_isField 164 = .ok (.if_icmp .ne 47, 3) := by decide +kernel
theorem dL_isField_167 : decode cL_isField 167 = .ok (.iload 12, 2) := by decide +kernel
theorem dL_isField_169 : decode cL_isField 169 = .ok (.bipush 6, 2) := by decide +kernel
theorem dL_isField_171 : decode cL_isField 171 = .ok (.if_icmp .ge 40, 3) := by decide +kernel
theorem dL_isField_174 : decode cL_isField 174 = .ok (.aload_n 0, 1) := by decide +kernel
theorem dL_isField_175 : decode cL_isField 175 = .ok (.iload 8, 2) := by decide +kernel
theorem dL_isField_177 : decode cL_isField 177 = .ok (.bipush 7, 2) := by decide +kernel
theorem dL_isField_179 : decode cL_isField 179 = .ok (.invokevirtual 14, 3) := by decide +kernel
theorem dL_isField_182 : decode cL_isField 182 = .ok (.iload_n 1, 1) := by decide +kernel
theorem dL_isField_183 : decode cL_isField 183 = .ok (.ishr, 1) := by decide +kernel
theorem dL_isField_184 : decode cL_isField 184 = .ok (.iconst 1, 1) := by decide +kernel
theorem dL_isField_185 : decode cL_isField 185 = .ok (.iand, 1) := by decide +kernel
theorem dL_isField_186 : decode cL_isField 186 = .ok (.iload 11, 2) := by decide +kernel
theorem dL_isField_188 : decode cL_isField 188 = .ok (.if_icmp .ne 23, 3) := by decide +kernel
theorem dL_isField_191 : decode cL_isField 191 = .ok (.iload 9, 2) := by decide +kernel
theorem dL_isField_193 : decode cL_isField 193 = .ok (.ifCond .gt 14, 3) := by decide +kernel
theorem dL_isField_196 : decode cL_isField 196 = .ok (.aload_n 0, 1) := by decide +kernel
theorem dL_isField_197 : decode cL_isField 197 = .ok (.iload 8, 2) := by decide +kernel
theorem dL_isField_199 : decode cL_isField 199 = .ok (.bipush 6, 2) := by decide +kernel
theorem dL_isField_201 : decode cL_isField 201 = .ok (.invokevirtual 14, 3) := by decide +kernel
theorem dL_isField_204 : decode cL_isField 204 = .ok (.ifCond .ne 7, 3) := by decide +kernel
theorem dL_isField_207 : decode cL_isField 207 = .ok (.iconst 1, 1) := by decide +kernel
theorem dL_isField_208 : decode cL_isField 208 = .ok (.goto 4, 3) := by decide +kernel
theorem dL_isField_211 : decode cL_isField 211 = .ok (.iconst 0, 1) := by decide +kernel
theorem dL_isField_212 : decode cL_isField 212 = .ok (.istore 13, 2) := by decide +kernel
theorem dL_isField_214 : decode cL_isField 214 = .ok (.aload_n 0, 1) := by decide +kernel
theorem dL_isField_215 : decode cL_isField 215 = .ok (.iconst 3, 1) := by decide +kernel
theorem dL_isField_216 : decode cL_isField 216 = .ok (.invokevirtual 8, 3) := by decide +kernel
theorem dL_isField_219 : decode cL_isField 219 = .ok (.istore 14, 2) := by decide +kernel
theorem dL_isField_221 : decode cL_isField 221 = .ok (.iload 10, 2) := by decide +kernel
theorem dL_isField_223 : decode cL_isField 223 = .ok (.ifCond .lt 14, 3) := by decide +kernel
theorem dL_isField_226 : decode cL_isField 226 = .ok (.iload 10, 2) := by decide +kernel
theorem dL_isField_228 : decode cL_isField 228 = .ok (.iload 14, 2) := by decide +kernel
theorem dL_isField_230 : decode cL_isField 230 = .ok (.if_icmp .eq 7, 3) := by decide +kernel
theorem dL_isField_233 : decode cL_isField 233 = .ok (.iconst 1, 1) := by decide +kernel
theorem dL_isField_234 : decode cL_isField 234 = .ok (.goto 25, 3) := by decide +kernel
theorem dL_isField_237 : decode cL_isField 237 = .ok (.iload 9, 2) := by decide +kernel
theorem dL_isField_239 : decode cL_isField 239 = .ok (.bipush 9, 2) := by decide +kernel
theorem dL_isField_241 : decode cL_isField 241 = .ok (.if_icmp .ne 7, 3) := by decide +kernel
theorem dL_isField_244 : decode cL_isField 244 = .ok (.iconst 2, 1) := by decide +kernel
theorem dL_isField_245 : decode cL_isField 245 = .ok (.goto 14, 3) := by decide +kernel
theorem dL_isField_248 : decode cL_isField 248 = .ok (.iload 11, 2) := by decide +kernel
theorem dL_isField_250 : decode cL_isField 250 = .ok (.iconst 1, 1) := by decide +kernel
theorem dL_isField_251 : decode cL_isField 251 = .ok (.if_icmp .ne 7, 3) := by decide +kernel
theorem dL_isField_254 : decode cL_isField 254 = .ok (.iconst 3, 1) := by decide +kernel
theorem dL_isField_255 : decode cL_isField 255 = .ok (.goto 4, 3) := by decide +kernel
theorem dL_isField_258 : decode cL_isField 258 = .ok (.iconst 0, 1) := by decide +kernel
theorem dL_isField_259 : decode cL_isField 259 = .ok (.istore 15, 2) := by decide +kernel
theorem dL_isField_261 : decode cL_isField 261 = .ok (.iload 13, 2) := by decide +kernel
theorem dL_isField_263 : decode cL_isField 263 = .ok (.ifCond .eq 14, 3) := by decide +kernel
theorem dL_isField_266 : decode cL_isField 266 = .ok (.aload_n 0, 1) := by decide +kernel
theorem dL_isField_267 : decode cL_isField 267 = .ok (.iload 8, 2) := by decide +kernel
theorem dL_isField_269 : decode cL_isField 269 = .ok (.invokevirtual 18, 3) := by decide +kernel
theorem dL_isField_272 : decode cL_isField 272 = .ok (.iload 15, 2) := by decide +kernel
theorem dL_isField_274 : decode cL_isField 274 = .ok (.if_icmp .eq 5, 3) := by decide +kernel
theorem dL_isField_277 : decode cL_isField 277 = .ok (.iconst 0, 1) := by decide +kernel
theorem dL_isField_278 : decode cL_isField 278 = .ok (.ireturn, 1) := by decide +kernel
theorem dL_isField_279 : decode cL_isField 279 = .ok (.iload_n 2, 1) := by decide +kernel
theorem dL_isField_280 : decode cL_isField 280 = .ok (.iload 11, 2) := by decide +kernel
theorem dL_isField_282 : decode cL_isField 282 = .ok (.iadd, 1) := by decide +kernel
theorem dL_isField_283 : decode cL_isField 283 = .ok (.istore_n 2, 1) := by decide +kernel
theorem dL_isField_284 : decode cL_isField 284 = .ok (.iload_n 3, 1) := by decide +kernel
theorem dL_isField_285 : decode cL_isField 285 = .ok (.iload 12, 2) := by decide +kernel
theorem dL_isField_287 : decode cL_isField 287 = .ok (.iadd, 1) := by decide +kernel
theorem dL_isField_288 : decode cL_isField 288 = .ok (.istore_n 3, 1) := by decide +kernel
theorem dL_isField_289 : decode cL_isField 289 = .ok (.iload 4, 2) := by decide +kernel
theorem dL_isField_291 : decode cL_isField 291 = .ok (.aload_n 0, 1) := by decide +kernel
theorem dL_isField_292 : decode cL_isField 292 = .ok (.iload 8, 2) := by decide +kernel
theorem dL_isField_294 : decode cL_isField 294 = .ok (.bipush 6, 2) := by decide +kernel
theorem dL_isField_296 : decode cL_isField 296 = .ok (.invokevirtual 14, 3) := by decide +kernel
theorem dL_isField_299 : decode cL_isField 299 = .ok (.iadd, 1) := by decide +kernel
theorem dL_isField_300 : decode cL_isField 300 = .ok (.istore 4, 2) := by decide +kernel
theorem dL_isField_302 : decode cL_isField 302 = .ok (.iload 5, 2) := by decide +kernel
theorem dL_isField_304 : decode cL_isField 304 = .ok (.iload 9, 2) := by decide +kernel
theorem dL_isField_306 : decode cL_isField 306 = .ok (.ifCond .le 7, 3) := by decide +kernel
theorem dL_isField_309 : decode cL_isField 309 = .ok (.iconst 1, 1) := by decide +kernel
theorem dL_isField_310 : decode cL_isField 310 = .ok (.goto 4, 3) := by decide +kernel
theorem dL_isField_313 : decode cL_isField 313 = .ok (.iconst 0, 1) := by decide +kernel
theorem dL_isField_314 : decode cL_isField 314 = .ok (.iadd, 1) := by decide +kernel
theorem dL_isField_315 : decode cL_isField 315 = .ok (.istore 5, 2) := by decide +kernel
theorem dL_isField_317 : decode cL_isField 317 = .ok (.iload 6, 2) := by decide +kernel
theorem dL_isField_319 : decode cL_isField 319 = .ok (.aload_n 0, 1) := by decide +kernel
theorem dL_isField_320 : decode cL_isField 320 = .ok (.iload 8, 2) := by decide +kernel
theorem dL_isField_322 : decode cL_isField 322 = .ok (.iconst 2, 1) := by decide +kernel
theorem dL_isField_323 : decode cL_isField 323 = .ok (.invokevirtual 14, 3) := by decide +kernel
theorem dL_isField_326 : decode cL_isField 326 = .ok (.iadd, 1) := by decide +kernel
theorem dL_isField_327 : decode cL_isField 327 = .ok (.istore 6, 2) := by decide +kernel
theorem dL_isField_329 : decode cL_isField 329 = .ok (.iinc 8 1, 3) := by decide +kernel
theorem dL_isField_332 : decode cL_isField 332 = .ok (.goto (-286), 3) := by decide +kernel
theorem dL_isField_335 : decode cL_isField 335 = .ok (.aload_n 0, 1) := by decide +kernel
theorem dL_isField_336 : decode cL_isField 336 = .ok (.iconst 1, 1) := by decide +kernel
theorem dL_isField_337 : decode cL_isField 337 = .ok (.invokevirtual 8, 3) := by decide +kernel
theorem dL_isField_340 : decode cL_isField 340 = .ok (.iload_n 1, 1) := by decide +kernel
theorem dL_isField_341 : decode cL_isField 341 = .ok (.iconst 3, 1) := by decide +kernel
theorem dL_isField_342 : decode cL_isField 342 = .ok (.idiv, 1) := by decide +kernel
theorem dL_isField_343 : decode cL_isField 343 = .ok (.if_icmp .ne 86, 3) := by decide +kernel
theorem dL_isField_346 : decode cL_isField 346 = .ok (.aload_n 0, 1) := by decide +kernel
theorem dL_isField_347 : decode cL_isField 347 = .ok (.iconst 2, 1) := by decide +kernel
theorem dL_isField_348 : decode cL_isField 348 = .ok (.invokevirtual 8, 3) := by decide +kernel
theorem dL_isField_351 : decode cL_isField 351 = .ok (.iload 7, 2) := by decide +kernel
theorem dL_isField_353 : decode cL_isField 353 = .ok (.if_icmp .ne 76, 3) := by decide +kernel
theorem dL_isField_356 : decode cL_isField 356 = .ok (.aload_n 0, 1) := by decide +kernel
theorem dL_isField_357 : decode cL_isField 357 = .ok (.iconst 5, 1) := by decide +kernel
theorem dL_isField_358 : decode cL_isField 358 = .ok (.invokevirtual 8, 3) := by decide +kernel
theorem dL_isField_361 : decode cL_isField 361 = .ok (.iload_n 2, 1) := by decide +kernel
theorem dL_isField_362 : decode cL_isField 362 = .ok (.if_icmp .ne 67, 3) := by decide +kernel
theorem dL_isField_365 : decode cL_isField 365 = .ok (.iload_n 3, 1) := by decide +kernel
theorem dL_isField_366 : decode cL_isField 366 = .ok (.iload 4, 2) := by decide +kernel
theorem dL_isField_368 : decode cL_isField 368 = .ok (.if_icmp .ne 61, 3) := by decide +kernel
theorem dL_isField_371 : decode cL_isField 371 = .ok (.aload_n 0, 1) := by decide +kernel
theorem dL_isField_372 : decode cL_isField 372 = .ok (.bipush 6, 2) := by decide +kernel
theorem dL_isField_374 : decode cL_isField 374 = .ok (.invokevirtual 8, 3) := by decide +kernel
theorem dL_isField_377 : decode cL_isField 377 = .ok (.iload 5, 2) := by decide +kernel
theorem dL_isField_379 : decode cL_isField 379 = .ok (.if_icmp .ne 50, 3) := by decide +kernel
theorem dL_isField_382 : decode cL_isField 382 = .ok (.aload_n 0, 1) := by decide +kernel
theorem dL_isField_383 : decode cL_isField 383 = .ok (.bipush 7, 2) := by decide +kernel
theorem dL_isField_385 : decode cL_isField 385 = .ok (.invokevirtual 8, 3) := by decide +kernel
theorem dL_isField_388 : decode cL_isField 388 = .ok (.iload 6, 2) := by decide +kernel
theorem dL_isField_390 : decode cL_isField 390 = .ok (.if_icmp .ne 39, 3) := by decide +kernel
theorem dL_isField_393 : decode cL_isField 393 = .ok (.aload_n 0, 1) := by decide +kernel
theorem dL_isField_394 : decode cL_isField 394 = .ok (.invokevirtual 21, 3) := by decide +kernel
theorem dL_isField_397 : decode cL_isField 397 = .ok (.iload_n 2, 1) := by decide +kernel
theorem dL_isField_398 : decode cL_isField 398 = .ok (.i2d, 1) := by decide +kernel
theorem dL_isField_399 : decode cL_isField 399 = .ok (.ldc2_w 25, 3) := by decide +kernel
theorem dL_isField_402 : decode cL_isField 402 = .ok (.ddiv, 1) := by decide +kernel
theorem dL_isField_403 : decode cL_isField 403 = .ok (.dcmp .l, 1) := by decide +kernel
theorem dL_isField_404 : decode cL_isField 404 = .ok (.ifCond .ne 25, 3) := by decide +kernel
theorem dL_isField_407 : decode cL_isField 407 = .ok (.aload_n 0, 1) := by decide +kernel
theorem dL_isField_408 : decode cL_isField 408 = .ok (.iconst 0, 1) := by decide +kernel
theorem dL_isField_409 : decode cL_isField 409 = .ok (.iconst 1, 1) := by decide +kernel
theorem dL_isField_410 : decode cL_isField 410 = .ok (.invokevirtual 27, 3) := by decide +kernel
theorem dL_isField_413 : decode cL_isField 413 = .ok (.aload_n 0, 1) := by decide +kernel
theorem dL_isField_414 : decode cL_isField 414 = .ok (.iconst 1, 1) := by decide +kernel
theorem dL_isField_415 : decode cL_isField 415 = .ok (.iconst 1, 1) := by decide +kernel
theorem dL_isField_416 : decode cL_isField 416 = .ok (.invokevirtual 27, 3) := by decide +kernel
theorem dL_isField_419 : decode cL_isField 419 = .ok (.iadd, 1) := by decide +kernel
theorem dL_isField_420 : decode cL_isField 420 = .ok (.iload 5, 2) := by decide +kernel
theorem dL_isField_422 : decode cL_isField 422 = .ok (.if_icmp .ne 7, 3) := by decide +kernel
theorem dL_isField_425 : decode cL_isField 425 = .ok (.iconst 1, 1) := by decide +kernel
theorem dL_isField_426 : decode cL_isField 426 = .ok (.goto 4, 3) := by decide +kernel
theorem dL_isField_429 : decode cL_isField 429 = .ok (.iconst 0, 1) := by decide +kernel
theorem dL_isField_430 : decode cL_isField 430 = .ok (.ireturn, 1) := by decide +kernel
set_option maxRecDepth 20000 in
theorem ggL_arePlayers_X4_squareOf : GoodIn wsL_arePlayers wsX4_squareOf := goodIn_ca (goodIn_ca (goodIn_r _ [5, 6, 7, 8, 9, 10, 11, 12, 4, 13, 14, 15, 16, 17, 18, 19, 20, 21, 22, 23, 24, 25, 26, 27, 28, 29, 30, 31, 32, 33, 34, 35, 36, 37, 38, 39, 40, 41, 42, 43, 44, 45, 46, 47, 48, 49, 50, 51, 52, 53, 54, 55, 82, 83, 84, 85, 86, 87, 88, 89, 90, 91, 92, 93, 94] (by decide +kernel) (by decide +kernel)) (goodIn_sub (fun _ h => List.mem_cons_of_mem _ (List.mem_append_left _ (List.mem_append_right _ h))) (by decide +kernel))) (goodIn_sub (fun _ h => List.mem_cons_of_mem _ (List.mem_append_right _ h)) (by decide +kernel))
set_option maxRecDepth 20000 in
theorem gL_arePlayers_X4_squareOf : GoodIn wsL_arePlayers (wsV RL 14 RX4 yX4_squareOf wsX4_squareOf) := goodIn_app (goodIn_of _ (by decide +kernel)) ggL_arePlayers_X4_squareOf
set_option maxRecDepth 20000 in
theorem ggL_arePlayers_X4_playerOf : GoodIn wsL_arePlayers wsX4_playerOf := goodIn_ca (goodIn_ca (goodIn_r _ [59, 6, 7, 8, 9, 10, 60, 61, 62, 17, 63, 46, 64, 65, 66, 67, 19, 68, 69, 70, 71, 45, 55, 15, 16, 18, 20, 21, 22, 23, 24, 25, 26, 27, 28, 29, 30, 31, 32, 72, 73, 74, 75, 76, 77, 78, 79, 80, 81, 42, 43, 44, 82, 83, 84, 85, 86, 87, 88, 89, 90, 91, 92, 93, 94] (by decide +kernel) (by decide +kernel)) (goodIn_sub (fun _ h => List.mem_cons_of_mem _ (List.mem_append_left _ (List.mem_append_right _ h))) (by decide +kernel))) (goodIn_sub (fun _ h => List.mem_cons_of_mem _ (List.mem_append_right _ h)) (by decide +kernel))
set_option maxRecDepth 20000 in
theorem gL_arePlayers_X4_playerOf : GoodIn wsL_arePlayers (wsV RL 27 RX4 yX4_playerOf wsX4_playerOf) := goodIn_app (goodIn_of _ (by decide +kernel)) ggL_arePlayers_X4_playerOf
theorem dL_arePlayers_0 : decode cL_arePlayers 0 = .ok (.iconst 0, 1) := by decide +kernel
theorem dL_arePlayers_1 : decode cL_arePlayers 1 = .ok (.istore_n 1, 1) := by decide +kernel
theorem dL_arePlayers_2 : decode cL_arePlayers 2 = .ok (.iload_n 1, 1) := by decide +kernel
theorem dL_arePlayers_3 : decode cL_arePlayers 3 = .ok (.iconst 2, 1) := by decide +kernel
theorem dL_arePlayers_4 : decode cL_arePlayers 4 = .ok (.if_icmp .ge 244, 3) := by decide +kernel
theorem dL_arePlayers_7 : decode cL_arePlayers 7 = .ok (.iconst 0, 1) := by decide +kernel
theorem dL_arePlayers_8 : decode cL_arePlayers 8 = .ok (.istore_n 2, 1) := by decide +kernel
theorem dL_arePlayers_9 : decode cL_arePlayers 9 = .ok (.iconst 0, 1) := by decide +kernel
theorem dL_arePlayers_10 : decode cL_arePlayers 10 = .ok (.istore_n 3, 1) := by decide +kernel
theorem dL_arePlayers_11 : decode cL_arePlayers 11 = .ok (.iconst 0, 1) := by decide +kernel
theorem dL_arePlayers_12 : decode cL_arePlayers 12 = .ok (.istore 4, 2) := by decide +kernel
theorem dL_arePlayers_14 : decode cL_arePlayers 14 = .ok (.iconst 0, 1) := by decide +kernel
theorem dL_arePlayers_15 : decode cL_arePlayers 15 = .ok (.istore 5, 2) := by decide +kernel
theorem dL_arePlayers_17 : decode cL_arePlayers 17 = .ok (.iconst 0, 1) := by decide +kernel
theorem dL_arePlayers_18 : decode cL_arePlayers 18 = .ok (.istore 6, 2) := by decide +kernel
theorem dL_arePlayers_20 : decode cL_arePlayers 20 = .ok (.iconst 0, 1) := by decide +kernel
theorem dL_arePlayers_21 : decode cL_arePlayers 21 = .ok (.istore 7, 2) := by decide +kernel
theorem dL_arePlayers_23 : decode cL_arePlayers 23 = .ok (.iload 7, 2) := by decide +kernel
theorem dL_arePlayers_25 : decode cL_arePlayers 25 = .ok (.bipush 36, 2) := by decide +kernel
theorem dL_arePlayers_27 : decode cL_arePlayers 27 = .ok (.if_icmp .ge 151, 3) := by decide +kernel
theorem dL_arePlayers_30 : decode cL_arePlayers 30 = .ok (.aload_n 0, 1) := by decide +kernel
theorem dL_arePlayers_31 : decode cL_arePlayers 31 = .ok (.iload 7, 2) := by decide +kernel
theorem dL_arePlayers_33 : decode cL_arePlayers 33 = .ok (.iconst 1, 1) := by decide +kernel
theorem dL_arePlayers_34 : decode cL_arePlayers 34 = .ok (.invokevirtual 14, 3) := by decide +kernel
theorem dL_arePlayers_37 : decode cL_arePlayers 37 = .ok (.iload_n 1, 1) := by decide +kernel
theorem dL_arePlayers_38 : decode cL_arePlayers 38 = .ok (.if_icmp .ne 7, 3) := by decide +kernel
theorem dL_arePlayers_41 : decode cL_arePlayers 41 = .ok (.iconst 1, 1) := by decide +kernel
theorem dL_arePlayers_42 : decode cL_arePlayers 42 = .ok (.goto 4, 3) := by decide +kernel
theorem dL_arePlayers_45 : decode cL_arePlayers 45 = .ok (.iconst 0, 1) := by decide +kernel
theorem dL_arePlayers_46 : decode cL_arePlayers 46 = .ok (.istore 8, 2) := by decide +kernel
theorem dL_arePlayers_48 : decode cL_arePlayers 48 = .ok (.aload_n 0, 1) := by decide +kernel
theorem dL_arePlayers_49 : decode cL_arePlayers 49 = .ok (.iload 7, 2) := by decide +kernel
theorem dL_arePlayers_51 : decode cL_arePlayers 51 = .ok (.iconst 3, 1) := by decide +kernel
theorem dL_arePlayers_52 : decode cL_arePlayers 52 = .ok (.invokevirtual 14, 3) := by decide +kernel
theorem dL_arePlayers_55 : decode cL_arePlayers 55 = .ok (.iconst 1, 1) := by decide +kernel
theorem dL_arePlayers_56 : decode cL_arePlayers 56 = .ok (.if_icmp .ne 7, 3) := by decide +kernel
theorem dL_arePlayers_59 : decode cL_arePlayers 59 = .ok (.iconst 1, 1) := by decide +kernel
theorem dL_arePlayers_60 : decode cL_arePlayers 60 = .ok (.goto 4, 3) := by decide +kernel
theorem dL_arePlayers_63 : decode cL_arePlayers 63 = .ok (.iconst 0, 1) := by decide +kernel
theorem dL_arePlayers_64 : decode cL_arePlayers 64 = .ok (.istore 9, 2) := by decide +kernel
theorem dL_arePlayers_66 : decode cL_arePlayers 66 = .ok (.iload_n 2, 1) := by decide +kernel
theorem dL_arePlayers_67 : decode cL_arePlayers 67 = .ok (.iload 8, 2) := by decide +kernel
theorem dL_arePlayers_69 : decode cL_arePlayers 69 = .ok (.ifCond .eq 7, 3) := by decide +kernel
theorem dL_arePlayers_72 : decode cL_arePlayers 72 = .ok (.iconst 1, 1) := by decide +kernel
theorem dL_arePlayers_73 : decode cL_arePlayers 73 = .ok (.goto 4, 3) := by decide +kernel
theorem dL_arePlayers_76 : decode cL_arePlayers 76 = .ok (.iconst 0, 1) := by decide +kernel
theorem dL_arePlayers_77 : decode cL_arePlayers 77 = .ok (.iadd, 1) := by decide +kernel
theorem dL_arePlayers_78 : decode cL_arePlayers 78 = .ok (.istore_n 2, 1) := by decide +kernel
theorem dL_arePlayers_79 : decode cL_arePlayers 79 = .ok (.iload_n 3, 1) := by decide +kernel
theorem dL_arePlayers_80 : decode cL_arePlayers 80 = .ok (.iload 8, 2) := by decide +kernel
theorem dL_arePlayers_82 : decode cL_arePlayers 82 = .ok (.ifCond .eq 13, 3) := by decide +kernel
theorem dL_arePlayers_85 : decode cL_arePlayers 85 = .ok (.aload_n 0, 1) := by decide +kernel
theorem dL_arePlayers_86 : decode cL_arePlayers 86 = .ok (.iload 7, 2) := by decide +kernel
theorem dL_arePlayers_88 : decode cL_arePlayers 88 = .ok (.iconst 0, 1) := by decide +kernel
theorem dL_arePlayers_89 : decode cL_arePlayers 89 = .ok (.invokevirtual 14, 3) := by decide +kernel
theorem dL_arePlayers_92 : decode cL_arePlayers 92 = .ok (.goto 4, 3) := by decide +kernel
theorem dL_arePlayers_95 : decode cL_arePlayers 95 = .ok (.iconst 0, 1) := by decide +kernel
theorem dL_arePlayers_96 : decode cL_arePlayers 96 = .ok (.iadd, 1) := by decide +kernel
theorem dL_arePlayers_97 : decode cL_arePlayers 97 = .ok (.istore_n 3, 1) := by decide +kernel
theorem dL_arePlayers_98 : decode cL_arePlayers 98 = .ok (.iload 4, 2) := by decide +kernel
theorem dL_arePlayers_100 : decode cL_arePlayers 100 = .ok (.iload 8, 2) := by decide +kernel
theorem dL_arePlayers_102 : decode cL_arePlayers 102 = .ok (.ifCond .eq 12, 3) := by decide +kernel
theorem dL_arePlayers_105 : decode cL_arePlayers 105 = .ok (.iload 9, 2) := by decide +kernel
theorem dL_arePlayers_107 : decode cL_arePlayers 107 = .ok (.ifCond .eq 7, 3) := by decide +kernel
theorem dL_arePlayers_110 : decode cL_arePlayers 110 = .ok (.iconst 1, 1) := by decide +kernel
theorem dL_arePlayers_111 : decode cL_arePlayers 111 = .ok (.goto 4, 3) := by decide +kernel
theorem dL_arePlayers_114 : decode cL_arePlayers 114 = .ok (.iconst 0, 1) := by decide +kernel
theorem dL_arePlayers_115 : decode cL_arePlayers 115 = .ok (.iadd, 1) := by decide +kernel
theorem dL_arePlayers_116 : decode cL_arePlayers 116 = .ok (.istore 4, 2) := by decide +kernel
theorem dL_arePlayers_118 : decode cL_arePlayers 118 = .ok (.iload 5, 2) := by decide +kernel
theorem dL_arePlayers_120 : decode cL_arePlayers 120 = .ok (.iload 8, 2) := by decide +kernel
theorem dL_arePlayers_122 : decode cL_arePlayers 122 = .ok (.ifCond .eq 18, 3) := by decide +kernel
theorem dL_arePlayers_125 : decode cL_arePlayers 125 = .ok (.iload 9, 2) := by decide +kernel
theorem dL_arePlayers_127 : decode cL_arePlayers 127 = .ok (.ifCond .ne 13, 3) := by decide +kernel
theorem dL_arePlayers_130 : decode cL_arePlayers 130 = .ok (.aload_n 0, 1) := by decide +kernel
theorem dL_arePlayers_131 : decode cL_arePlayers 131 = .ok (.iload 7, 2) := by decide +kernel
theorem dL_arePlayers_133 : decode cL_arePlayers 133 = .ok (.iconst 2, 1) := by decide +kernel
theorem dL_arePlayers_134 : decode cL_arePlayers 134 = .ok (.invokevirtual 14, 3) := by decide +kernel
theorem dL_arePlayers_137 : decode cL_arePlayers 137 = .ok (.goto 4, 3) := by decide +kernel
theorem dL_arePlayers_140 : decode cL_arePlayers 140 = .ok (.iconst 0, 1) := by decide +kernel
theorem dL_arePlayers_141 : decode cL_arePlayers 141 = .ok (.iadd, 1) := by decide +kernel
theorem dL_arePlayers_142 : decode cL_arePlayers 142 = .ok (.istore 5, 2) := by decide +kernel
theorem dL_arePlayers_144 : decode cL_arePlayers 144 = .ok (.iload 6, 2) := by decide +kernel
theorem dL_arePlayers_146 : decode cL_arePlayers 146 = .ok (.aload_n 0, 1) := by decide +kernel
theorem dL_arePlayers_147 : decode cL_arePlayers 147 = .ok (.iload 7, 2) := by decide +kernel
theorem dL_arePlayers_149 : decode cL_arePlayers 149 = .ok (.iconst 1, 1) := by decide +kernel
theorem dL_arePlayers_150 : decode cL_arePlayers 150 = .ok (.invokevirtual 14, 3) := by decide +kernel
theorem dL_arePlayers_153 : decode cL_arePlayers 153 = .ok (.iconst 1, 1) := by decide +kernel
theorem dL_arePlayers_154 : decode cL_arePlayers 154 = .ok (.iload_n 1, 1) := by decide +kernel
theorem dL_arePlayers_155 : decode cL_arePlayers 155 = .ok (.isub, 1) := by decide +kernel
theorem dL_arePlayers_156 : decode cL_arePlayers 156 = .ok (.if_icmp .ne 12, 3) := by decide +kernel
theorem dL_arePlayers_159 : decode cL_arePlayers 159 = .ok (.iload 9, 2) := by decide +kernel
theorem dL_arePlayers_161 : decode cL_arePlayers 161 = .ok (.ifCond .eq 7, 3) := by decide +kernel
theorem dL_arePlayers_164 : decode cL_arePlayers 164 = .ok (.iconst 1, 1) := by decide +kernel
theorem dL_arePlayers_165 : decode cL_arePlayers 165 = .ok (.goto 4, 3) := by decide +kernel
theorem dL_arePlayers_168 : decode cL_arePlayers 168 = .ok (.iconst 0, 1) := by decide +kernel
theorem dL_arePlayers_169 : decode cL_arePlayers 169 = .ok (.iadd, 1) := by decide +kernel
theorem dL_arePlayers_170 : decode cL_arePlayers 170 = .ok (.istore 6, 2) := by decide +kernel
theorem dL_arePlayers_172 : decode cL_arePlayers 172 = .ok (.iinc 7 1, 3) := by decide +kernel
theorem dL_arePlayers_175 : decode cL_arePlayers 175 = .ok (.goto (-152), 3) := by decide +kernel
theorem dL_arePlayers_178 : decode cL_arePlayers 178 = .ok (.aload_n 0, 1) := by decide +kernel
theorem dL_arePlayers_179 : decode cL_arePlayers 179 = .ok (.iload_n 1, 1) := by decide +kernel
theorem dL_arePlayers_180 : decode cL_arePlayers 180 = .ok (.iconst 1, 1) := by decide +kernel
theorem dL_arePlayers_181 : decode cL_arePlayers 181 = .ok (.invokevirtual 27, 3) := by decide +kernel
theorem dL_arePlayers_184 : decode cL_arePlayers 184 = .ok (.iload_n 2, 1) := by decide +kernel
theorem dL_arePlayers_185 : decode cL_arePlayers 185 = .ok (.if_icmp .ne 55, 3) := by decide +kernel
theorem dL_arePlayers_188 : decode cL_arePlayers 188 = .ok (.aload_n 0, 1) := by decide +kernel
theorem dL_arePlayers_189 : decode cL_arePlayers 189 = .ok (.iload_n 1, 1) := by decide +kernel
theorem dL_arePlayers_190 : decode cL_arePlayers 190 = .ok (.iconst 2, 1) := by decide +kernel
theorem dL_arePlayers_191 : decode cL_arePlayers 191 = .ok (.invokevirtual 27, 3) := by decide +kernel
theorem dL_arePlayers_194 : decode cL_arePlayers 194 = .ok (.iload_n 3, 1) := by decide +kernel
theorem dL_arePlayers_195 : decode cL_arePlayers 195 = .ok (.if_icmp .ne 45, 3) := by decide +kernel
theorem dL_arePlayers_198 : decode cL_arePlayers 198 = .ok (.aload_n 0, 1) := by decide +kernel
theorem dL_arePlayers_199 : decode cL_arePlayers 199 = .ok (.iload_n 1, 1) := by decide +kernel
theorem dL_arePlayers_200 : decode cL_arePlayers 200 = .ok (.iconst 3, 1) := by decide +kernel
theorem dL_arePlayers_201 : decode cL_arePlayers 201 = .ok (.invokevirtual 27, 3) := by decide +kernel
theorem dL_arePlayers_204 : decode cL_arePlayers 204 = .ok (.iload 4, 2) := by decide +kernel
theorem dL_arePlayers_206 : decode cL_arePlayers 206 = .ok (.if_icmp .ne 34, 3) := by decide +kernel
theorem dL_arePlayers_209 : decode cL_arePlayers 209 = .ok (.aload_n 0, 1) := by decide +kernel
theorem dL_arePlayers_210 : decode cL_arePlayers 210 = .ok (.iload_n 1, 1) := by decide +kernel
theorem dL_arePlayers_211 : decode cL_arePlayers 211 = .ok (.iconst 4, 1) := by decide +kernel
theorem dL_arePlayers_212 : decode cL_arePlayers 212 = .ok (.invokevirtual 27, 3) := by decide +kernel
theorem dL_arePlayers_215 : decode cL_arePlayers 215 = .ok (.iload 5, 2) := by decide +kernel
theorem dL_arePlayers_217 : decode cL_arePlayers 217 = .ok (.if_icmp .ne 23, 3) := by decide +kernel
theorem dL_arePlayers_220 : decode cL_arePlayers 220 = .ok (.aload_n 0, 1) := by decide +kernel
theorem dL_arePlayers_221 : decode cL_arePlayers 221 = .ok (.iload_n 1, 1) := by decide +kernel
theorem dL_arePlayers_222 : decode cL_arePlayers 222 = .ok (.iconst 5, 1) := by decide +kernel
theorem dL_arePlayers_223 : decode cL_arePlayers 223 = .ok (.invokevirtual 27, 3) := by decide +kernel
theorem dL_arePlayers_226 : decode cL_arePlayers 226 = .ok (.iload 6, 2) := by decide +kernel
theorem dL_arePlayers_228 : decode cL_arePlayers 228 = .ok (.if_icmp .gt 12, 3) := by decide +kernel
theorem dL_arePlayers_231 : decode cL_arePlayers 231 = .ok (.aload_n 0, 1) := by decide +kernel
theorem dL_arePlayers_232 : decode cL_arePlayers 232 = .ok (.iload_n 1, 1) := by decide +kernel
theorem dL_arePlayers_233 : decode cL_arePlayers 233 = .ok (.iconst 5, 1) := by decide +kernel
theorem dL_arePlayers_234 : decode cL_arePlayers 234 = .ok (.invokevirtual 27, 3) := by decide +kernel
theorem dL_arePlayers_237 : decode cL_arePlayers 237 = .ok (.ifCond .ge 5, 3) := by decide +kernel
theorem dL_arePlayers_240 : decode cL_arePlayers 240 = .ok (.iconst 0, 1) := by decide +kernel
theorem dL_arePlayers_241 : decode cL_arePlayers 241 = .ok (.ireturn, 1) := by decide +kernel
theorem dL_arePlayers_242 : decode cL_arePlayers 242 = .ok (.iinc 1 1, 3) := by decide +kernel
theorem dL_arePlayers_245 : decode cL_arePlayers 245 = .ok (.goto (-243), 3) := by decide +kernel
theorem dL_arePlayers_248 : decode cL_arePlayers 248 = .ok (.iconst 1, 1) := by decide +kernel
theorem dL_arePlayers_249 : decode cL_arePlayers 249 = .ok (.ireturn, 1) := by decide +kernel
set_option maxRecDepth 20000 in
theorem ggL_isTurn_X4_count : GoodIn wsL_isTurn wsX4_count := goodIn_ca (goodIn_r _ [5, 6, 7, 8, 9, 10, 11, 12, 13, 14, 15, 16, 17, 18, 19, 20, 21, 22, 23, 24, 25, 26, 27, 28, 29, 30, 31, 32, 33, 34, 35, 36, 37, 38, 39, 40, 41, 42, 43, 44, 45, 46, 47, 48, 165, 166, 167, 168, 169, 170, 171, 172, 173, 174, 175, 176, 177, 178, 179, 180] (by decide +kernel) (by decide +kernel)) (goodIn_sub (fun _ h => List.mem_cons_of_mem _ (List.mem_append_left _ (List.mem_append_right _ h))) (by decide +kernel))
set_option maxRecDepth 20000 in
theorem gL_isTurn_X4_count : GoodIn wsL_isTurn (wsV RL 8 RX4 yX4_count wsX4_count) := goodIn_app (goodIn_of _ (by decide +kernel)) ggL_isTurn_X4_count
set_option maxRecDepth 20000 in
theorem ggL_isTurn_X4_playerOf : GoodIn wsL_isTurn wsX4_playerOf := goodIn_ca (goodIn_ca (goodIn_r _ [52, 53, 54, 6, 7, 8, 55, 40, 41, 20, 42, 43, 56, 57, 58, 59, 26, 60, 61, 62, 63, 64, 22, 23, 24, 25, 27, 11, 12, 13, 28, 15, 16, 29, 30, 31, 32, 33, 34, 65, 66, 67, 68, 48, 69, 70, 71, 72, 73, 74, 75, 76, 165, 166, 167, 168, 169, 170, 171, 172, 173, 174, 175, 176, 177] (by decide +kernel) (by decide +kernel)) (goodIn_sub (fun _ h => List.mem_cons_of_mem _ (List.mem_append_right _ h)) (by decide +kernel))) (goodIn_sub (fun _ h => List.mem_cons_of_mem _ (List.mem_append_left _ (List.mem_append_right _ h))) (by decide +kernel))
set_option maxRecDepth 20000 in
theorem gL_isTurn_X4_playerOf : GoodIn wsL_isTurn (wsV RL 27 RX4 yX4_playerOf wsX4_playerOf) := goodIn_app (goodIn_of _ (by decide +kernel)) ggL_isTurn_X4_playerOf
set_option maxRecDepth 20000 in
theorem ggL_isTurn_X4_whyNot : GoodIn wsL_isTurn wsX4_whyNot := goodIn_ca (goodIn_r _ [80, 53, 54, 8, 81, 82, 4, 83, 84, 85, 86, 20, 87, 43, 88, 26, 64, 22, 23, 24, 25, 27, 11, 12, 13, 28, 15, 16, 29, 30, 31, 32, 33, 34, 165, 166, 167, 168, 169, 170, 171, 172, 173, 174, 175, 176, 177] (by decide +kernel) (by decide +kernel)) (goodIn_sub (fun _ h => List.mem_cons_of_mem _ (List.mem_append_right _ h)) (by decide +kernel))
set_option maxRecDepth 20000 in
theorem gL_isTurn_X4_whyNot : GoodIn wsL_isTurn (wsV RL 18 RX4 yX4_whyNot wsX4_whyNot) := goodIn_app (goodIn_of _ (by decide +kernel)) ggL_isTurn_X4_whyNot
set_option maxRecDepth 20000 in
theorem ggL_isTurn_X4_squareOf : GoodIn wsL_isTurn wsX4_squareOf := goodIn_ca (goodIn_ca (goodIn_r _ [92, 53, 54, 6, 7, 8, 81, 82, 4, 83, 93, 23, 24, 20, 25, 26, 27, 11, 12, 13, 28, 15, 16, 29, 30, 31, 32, 33, 34, 94, 95, 96, 97, 98, 99, 100, 101, 102, 74, 75, 76, 64, 43, 103, 104, 105, 106, 107, 108, 109, 110, 22, 165, 166, 167, 168, 169, 170, 171, 172, 173, 174, 175, 176, 177] (by decide +kernel) (by decide +kernel)) (goodIn_sub (fun _ h => List.mem_cons_of_mem _ (List.mem_append_right _ h)) (by decide +kernel))) (goodIn_sub (fun _ h => List.mem_cons_of_mem _ (List.mem_append_left _ (List.mem_append_right _ h))) (by decide +kernel))
set_option maxRecDepth 20000 in
theorem gL_isTurn_X4_squareOf : GoodIn wsL_isTurn (wsV RL 14 RX4 yX4_squareOf wsX4_squareOf) := goodIn_app (goodIn_of _ (by decide +kernel)) ggL_isTurn_X4_squareOf
set_option maxRecDepth 20000 in
theorem ggL_isTurn_X4_ifRaised : GoodIn wsL_isTurn wsX4_ifRaised := goodIn_ca (goodIn_r _ [114, 53, 54, 8, 81, 82, 4, 83, 115, 116, 117, 20, 118, 43, 26, 88, 119, 85, 86, 87, 64, 22, 23, 24, 25, 27, 11, 12, 13, 28, 15, 16, 29, 30, 31, 32, 33, 34, 120, 121, 122, 123, 124, 66, 67, 68, 48, 165, 166, 167, 168, 169, 170, 171, 172, 173, 174, 175, 176, 177] (by decide +kernel) (by decide +kernel)) (goodIn_sub (fun _ h => List.mem_cons_of_mem _ (List.mem_append_right _ h)) (by decide +kernel))
set_option maxRecDepth 20000 in
theorem gL_isTurn_X4_ifRaised : GoodIn wsL_isTurn (wsV RL 30 RX4 yX4_ifRaised wsX4_ifRaised) := goodIn_app (goodIn_of _ (by decide +kernel)) ggL_isTurn_X4_ifRaised
set_option maxRecDepth 20000 in
theorem ggL_isTurn_X4_rest : GoodIn wsL_isTurn wsX4_rest := goodIn_r _ [128, 9, 8, 129, 130, 131, 132, 133, 134, 135, 136, 137, 138, 139, 140, 141, 142, 143, 20, 144, 26, 145, 146, 147, 148, 43, 48, 149, 64, 88, 150, 151, 65, 66, 67, 68, 22, 23, 24, 25, 27, 11, 12, 13, 28, 15, 16, 29, 30, 31, 32, 33, 34, 152, 153, 154, 155, 124, 165, 166, 167, 168, 169, 170, 171, 172, 173, 174, 175, 176, 177, 178, 179, 180] (by decide +kernel) (by decide +kernel)
set_option maxRecDepth 20000 in
theorem gL_isTurn_X4_rest : GoodIn wsL_isTurn (wsV RL 33 RX4 yX4_rest wsX4_rest) := goodIn_app (goodIn_of _ (by decide +kernel)) ggL_isTurn_X4_rest
set_option maxRecDepth 20000 in
theorem ggL_isTurn_X4_raise : GoodIn wsL_isTurn wsX4_raise := goodIn_ca (goodIn_r _ [159, 53, 54, 9, 8, 81, 82, 4, 83, 129, 130, 131, 132, 133, 134, 135, 136, 137, 138, 139, 140, 141, 142, 143, 20, 144, 26, 145, 146, 147, 148, 43, 48, 149, 64, 88, 150, 151, 84, 85, 86, 87, 22, 23, 24, 25, 27, 11, 12, 13, 28, 15, 16, 29, 30, 31, 32, 33, 34, 160, 121, 122, 123, 152, 153, 154, 155, 124, 66, 67, 68, 165, 166, 167, 168, 169, 170, 171, 172, 173, 174, 175, 176, 177, 178, 179, 180] (by decide +kernel) (by decide +kernel)) (goodIn_sub (fun _ h => List.mem_cons_of_mem _ (List.mem_append_right _ h)) (by decide +kernel))
set_option maxRecDepth 20000 in
theorem gL_isTurn_X4_raise : GoodIn wsL_isTurn (wsV RL 37 RX4 yX4_raise wsX4_raise) := goodIn_app (goodIn_of _ (by decide +kernel)) ggL_isTurn_X4_raise
set_option maxRecDepth 20000 in
theorem ggL_isTurn_X4_hour : GoodIn wsL_isTurn wsX4_hour := goodIn_ca (goodIn_r _ [164, 6, 7, 9, 8, 129, 130, 131, 132, 133, 134, 135, 136, 137, 138, 139, 140, 141, 142, 143, 20, 144, 26, 145, 146, 147, 148, 43, 48, 149, 64, 88, 150, 151, 165, 166, 167, 168, 169, 170, 171, 172, 173, 174, 175, 176, 177, 178, 179, 180] (by decide +kernel) (by decide +kernel)) (goodIn_sub (fun _ h => List.mem_cons_of_mem _ (List.mem_append_left _ (List.mem_append_right _ h))) (by decide +kernel))
set_option maxRecDepth 20000 in
theorem gL_isTurn_X4_hour : GoodIn wsL_isTurn (wsV RL 40 RX4 yX4_hour wsX4_hour) := goodIn_app (goodIn_of _ (by decide +kernel)) ggL_isTurn_X4_hour
theorem dL_isTurn_0 : decode cL_isTurn 0 = .ok (.aload_n 0, 1) := by decide +kernel
theorem dL_isTurn_1 : decode cL_isTurn 1 = .ok (.iconst 3, 1) := by decide +kernel
theorem dL_isTurn_2 : decode cL_isTurn 2 = .ok (.invokevirtual 8, 3) := by decide +kernel
theorem dL_isTurn_5 : decode cL_isTurn 5 = .ok (.istore_n 3, 1) := by decide +kernel
theorem dL_isTurn_6 : decode cL_isTurn 6 = .ok (.aload_n 0, 1) := by decide +kernel
theorem dL_isTurn_7 : decode cL_isTurn 7 = .ok (.iconst 0, 1) := by decide +kernel
theorem dL_isTurn_8 : decode cL_isTurn 8 = .ok (.invokevirtual 8, 3) := by decide +kernel
theorem dL_isTurn_11 : decode cL_isTurn 11 = .ok (.istore 4, 2) := by decide +kernel
theorem dL_isTurn_13 : decode cL_isTurn 13 = .ok (.aload_n 0, 1) := by decide +kernel
theorem dL_isTurn_14 : decode cL_isTurn 14 = .ok (.iconst 4, 1) := by decide +kernel
theorem dL_isTurn_15 : decode cL_isTurn 15 = .ok (.invokevirtual 8, 3) := by decide +kernel
theorem dL_isTurn_18 : decode cL_isTurn 18 = .ok (.istore 5, 2) := by decide +kernel
theorem dL_isTurn_20 : decode cL_isTurn 20 = .ok (.aload_n 0, 1) := by decide +kernel
theorem dL_isTurn_21 : decode cL_isTurn 21 = .ok (.bipush 8, 2) := by decide +kernel
theorem dL_isTurn_23 : decode cL_isTurn 23 = .ok (.invokevirtual 8, 3) := by decide +kernel
theorem dL_isTurn_26 : decode cL_isTurn 26 = .ok (.istore 6, 2) := by decide +kernel
theorem dL_isTurn_28 : decode cL_isTurn 28 = .ok (.aload_n 0, 1) := by decide +kernel
theorem dL_isTurn_29 : decode cL_isTurn 29 = .ok (.iconst 0, 1) := by decide +kernel
theorem dL_isTurn_30 : decode cL_isTurn 30 = .ok (.iconst 0, 1) := by decide +kernel
theorem dL_isTurn_31 : decode cL_isTurn 31 = .ok (.invokevirtual 27, 3) := by decide +kernel
theorem dL_isTurn_34 : decode cL_isTurn 34 = .ok (.istore 7, 2) := by decide +kernel
theorem dL_isTurn_36 : decode cL_isTurn 36 = .ok (.aload_n 0, 1) := by decide +kernel
theorem dL_isTurn_37 : decode cL_isTurn 37 = .ok (.iconst 1, 1) := by decide +kernel
theorem dL_isTurn_38 : decode cL_isTurn 38 = .ok (.iconst 0, 1) := by decide +kernel
theorem dL_isTurn_39 : decode cL_isTurn 39 = .ok (.invokevirtual 27, 3) := by decide +kernel
theorem dL_isTurn_42 : decode cL_isTurn 42 = .ok (.istore 8, 2) := by decide +kernel
theorem dL_isTurn_44 : decode cL_isTurn 44 = .ok (.aload_n 0, 1) := by decide +kernel
theorem dL_isTurn_45 : decode cL_isTurn 45 = .ok (.iload_n 1, 1) := by decide +kernel
theorem dL_isTurn_46 : decode cL_isTurn 46 = .ok (.invokevirtual 18, 3) := by decide +kernel
theorem dL_isTurn_49 : decode cL_isTurn 49 = .ok (.istore 9, 2) := by decide +kernel
theorem dL_isTurn_51 : decode cL_isTurn 51 = .ok (.aload_n 0, 1) := by decide +kernel
theorem dL_isTurn_52 : decode cL_isTurn 52 = .ok (.iload_n 1, 1) := by decide +kernel
theorem dL_isTurn_53 : decode cL_isTurn 53 = .ok (.iconst 0, 1) := by decide +kernel
theorem dL_isTurn_54 : decode cL_isTurn 54 = .ok (.invokevirtual 14, 3) := by decide +kernel
theorem dL_isTurn_57 : decode cL_isTurn 57 = .ok (.istore 10, 2) := by decide +kernel
theorem dL_isTurn_59 : decode cL_isTurn 59 = .ok (.aload_n 0, 1) := by decide +kernel
theorem dL_isTurn_60 : decode cL_isTurn 60 = .ok (.iload_n 1, 1) := by decide +kernel
theorem dL_isTurn_61 : decode cL_isTurn 61 = .ok (.invokevirtual 30, 3) := by decide +kernel
theorem dL_isTurn_64 : decode cL_isTurn 64 = .ok (.istore 11, 2) := by decide +kernel
theorem dL_isTurn_66 : decode cL_isTurn 66 = .ok (.aload_n 0, 1) := by decide +kernel
theorem dL_isTurn_67 : decode cL_isTurn 67 = .ok (.iload_n 3, 1) := by decide +kernel
theorem dL_isTurn_68 : decode cL_isTurn 68 = .ok (.iconst 4, 1) := by decide +kernel
theorem dL_isTurn_69 : decode cL_isTurn 69 = .ok (.invokevirtual 27, 3) := by decide +kernel
theorem dL_isTurn_72 : decode cL_isTurn 72 = .ok (.istore 12, 2) := by decide +kernel
theorem dL_isTurn_74 : decode cL_isTurn 74 = .ok (.aload_n 0, 1) := by decide +kernel
theorem dL_isTurn_75 : decode cL_isTurn 75 = .ok (.iconst 1, 1) := by decide +kernel
theorem dL_isTurn_76 : decode cL_isTurn 76 = .ok (.iload_n 3, 1) := by decide +kernel
theorem dL_isTurn_77 : decode cL_isTurn 77 = .ok (.isub, 1) := by decide +kernel
theorem dL_isTurn_78 : decode cL_isTurn 78 = .ok (.iconst 4, 1) := by decide +kernel
theorem dL_isTurn_79 : decode cL_isTurn 79 = .ok (.invokevirtual 27, 3) := by decide +kernel
theorem dL_isTurn_82 : decode cL_isTurn 82 = .ok (.istore 13, 2) := by decide +kernel
theorem dL_isTurn_84 : decode cL_isTurn 84 = .ok (.iload_n 2, 1) := by decide +kernel
theorem dL_isTurn_85 : decode cL_isTurn 85 = .ok (.ifCond .eq 115, 3) := by decide +kernel
theorem dL_isTurn_88 : decode cL_isTurn 88 = .ok (.aload_n 0, 1) := by decide +kernel
theorem dL_isTurn_89 : decode cL_isTurn 89 = .ok (.invokevirtual 33, 3) := by decide +kernel
theorem dL_isTurn_92 : decode cL_isTurn 92 = .ok (.iload 12, 2) := by decide +kernel
theorem dL_isTurn_94 : decode cL_isTurn 94 = .ok (.if_icmp .ne 104, 3) := by decide +kernel
theorem dL_isTurn_97 : decode cL_isTurn 97 = .ok (.aload_n 0, 1) := by decide +kernel
theorem dL_isTurn_98 : decode cL_isTurn 98 = .ok (.iload_n 3, 1) := by decide +kernel
theorem dL_isTurn_99 : decode cL_isTurn 99 = .ok (.iconst 0, 1) := by decide +kernel
theorem dL_isTurn_100 : decode cL_isTurn 100 = .ok (.invokevirtual 27, 3) := by decide +kernel
theorem dL_isTurn_103 : decode cL_isTurn 103 = .ok (.iload_n 3, 1) := by decide +kernel
theorem dL_isTurn_104 : decode cL_isTurn 104 = .ok (.ifCond .ne 8, 3) := by decide +kernel
theorem dL_isTurn_107 : decode cL_isTurn 107 = .ok (.iload 7, 2) := by decide +kernel
theorem dL_isTurn_109 : decode cL_isTurn 109 = .ok (.goto 5, 3) := by decide +kernel
theorem dL_isTurn_112 : decode cL_isTurn 112 = .ok (.iload 8, 2) := by decide +kernel
theorem dL_isTurn_114 : decode cL_isTurn 114 = .ok (.iload 12, 2) := by decide +kernel
theorem dL_isTurn_116 : decode cL_isTurn 116 = .ok (.iadd, 1) := by decide +kernel
theorem dL_isTurn_117 : decode cL_isTurn 117 = .ok (.if_icmp .ne 81, 3) := by decide +kernel
theorem dL_isTurn_120 : decode cL_isTurn 120 = .ok (.aload_n 0, 1) := by decide +kernel
theorem dL_isTurn_121 : decode cL_isTurn 121 = .ok (.iconst 1, 1) := by decide +kernel
theorem dL_isTurn_122 : decode cL_isTurn 122 = .ok (.iload_n 3, 1) := by decide +kernel
theorem dL_isTurn_123 : decode cL_isTurn 123 = .ok (.isub, 1) := by decide +kernel
theorem dL_isTurn_124 : decode cL_isTurn 124 = .ok (.iconst 0, 1) := by decide +kernel
theorem dL_isTurn_125 : decode cL_isTurn 125 = .ok (.invokevirtual 27, 3) := by decide +kernel
theorem dL_isTurn_128 : decode cL_isTurn 128 = .ok (.iload_n 3, 1) := by decide +kernel
theorem dL_isTurn_129 : decode cL_isTurn 129 = .ok (.ifCond .ne 8, 3) := by decide +kernel
theorem dL_isTurn_132 : decode cL_isTurn 132 = .ok (.iload 8, 2) := by decide +kernel
theorem dL_isTurn_134 : decode cL_isTurn 134 = .ok (.goto 5, 3) := by decide +kernel
theorem dL_isTurn_137 : decode cL_isTurn 137 = .ok (.iload 7, 2) := by decide +kernel
theorem dL_isTurn_139 : decode cL_isTurn 139 = .ok (.iload 13, 2) := by decide +kernel
theorem dL_isTurn_141 : decode cL_isTurn 141 = .ok (.iadd, 1) := by decide +kernel
theorem dL_isTurn_142 : decode cL_isTurn 142 = .ok (.if_icmp .ne 56, 3) := by decide +kernel
theorem dL_isTurn_145 : decode cL_isTurn 145 = .ok (.aload_n 0, 1) := by decide +kernel
theorem dL_isTurn_146 : decode cL_isTurn 146 = .ok (.iconst 0, 1) := by decide +kernel
theorem dL_isTurn_147 : decode cL_isTurn 147 = .ok (.invokevirtual 8, 3) := by decide +kernel
theorem dL_isTurn_150 : decode cL_isTurn 150 = .ok (.iload 4, 2) := by decide +kernel
theorem dL_isTurn_152 : decode cL_isTurn 152 = .ok (.iconst 1, 1) := by decide +kernel
theorem dL_isTurn_153 : decode cL_isTurn 153 = .ok (.iadd, 1) := by decide +kernel
theorem dL_isTurn_154 : decode cL_isTurn 154 = .ok (.bipush 12, 2) := by decide +kernel
theorem dL_isTurn_156 : decode cL_isTurn 156 = .ok (.irem, 1) := by decide +kernel
theorem dL_isTurn_157 : decode cL_isTurn 157 = .ok (.if_icmp .ne 41, 3) := by decide +kernel
theorem dL_isTurn_160 : decode cL_isTurn 160 = .ok (.aload_n 0, 1) := by decide +kernel
theorem dL_isTurn_161 : decode cL_isTurn 161 = .ok (.iconst 3, 1) := by decide +kernel
theorem dL_isTurn_162 : decode cL_isTurn 162 = .ok (.invokevirtual 8, 3) := by decide +kernel
theorem dL_isTurn_165 : decode cL_isTurn 165 = .ok (.iconst 1, 1) := by decide +kernel
theorem dL_isTurn_166 : decode cL_isTurn 166 = .ok (.iload_n 3, 1) := by decide +kernel
theorem dL_isTurn_167 : decode cL_isTurn 167 = .ok (.isub, 1) := by decide +kernel
theorem dL_isTurn_168 : decode cL_isTurn 168 = .ok (.if_icmp .ne 30, 3) := by decide +kernel
theorem dL_isTurn_171 : decode cL_isTurn 171 = .ok (.aload_n 0, 1) := by decide +kernel
theorem dL_isTurn_172 : decode cL_isTurn 172 = .ok (.iconst 4, 1) := by decide +kernel
theorem dL_isTurn_173 : decode cL_isTurn 173 = .ok (.invokevirtual 8, 3) := by decide +kernel
theorem dL_isTurn_176 : decode cL_isTurn 176 = .ok (.iload 5, 2) := by decide +kernel
theorem dL_isTurn_178 : decode cL_isTurn 178 = .ok (.iconst 1, 1) := by decide +kernel
theorem dL_isTurn_179 : decode cL_isTurn 179 = .ok (.iadd, 1) := by decide +kernel
theorem dL_isTurn_180 : decode cL_isTurn 180 = .ok (.if_icmp .ne 18, 3) := by decide +kernel
theorem dL_isTurn_183 : decode cL_isTurn 183 = .ok (.aload_n 0, 1) := by decide +kernel
theorem dL_isTurn_184 : decode cL_isTurn 184 = .ok (.bipush 8, 2) := by decide +kernel
theorem dL_isTurn_186 : decode cL_isTurn 186 = .ok (.invokevirtual 8, 3) := by decide +kernel
theorem dL_isTurn_189 : decode cL_isTurn 189 = .ok (.iload 6, 2) := by decide +kernel
theorem dL_isTurn_191 : decode cL_isTurn 191 = .ok (.if_icmp .ne 7, 3) := by decide +kernel
theorem dL_isTurn_194 : decode cL_isTurn 194 = .ok (.iconst 1, 1) := by decide +kernel
theorem dL_isTurn_195 : decode cL_isTurn 195 = .ok (.goto 4, 3) := by decide +kernel
theorem dL_isTurn_198 : decode cL_isTurn 198 = .ok (.iconst 0, 1) := by decide +kernel
theorem dL_isTurn_199 : decode cL_isTurn 199 = .ok (.ireturn, 1) := by decide +kernel
theorem dL_isTurn_200 : decode cL_isTurn 200 = .ok (.aload_n 0, 1) := by decide +kernel
theorem dL_isTurn_201 : decode cL_isTurn 201 = .ok (.iload_n 1, 1) := by decide +kernel
theorem dL_isTurn_202 : decode cL_isTurn 202 = .ok (.invokevirtual 37, 3) := by decide +kernel
theorem dL_isTurn_205 : decode cL_isTurn 205 = .ok (.istore 14, 2) := by decide +kernel
theorem dL_isTurn_207 : decode cL_isTurn 207 = .ok (.iload 9, 2) := by decide +kernel
theorem dL_isTurn_209 : decode cL_isTurn 209 = .ok (.ifCond .le 88, 3) := by decide +kernel
theorem dL_isTurn_212 : decode cL_isTurn 212 = .ok (.iload 14, 2) := by decide +kernel
theorem dL_isTurn_214 : decode cL_isTurn 214 = .ok (.iload 9, 2) := by decide +kernel
theorem dL_isTurn_216 : decode cL_isTurn 216 = .ok (.if_icmp .ne 79, 3) := by decide +kernel
theorem dL_isTurn_219 : decode cL_isTurn 219 = .ok (.iload 11, 2) := by decide +kernel
theorem dL_isTurn_221 : decode cL_isTurn 221 = .ok (.sipush (-999), 3) := by decide +kernel
theorem dL_isTurn_224 : decode cL_isTurn 224 = .ok (.if_icmp .ne 71, 3) := by decide +kernel
theorem dL_isTurn_227 : decode cL_isTurn 227 = .ok (.aload_n 0, 1) := by decide +kernel
theorem dL_isTurn_228 : decode cL_isTurn 228 = .ok (.bipush 8, 2) := by decide +kernel
theorem dL_isTurn_230 : decode cL_isTurn 230 = .ok (.invokevirtual 8, 3) := by decide +kernel
theorem dL_isTurn_233 : decode cL_isTurn 233 = .ok (.iload 6, 2) := by decide +kernel
theorem dL_isTurn_235 : decode cL_isTurn 235 = .ok (.iconst 1, 1) := by decide +kernel
theorem dL_isTurn_236 : decode cL_isTurn 236 = .ok (.iadd, 1) := by decide +kernel
theorem dL_isTurn_237 : decode cL_isTurn 237 = .ok (.if_icmp .ne 58, 3) := by decide +kernel
theorem dL_isTurn_240 : decode cL_isTurn 240 = .ok (.aload_n 0, 1) := by decide +kernel
theorem dL_isTurn_241 : decode cL_isTurn 241 = .ok (.iconst 4, 1) := by decide +kernel
theorem dL_isTurn_242 : decode cL_isTurn 242 = .ok (.invokevirtual 8, 3) := by decide +kernel
theorem dL_isTurn_245 : decode cL_isTurn 245 = .ok (.iload 5, 2) := by decide +kernel
theorem dL_isTurn_247 : decode cL_isTurn 247 = .ok (.if_icmp .ne 48, 3) := by decide +kernel
theorem dL_isTurn_250 : decode cL_isTurn 250 = .ok (.aload_n 0, 1) := by decide +kernel
theorem dL_isTurn_251 : decode cL_isTurn 251 = .ok (.iconst 0, 1) := by decide +kernel
theorem dL_isTurn_252 : decode cL_isTurn 252 = .ok (.invokevirtual 8, 3) := by decide +kernel
theorem dL_isTurn_255 : decode cL_isTurn 255 = .ok (.iload 4, 2) := by decide +kernel
theorem dL_isTurn_257 : decode cL_isTurn 257 = .ok (.if_icmp .ne 38, 3) := by decide +kernel
theorem dL_isTurn_260 : decode cL_isTurn 260 = .ok (.aload_n 0, 1) := by decide +kernel
theorem dL_isTurn_261 : decode cL_isTurn 261 = .ok (.iconst 3, 1) := by decide +kernel
theorem dL_isTurn_262 : decode cL_isTurn 262 = .ok (.invokevirtual 8, 3) := by decide +kernel
theorem dL_isTurn_265 : decode cL_isTurn 265 = .ok (.iload_n 3, 1) := by decide +kernel
theorem dL_isTurn_266 : decode cL_isTurn 266 = .ok (.if_icmp .ne 29, 3) := by decide +kernel
theorem dL_isTurn_269 : decode cL_isTurn 269 = .ok (.aload_n 0, 1) := by decide +kernel
theorem dL_isTurn_270 : decode cL_isTurn 270 = .ok (.iconst 0, 1) := by decide +kernel
theorem dL_isTurn_271 : decode cL_isTurn 271 = .ok (.iconst 0, 1) := by decide +kernel
theorem dL_isTurn_272 : decode cL_isTurn 272 = .ok (.invokevirtual 27, 3) := by decide +kernel
theorem dL_isTurn_275 : decode cL_isTurn 275 = .ok (.iload 7, 2) := by decide +kernel
theorem dL_isTurn_277 : decode cL_isTurn 277 = .ok (.if_icmp .ne 18, 3) := by decide +kernel
theorem dL_isTurn_280 : decode cL_isTurn 280 = .ok (.aload_n 0, 1) := by decide +kernel
theorem dL_isTurn_281 : decode cL_isTurn 281 = .ok (.iconst 1, 1) := by decide +kernel
theorem dL_isTurn_282 : decode cL_isTurn 282 = .ok (.iconst 0, 1) := by decide +kernel
theorem dL_isTurn_283 : decode cL_isTurn 283 = .ok (.invokevirtual 27, 3) := by decide +kernel
theorem dL_isTurn_286 : decode cL_isTurn 286 = .ok (.iload 8, 2) := by decide +kernel
theorem dL_isTurn_288 : decode cL_isTurn 288 = .ok (.if_icmp .ne 7, 3) := by decide +kernel
theorem dL_isTurn_291 : decode cL_isTurn 291 = .ok (.iconst 1, 1) := by decide +kernel
theorem dL_isTurn_292 : decode cL_isTurn 292 = .ok (.goto 4, 3) := by decide +kernel
theorem dL_isTurn_295 : decode cL_isTurn 295 = .ok (.iconst 0, 1) := by decide +kernel
theorem dL_isTurn_296 : decode cL_isTurn 296 = .ok (.ireturn, 1) := by decide +kernel
theorem dL_isTurn_297 : decode cL_isTurn 297 = .ok (.aload_n 0, 1) := by decide +kernel
theorem dL_isTurn_298 : decode cL_isTurn 298 = .ok (.iload_n 3, 1) := by decide +kernel
theorem dL_isTurn_299 : decode cL_isTurn 299 = .ok (.iconst 0, 1) := by decide +kernel
theorem dL_isTurn_300 : decode cL_isTurn 300 = .ok (.invokevirtual 27, 3) := by decide +kernel
theorem dL_isTurn_303 : decode cL_isTurn 303 = .ok (.iload_n 3, 1) := by decide +kernel
theorem dL_isTurn_304 : decode cL_isTurn 304 = .ok (.ifCond .ne 8, 3) := by decide +kernel
theorem dL_isTurn_307 : decode cL_isTurn 307 = .ok (.iload 7, 2) := by decide +kernel
theorem dL_isTurn_309 : decode cL_isTurn 309 = .ok (.goto 5, 3) := by decide +kernel
theorem dL_isTurn_312 : decode cL_isTurn 312 = .ok (.iload 8, 2) := by decide +kernel
theorem dL_isTurn_314 : decode cL_isTurn 314 = .ok (.isub, 1) := by decide +kernel
theorem dL_isTurn_315 : decode cL_isTurn 315 = .ok (.istore 15, 2) := by decide +kernel
theorem dL_isTurn_317 : decode cL_isTurn 317 = .ok (.aload_n 0, 1) := by decide +kernel
theorem dL_isTurn_318 : decode cL_isTurn 318 = .ok (.iconst 1, 1) := by decide +kernel
theorem dL_isTurn_319 : decode cL_isTurn 319 = .ok (.iload_n 3, 1) := by decide +kernel
theorem dL_isTurn_320 : decode cL_isTurn 320 = .ok (.isub, 1) := by decide +kernel
theorem dL_isTurn_321 : decode cL_isTurn 321 = .ok (.iconst 0, 1) := by decide +kernel
theorem dL_isTurn_322 : decode cL_isTurn 322 = .ok (.invokevirtual 27, 3) := by decide +kernel
theorem dL_isTurn_325 : decode cL_isTurn 325 = .ok (.iload_n 3, 1) := by decide +kernel
theorem dL_isTurn_326 : decode cL_isTurn 326 = .ok (.ifCond .ne 8, 3) := by decide +kernel
theorem dL_isTurn_329 : decode cL_isTurn 329 = .ok (.iload 8, 2) := by decide +kernel
theorem dL_isTurn_331 : decode cL_isTurn 331 = .ok (.goto 5, 3) := by decide +kernel
theorem dL_isTurn_334 : decode cL_isTurn 334 = .ok (.iload 7, 2) := by decide +kernel
theorem dL_isTurn_336 : decode cL_isTurn 336 = .ok (.isub, 1) := by decide +kernel
theorem dL_isTurn_337 : decode cL_isTurn 337 = .ok (.istore 16, 2) := by decide +kernel
theorem dL_isTurn_339 : decode cL_isTurn 339 = .ok (.aload_n 0, 1) := by decide +kernel
theorem dL_isTurn_340 : decode cL_isTurn 340 = .ok (.aload_n 0, 1) := by decide +kernel
theorem dL_isTurn_341 : decode cL_isTurn 341 = .ok (.iconst 0, 1) := by decide +kernel
theorem dL_isTurn_342 : decode cL_isTurn 342 = .ok (.invokevirtual 8, 3) := by decide +kernel
theorem dL_isTurn_345 : decode cL_isTurn 345 = .ok (.bipush 11, 2) := by decide +kernel
theorem dL_isTurn_347 : decode cL_isTurn 347 = .ok (.iadd, 1) := by decide +kernel
theorem dL_isTurn_348 : decode cL_isTurn 348 = .ok (.bipush 12, 2) := by decide +kernel
theorem dL_isTurn_350 : decode cL_isTurn 350 = .ok (.irem, 1) := by decide +kernel
theorem dL_isTurn_351 : decode cL_isTurn 351 = .ok (.invokevirtual 40, 3) := by decide +kernel
theorem dL_isTurn_354 : decode cL_isTurn 354 = .ok (.istore 17, 2) := by decide +kernel
theorem dL_isTurn_356 : decode cL_isTurn 356 = .ok (.aload_n 0, 1) := by decide +kernel
theorem dL_isTurn_357 : decode cL_isTurn 357 = .ok (.iload_n 3, 1) := by decide +kernel
theorem dL_isTurn_358 : decode cL_isTurn 358 = .ok (.iconst 4, 1) := by decide +kernel
theorem dL_isTurn_359 : decode cL_isTurn 359 = .ok (.invokevirtual 27, 3) := by decide +kernel
theorem dL_isTurn_362 : decode cL_isTurn 362 = .ok (.iload 15, 2) := by decide +kernel
theorem dL_isTurn_364 : decode cL_isTurn 364 = .ok (.if_icmp .ne 43, 3) := by decide +kernel
theorem dL_isTurn_367 : decode cL_isTurn 367 = .ok (.aload_n 0, 1) := by decide +kernel
theorem dL_isTurn_368 : decode cL_isTurn 368 = .ok (.iconst 1, 1) := by decide +kernel
theorem dL_isTurn_369 : decode cL_isTurn 369 = .ok (.iload_n 3, 1) := by decide +kernel
theorem dL_isTurn_370 : decode cL_isTurn 370 = .ok (.isub, 1) := by decide +kernel
theorem dL_isTurn_371 : decode cL_isTurn 371 = .ok (.iconst 4, 1) := by decide +kernel
theorem dL_isTurn_372 : decode cL_isTurn 372 = .ok (.invokevirtual 27, 3) := by decide +kernel
theorem dL_isTurn_375 : decode cL_isTurn 375 = .ok (.iload 16, 2) := by decide +kernel
theorem dL_isTurn_377 : decode cL_isTurn 377 = .ok (.if_icmp .ne 30, 3) := by decide +kernel
theorem dL_isTurn_380 : decode cL_isTurn 380 = .ok (.iload 17, 2) := by decide +kernel
theorem dL_isTurn_382 : decode cL_isTurn 382 = .ok (.iload 4, 2) := by decide +kernel
theorem dL_isTurn_384 : decode cL_isTurn 384 = .ok (.iconst 1, 1) := by decide +kernel
theorem dL_isTurn_385 : decode cL_isTurn 385 = .ok (.iadd, 1) := by decide +kernel
theorem dL_isTurn_386 : decode cL_isTurn 386 = .ok (.bipush 12, 2) := by decide +kernel
theorem dL_isTurn_388 : decode cL_isTurn 388 = .ok (.irem, 1) := by decide +kernel
theorem dL_isTurn_389 : decode cL_isTurn 389 = .ok (.if_icmp .ne 18, 3) := by decide +kernel
theorem dL_isTurn_392 : decode cL_isTurn 392 = .ok (.aload_n 0, 1) := by decide +kernel
theorem dL_isTurn_393 : decode cL_isTurn 393 = .ok (.iload 17, 2) := by decide +kernel
theorem dL_isTurn_395 : decode cL_isTurn 395 = .ok (.invokevirtual 40, 3) := by decide +kernel
theorem dL_isTurn_398 : decode cL_isTurn 398 = .ok (.iload 4, 2) := by decide +kernel
theorem dL_isTurn_400 : decode cL_isTurn 400 = .ok (.if_icmp .ne 7, 3) := by decide +kernel
theorem dL_isTurn_403 : decode cL_isTurn 403 = .ok (.iconst 1, 1) := by decide +kernel
theorem dL_isTurn_404 : decode cL_isTurn 404 = .ok (.goto 4, 3) := by decide +kernel
theorem dL_isTurn_407 : decode cL_isTurn 407 = .ok (.iconst 0, 1) := by decide +kernel
theorem dL_isTurn_408 : decode cL_isTurn 408 = .ok (.istore 18, 2) := by decide +kernel
theorem dL_isTurn_410 : decode cL_isTurn 410 = .ok (.iload 18, 2) := by decide +kernel
theorem dL_isTurn_412 : decode cL_isTurn 412 = .ok (.ifCond .eq 83, 3) := by decide +kernel
theorem dL_isTurn_415 : decode cL_isTurn 415 = .ok (.iload 14, 2) := by decide +kernel
theorem dL_isTurn_417 : decode cL_isTurn 417 = .ok (.bipush 11, 2) := by decide +kernel
theorem dL_isTurn_419 : decode cL_isTurn 419 = .ok (.iload 10, 2) := by decide +kernel
theorem dL_isTurn_421 : decode cL_isTurn 421 = .ok (.iadd, 1) := by decide +kernel
theorem dL_isTurn_422 : decode cL_isTurn 422 = .ok (.if_icmp .ne 73, 3) := by decide +kernel
theorem dL_isTurn_425 : decode cL_isTurn 425 = .ok (.aload_n 0, 1) := by decide +kernel
theorem dL_isTurn_426 : decode cL_isTurn 426 = .ok (.iload_n 1, 1) := by decide +kernel
theorem dL_isTurn_427 : decode cL_isTurn 427 = .ok (.iconst 0, 1) := by decide +kernel
theorem dL_isTurn_428 : decode cL_isTurn 428 = .ok (.invokevirtual 14, 3) := by decide +kernel
theorem dL_isTurn_431 : decode cL_isTurn 431 = .ok (.iload 10, 2) := by decide +kernel
theorem dL_isTurn_433 : decode cL_isTurn 433 = .ok (.iconst 1, 1) := by decide +kernel
theorem dL_isTurn_434 : decode cL_isTurn 434 = .ok (.iadd, 1) := by decide +kernel
theorem dL_isTurn_435 : decode cL_isTurn 435 = .ok (.if_icmp .ne 60, 3) := by decide +kernel
theorem dL_isTurn_438 : decode cL_isTurn 438 = .ok (.aload_n 0, 1) := by decide +kernel
theorem dL_isTurn_439 : decode cL_isTurn 439 = .ok (.iload_n 1, 1) := by decide +kernel
theorem dL_isTurn_440 : decode cL_isTurn 440 = .ok (.iconst 1, 1) := by decide +kernel
theorem dL_isTurn_441 : decode cL_isTurn 441 = .ok (.invokevirtual 14, 3) := by decide +kernel
theorem dL_isTurn_444 : decode cL_isTurn 444 = .ok (.iload_n 3, 1) := by decide +kernel
theorem dL_isTurn_445 : decode cL_isTurn 445 = .ok (.if_icmp .ne 50, 3) := by decide +kernel
theorem dL_isTurn_448 : decode cL_isTurn 448 = .ok (.iload 15, 2) := by decide +kernel
theorem dL_isTurn_450 : decode cL_isTurn 450 = .ok (.iload 16, 2) := by decide +kernel
theorem dL_isTurn_452 : decode cL_isTurn 452 = .ok (.isub, 1) := by decide +kernel
theorem dL_isTurn_453 : decode cL_isTurn 453 = .ok (.iload 11, 2) := by decide +kernel
theorem dL_isTurn_455 : decode cL_isTurn 455 = .ok (.if_icmp .ne 40, 3) := by decide +kernel
theorem dL_isTurn_458 : decode cL_isTurn 458 = .ok (.aload_n 0, 1) := by decide +kernel
theorem dL_isTurn_459 : decode cL_isTurn 459 = .ok (.iconst 4, 1) := by decide +kernel
theorem dL_isTurn_460 : decode cL_isTurn 460 = .ok (.invokevirtual 8, 3) := by decide +kernel
theorem dL_isTurn_463 : decode cL_isTurn 463 = .ok (.iload 5, 2) := by decide +kernel
theorem dL_isTurn_465 : decode cL_isTurn 465 = .ok (.iconst 1, 1) := by decide +kernel
theorem dL_isTurn_466 : decode cL_isTurn 466 = .ok (.iadd, 1) := by decide +kernel
theorem dL_isTurn_467 : decode cL_isTurn 467 = .ok (.if_icmp .ne 28, 3) := by decide +kernel
theorem dL_isTurn_470 : decode cL_isTurn 470 = .ok (.aload_n 0, 1) := by decide +kernel
theorem dL_isTurn_471 : decode cL_isTurn 471 = .ok (.iconst 3, 1) := by decide +kernel
theorem dL_isTurn_472 : decode cL_isTurn 472 = .ok (.invokevirtual 8, 3) := by decide +kernel
theorem dL_isTurn_475 : decode cL_isTurn 475 = .ok (.iconst 1, 1) := by decide +kernel
theorem dL_isTurn_476 : decode cL_isTurn 476 = .ok (.iload_n 3, 1) := by decide +kernel
theorem dL_isTurn_477 : decode cL_isTurn 477 = .ok (.isub, 1) := by decide +kernel
theorem dL_isTurn_478 : decode cL_isTurn 478 = .ok (.if_icmp .ne 17, 3) := by decide +kernel
theorem dL_isTurn_481 : decode cL_isTurn 481 = .ok (.aload_n 0, 1) := by decide +kernel
theorem dL_isTurn_482 : decode cL_isTurn 482 = .ok (.iconst 0, 1) := by decide +kernel
theorem dL_isTurn_483 : decode cL_isTurn 483 = .ok (.invokevirtual 8, 3) := by decide +kernel
theorem dL_isTurn_486 : decode cL_isTurn 486 = .ok (.iload 17, 2) := by decide +kernel
theorem dL_isTurn_488 : decode cL_isTurn 488 = .ok (.if_icmp .ne 7, 3) := by decide +kernel
theorem dL_isTurn_491 : decode cL_isTurn 491 = .ok (.iconst 1, 1) := by decide +kernel
theorem dL_isTurn_492 : decode cL_isTurn 492 = .ok (.goto 4, 3) := by decide +kernel
theorem dL_isTurn_495 : decode cL_isTurn 495 = .ok (.iconst 0, 1) := by decide +kernel
theorem dL_isTurn_496 : decode cL_isTurn 496 = .ok (.ireturn, 1) := by decide +kernel
set_option maxRecDepth 20000 in
theorem ggL_isBest_X4_bestSquare : GoodIn wsL_isBest wsX4_bestSquare := goodIn_r _ [5, 6, 7, 8, 9, 10, 11, 12, 13, 14, 15, 16, 17, 18, 19, 20, 21, 22, 23, 24, 25, 26, 27, 28, 29, 30, 31, 32, 33, 34, 35, 36, 37, 38, 39, 40, 41, 42, 43, 44, 45, 141, 142, 143, 144, 145, 146, 147, 148, 149, 150, 151, 152, 153] (by decide +kernel) (by decide +kernel)
set_option maxRecDepth 20000 in
theorem gL_isBest_X4_bestSquare : GoodIn wsL_isBest (wsV RL 43 RX4 yX4_bestSquare wsX4_bestSquare) := goodIn_app (goodIn_of _ (by decide +kernel)) ggL_isBest_X4_bestSquare
set_option maxRecDepth 20000 in
theorem ggL_isBest_X4_ifRaised : GoodIn wsL_isBest wsX4_ifRaised := goodIn_ca (goodIn_r _ [49, 50, 51, 6, 52, 53, 4, 54, 7, 8, 9, 10, 11, 12, 13, 14, 15, 16, 17, 18, 19, 20, 21, 22, 23, 24, 25, 26, 27, 28, 29, 30, 31, 32, 33, 34, 35, 36, 37, 38, 39, 40, 41, 42, 43, 44, 45, 141, 142, 143, 144, 145, 146, 147, 148, 149, 150, 151, 152, 153] (by decide +kernel) (by decide +kernel)) (goodIn_sub (fun _ h => List.mem_cons_of_mem _ (List.mem_append_left _ (List.mem_append_right _ h))) (by decide +kernel))
set_option maxRecDepth 20000 in
theorem gL_isBest_X4_ifRaised : GoodIn wsL_isBest (wsV RL 30 RX4 yX4_ifRaised wsX4_ifRaised) := goodIn_app (goodIn_of _ (by decide +kernel)) ggL_isBest_X4_ifRaised
set_option maxRecDepth 20000 in
theorem ggL_isBest_X4_whyNot : GoodIn wsL_isBest wsX4_whyNot := goodIn_ca (goodIn_r _ [58, 50, 51, 6, 52, 53, 4, 54, 59, 16, 17, 10, 18, 12, 14, 13, 19, 20, 21, 22, 23, 24, 25, 26, 27, 28, 29, 30, 31, 32, 33, 34, 35, 36, 141, 142, 143, 144, 145, 146, 147, 148, 149, 150, 151, 152, 153] (by decide +kernel) (by decide +kernel)) (goodIn_sub (fun _ h => List.mem_cons_of_mem _ (List.mem_append_left _ (List.mem_append_right _ h))) (by decide +kernel))
set_option maxRecDepth 20000 in
theorem gL_isBest_X4_whyNot : GoodIn wsL_isBest (wsV RL 18 RX4 yX4_whyNot wsX4_whyNot) := goodIn_app (goodIn_of _ (by decide +kernel)) ggL_isBest_X4_whyNot
set_option maxRecDepth 20000 in
theorem ggL_isBest_X4_count : GoodIn wsL_isBest wsX4_count := goodIn_ca (goodIn_r _ [63, 64, 65, 6, 66, 67, 25, 26, 27, 68, 29, 30, 69, 70, 71, 10, 72, 20, 21, 22, 23, 13, 24, 28, 31, 32, 33, 34, 35, 36, 73, 74, 75, 76, 77, 78, 79, 80, 12, 81, 82, 83, 84, 45, 141, 142, 143, 144, 145, 146, 147, 148, 149, 150, 151, 152, 153, 154, 155, 156] (by decide +kernel) (by decide +kernel)) (goodIn_sub (fun _ h => List.mem_cons_of_mem _ (List.mem_append_right _ h)) (by decide +kernel))
set_option maxRecDepth 20000 in
theorem gL_isBest_X4_count : GoodIn wsL_isBest (wsV RL 8 RX4 yX4_count wsX4_count) := goodIn_app (goodIn_of _ (by decide +kernel)) ggL_isBest_X4_count
set_option maxRecDepth 20000 in
theorem ggL_isBest_X4_hour : GoodIn wsL_isBest wsX4_hour := goodIn_ca (goodIn_r _ [88, 64, 65, 66, 6, 89, 90, 91, 92, 93, 94, 95, 96, 97, 98, 99, 100, 101, 102, 103, 10, 104, 13, 105, 106, 107, 108, 12, 45, 109, 19, 14, 110, 111, 141, 142, 143, 144, 145, 146, 147, 148, 149, 150, 151, 152, 153, 154, 155, 156] (by decide +kernel) (by decide +kernel)) (goodIn_sub (fun _ h => List.mem_cons_of_mem _ (List.mem_append_right _ h)) (by decide +kernel))
set_option maxRecDepth 20000 in
theorem gL_isBest_X4_hour : GoodIn wsL_isBest (wsV RL 40 RX4 yX4_hour wsX4_hour) := goodIn_app (goodIn_of _ (by decide +kernel)) ggL_isBest_X4_hour
set_option maxRecDepth 20000 in
theorem ggL_isBest_X4_squareOf : GoodIn wsL_isBest wsX4_squareOf := goodIn_ca (goodIn_ca (goodIn_r _ [115, 50, 51, 64, 65, 6, 52, 53, 4, 54, 116, 21, 22, 10, 23, 13, 24, 25, 26, 27, 28, 29, 30, 31, 32, 33, 34, 35, 36, 117, 118, 119, 120, 121, 122, 123, 124, 125, 126, 127, 128, 19, 12, 129, 130, 131, 132, 133, 134, 135, 136, 20, 141, 142, 143, 144, 145, 146, 147, 148, 149, 150, 151, 152, 153] (by decide +kernel) (by decide +kernel)) (goodIn_sub (fun _ h => List.mem_cons_of_mem _ (List.mem_append_left _ (List.mem_append_right _ h))) (by decide +kernel))) (goodIn_sub (fun _ h => List.mem_cons_of_mem _ (List.mem_append_right _ h)) (by decide +kernel))
set_option maxRecDepth 20000 in
theorem gL_isBest_X4_squareOf : GoodIn wsL_isBest (wsV RL 14 RX4 yX4_squareOf wsX4_squareOf) := goodIn_app (goodIn_of _ (by decide +kernel)) ggL_isBest_X4_squareOf
set_option maxRecDepth 20000 in
theorem ggL_isBest_X4_darkestHour : GoodIn wsL_isBest wsX4_darkestHour := goodIn_r _ [140, 6, 69, 70, 71, 10, 72, 20, 21, 22, 23, 13, 24, 25, 26, 27, 28, 29, 30, 31, 32, 33, 34, 35, 36, 141, 142, 143, 144, 145, 146, 147, 148, 149, 150, 151, 152, 153] (by decide +kernel) (by decide +kernel)
set_option maxRecDepth 20000 in
theorem gL_isBest_X4_darkestHour : GoodIn wsL_isBest (wsV RL 46 RX4 yX4_darkestHour wsX4_darkestHour) := goodIn_app (goodIn_of _ (by decide +kernel)) ggL_isBest_X4_darkestHour
theorem dL_isBest_0 : decode cL_isBest 0 = .ok (.aload_n 0, 1) := by decide +kernel
theorem dL_isBest_1 : decode cL_isBest 1 = .ok (.invokevirtual 43, 3) := by decide +kernel
theorem dL_isBest_4 : decode cL_isBest 4 = .ok (.istore_n 1, 1) := by decide +kernel
theorem dL_isBest_5 : decode cL_isBest 5 = .ok (.iconst (-1), 1) := by decide +kernel
theorem dL_isBest_6 : decode cL_isBest 6 = .ok (.istore_n 2, 1) := by decide +kernel
theorem dL_isBest_7 : decode cL_isBest 7 = .ok (.sipush (-999), 3) := by decide +kernel
theorem dL_isBest_10 : decode cL_isBest 10 = .ok (.istore_n 3, 1) := by decide +kernel
theorem dL_isBest_11 : decode cL_isBest 11 = .ok (.iconst 0, 1) := by decide +kernel
theorem dL_isBest_12 : decode cL_isBest 12 = .ok (.istore 4, 2) := by decide +kernel
theorem dL_isBest_14 : decode cL_isBest 14 = .ok (.iload 4, 2) := by decide +kernel
theorem dL_isBest_16 : decode cL_isBest 16 = .ok (.bipush 36, 2) := by decide +kernel
theorem dL_isBest_18 : decode cL_isBest 18 = .ok (.if_icmp .ge 75, 3) := by decide +kernel
theorem dL_isBest_21 : decode cL_isBest 21 = .ok (.aload_n 0, 1) := by decide +kernel
theorem dL_isBest_22 : decode cL_isBest 22 = .ok (.iload 4, 2) := by decide +kernel
theorem dL_isBest_24 : decode cL_isBest 24 = .ok (.invokevirtual 30, 3) := by decide +kernel
theorem dL_isBest_27 : decode cL_isBest 27 = .ok (.istore 5, 2) := by decide +kernel
theorem dL_isBest_29 : decode cL_isBest 29 = .ok (.iload 5, 2) := by decide +kernel
theorem dL_isBest_31 : decode cL_isBest 31 = .ok (.sipush (-999), 3) := by decide +kernel
theorem dL_isBest_34 : decode cL_isBest 34 = .ok (.if_icmp .ne 7, 3) := by decide +kernel
theorem dL_isBest_37 : decode cL_isBest 37 = .ok (.iconst 1, 1) := by decide +kernel
theorem dL_isBest_38 : decode cL_isBest 38 = .ok (.goto 4, 3) := by decide +kernel
theorem dL_isBest_41 : decode cL_isBest 41 = .ok (.iconst 0, 1) := by decide +kernel
theorem dL_isBest_42 : decode cL_isBest 42 = .ok (.aload_n 0, 1) := by decide +kernel
theorem dL_isBest_43 : decode cL_isBest 43 = .ok (.iload 4, 2) := by decide +kernel
theorem dL_isBest_45 : decode cL_isBest 45 = .ok (.invokevirtual 18, 3) := by decide +kernel
theorem dL_isBest_48 : decode cL_isBest 48 = .ok (.ifCond .le 7, 3) := by decide +kernel
theorem dL_isBest_51 : decode cL_isBest 51 = .ok (.iconst 1, 1) := by decide +kernel
theorem dL_isBest_52 : decode cL_isBest 52 = .ok (.goto 4, 3) := by decide +kernel
theorem dL_isBest_55 : decode cL_isBest 55 = .ok (.iconst 0, 1) := by decide +kernel
theorem dL_isBest_56 : decode cL_isBest 56 = .ok (.if_icmp .eq 5, 3) := by decide +kernel
theorem dL_isBest_59 : decode cL_isBest 59 = .ok (.iconst 0, 1) := by decide +kernel
theorem dL_isBest_60 : decode cL_isBest 60 = .ok (.ireturn, 1) := by decide +kernel
theorem dL_isBest_61 : decode cL_isBest 61 = .ok (.iload 5, 2) := by decide +kernel
theorem dL_isBest_63 : decode cL_isBest 63 = .ok (.iload_n 3, 1) := by decide +kernel
theorem dL_isBest_64 : decode cL_isBest 64 = .ok (.if_icmp .le 8, 3) := by decide +kernel
theorem dL_isBest_67 : decode cL_isBest 67 = .ok (.iload 4, 2) := by decide +kernel
theorem dL_isBest_69 : decode cL_isBest 69 = .ok (.goto 4, 3) := by decide +kernel
theorem dL_isBest_72 : decode cL_isBest 72 = .ok (.iload_n 2, 1) := by decide +kernel
theorem dL_isBest_73 : decode cL_isBest 73 = .ok (.istore_n 2, 1) := by decide +kernel
theorem dL_isBest_74 : decode cL_isBest 74 = .ok (.iload 5, 2) := by decide +kernel
theorem dL_isBest_76 : decode cL_isBest 76 = .ok (.iload_n 3, 1) := by decide +kernel
theorem dL_isBest_77 : decode cL_isBest 77 = .ok (.if_icmp .le 8, 3) := by decide +kernel
theorem dL_isBest_80 : decode cL_isBest 80 = .ok (.iload 5, 2) := by decide +kernel
theorem dL_isBest_82 : decode cL_isBest 82 = .ok (.goto 4, 3) := by decide +kernel
theorem dL_isBest_85 : decode cL_isBest 85 = .ok (.iload_n 3, 1) := by decide +kernel
theorem dL_isBest_86 : decode cL_isBest 86 = .ok (.istore_n 3, 1) := by decide +kernel
theorem dL_isBest_87 : decode cL_isBest 87 = .ok (.iinc 4 1, 3) := by decide +kernel
theorem dL_isBest_90 : decode cL_isBest 90 = .ok (.goto (-76), 3) := by decide +kernel
theorem dL_isBest_93 : decode cL_isBest 93 = .ok (.iconst 0, 1) := by decide +kernel
theorem dL_isBest_94 : decode cL_isBest 94 = .ok (.istore 4, 2) := by decide +kernel
theorem dL_isBest_96 : decode cL_isBest 96 = .ok (.iconst 0, 1) := by decide +kernel
theorem dL_isBest_97 : decode cL_isBest 97 = .ok (.istore 5, 2) := by decide +kernel
theorem dL_isBest_99 : decode cL_isBest 99 = .ok (.aload_n 0, 1) := by decide +kernel
theorem dL_isBest_100 : decode cL_isBest 100 = .ok (.iconst 0, 1) := by decide +kernel
theorem dL_isBest_101 : decode cL_isBest 101 = .ok (.invokevirtual 8, 3) := by decide +kernel
theorem dL_isBest_104 : decode cL_isBest 104 = .ok (.istore 6, 2) := by decide +kernel
theorem dL_isBest_106 : decode cL_isBest 106 = .ok (.iconst 0, 1) := by decide +kernel
theorem dL_isBest_107 : decode cL_isBest 107 = .ok (.istore 7, 2) := by decide +kernel
theorem dL_isBest_109 : decode cL_isBest 109 = .ok (.iload 7, 2) := by decide +kernel
theorem dL_isBest_111 : decode cL_isBest 111 = .ok (.bipush 12, 2) := by decide +kernel
theorem dL_isBest_113 : decode cL_isBest 113 = .ok (.if_icmp .ge 102, 3) := by decide +kernel
theorem dL_isBest_116 : decode cL_isBest 116 = .ok (.aload_n 0, 1) := by decide +kernel
theorem dL_isBest_117 : decode cL_isBest 117 = .ok (.iload 7, 2) := by decide +kernel
theorem dL_isBest_119 : decode cL_isBest 119 = .ok (.invokevirtual 40, 3) := by decide +kernel
theorem dL_isBest_122 : decode cL_isBest 122 = .ok (.istore 8, 2) := by decide +kernel
theorem dL_isBest_124 : decode cL_isBest 124 = .ok (.aload_n 0, 1) := by decide +kernel
theorem dL_isBest_125 : decode cL_isBest 125 = .ok (.iconst 5, 1) := by decide +kernel
theorem dL_isBest_126 : decode cL_isBest 126 = .ok (.invokevirtual 8, 3) := by decide +kernel
theorem dL_isBest_129 : decode cL_isBest 129 = .ok (.istore 9, 2) := by decide +kernel
theorem dL_isBest_131 : decode cL_isBest 131 = .ok (.iload 9, 2) := by decide +kernel
theorem dL_isBest_133 : decode cL_isBest 133 = .ok (.iload 4, 2) := by decide +kernel
theorem dL_isBest_135 : decode cL_isBest 135 = .ok (.if_icmp .le 8, 3) := by decide +kernel
theorem dL_isBest_138 : decode cL_isBest 138 = .ok (.iload 7, 2) := by decide +kernel
theorem dL_isBest_140 : decode cL_isBest 140 = .ok (.goto 5, 3) := by decide +kernel
theorem dL_isBest_143 : decode cL_isBest 143 = .ok (.iload 5, 2) := by decide +kernel
theorem dL_isBest_145 : decode cL_isBest 145 = .ok (.istore 5, 2) := by decide +kernel
theorem dL_isBest_147 : decode cL_isBest 147 = .ok (.iload 9, 2) := by decide +kernel
theorem dL_isBest_149 : decode cL_isBest 149 = .ok (.iload 4, 2) := by decide +kernel
theorem dL_isBest_151 : decode cL_isBest 151 = .ok (.if_icmp .le 8, 3) := by decide +kernel
theorem dL_isBest_154 : decode cL_isBest 154 = .ok (.iload 9, 2) := by decide +kernel
theorem dL_isBest_156 : decode cL_isBest 156 = .ok (.goto 5, 3) := by decide +kernel
theorem dL_isBest_159 : decode cL_isBest 159 = .ok (.iload 4, 2) := by decide +kernel
theorem dL_isBest_161 : decode cL_isBest 161 = .ok (.istore 4, 2) := by decide +kernel
theorem dL_isBest_163 : decode cL_isBest 163 = .ok (.iconst 0, 1) := by decide +kernel
theorem dL_isBest_164 : decode cL_isBest 164 = .ok (.istore 10, 2) := by decide +kernel
theorem dL_isBest_166 : decode cL_isBest 166 = .ok (.iload 10, 2) := by decide +kernel
theorem dL_isBest_168 : decode cL_isBest 168 = .ok (.bipush 36, 2) := by decide +kernel
theorem dL_isBest_170 : decode cL_isBest 170 = .ok (.if_icmp .ge 39, 3) := by decide +kernel
theorem dL_isBest_173 : decode cL_isBest 173 = .ok (.iload 8, 2) := by decide +kernel
theorem dL_isBest_175 : decode cL_isBest 175 = .ok (.ifCond .lt 34, 3) := by decide +kernel
theorem dL_isBest_178 : decode cL_isBest 178 = .ok (.aload_n 0, 1) := by decide +kernel
theorem dL_isBest_179 : decode cL_isBest 179 = .ok (.iload 10, 2) := by decide +kernel
theorem dL_isBest_181 : decode cL_isBest 181 = .ok (.bipush 7, 2) := by decide +kernel
theorem dL_isBest_183 : decode cL_isBest 183 = .ok (.invokevirtual 14, 3) := by decide +kernel
theorem dL_isBest_186 : decode cL_isBest 186 = .ok (.iload 7, 2) := by decide +kernel
theorem dL_isBest_188 : decode cL_isBest 188 = .ok (.ishr, 1) := by decide +kernel
theorem dL_isBest_189 : decode cL_isBest 189 = .ok (.iconst 1, 1) := by decide +kernel
theorem dL_isBest_190 : decode cL_isBest 190 = .ok (.iand, 1) := by decide +kernel
theorem dL_isBest_191 : decode cL_isBest 191 = .ok (.aload_n 0, 1) := by decide +kernel
theorem dL_isBest_192 : decode cL_isBest 192 = .ok (.iload 10, 2) := by decide +kernel
theorem dL_isBest_194 : decode cL_isBest 194 = .ok (.iconst 3, 1) := by decide +kernel
theorem dL_isBest_195 : decode cL_isBest 195 = .ok (.invokevirtual 14, 3) := by decide +kernel
theorem dL_isBest_198 : decode cL_isBest 198 = .ok (.if_icmp .eq 5, 3) := by decide +kernel
theorem dL_isBest_201 : decode cL_isBest 201 = .ok (.iconst 0, 1) := by decide +kernel
theorem dL_isBest_202 : decode cL_isBest 202 = .ok (.ireturn, 1) := by decide +kernel
theorem dL_isBest_203 : decode cL_isBest 203 = .ok (.iinc 10 5, 3) := by decide +kernel
theorem dL_isBest_206 : decode cL_isBest 206 = .ok (.goto (-40), 3) := by decide +kernel
theorem dL_isBest_209 : decode cL_isBest 209 = .ok (.iinc 7 1, 3) := by decide +kernel
theorem dL_isBest_212 : decode cL_isBest 212 = .ok (.goto (-103), 3) := by decide +kernel
theorem dL_isBest_215 : decode cL_isBest 215 = .ok (.iload_n 1, 1) := by decide +kernel
theorem dL_isBest_216 : decode cL_isBest 216 = .ok (.iload_n 2, 1) := by decide +kernel
theorem dL_isBest_217 : decode cL_isBest 217 = .ok (.if_icmp .ne 27, 3) := by decide +kernel
theorem dL_isBest_220 : decode cL_isBest 220 = .ok (.aload_n 0, 1) := by decide +kernel
theorem dL_isBest_221 : decode cL_isBest 221 = .ok (.invokevirtual 46, 3) := by decide +kernel
theorem dL_isBest_224 : decode cL_isBest 224 = .ok (.iload 5, 2) := by decide +kernel
theorem dL_isBest_226 : decode cL_isBest 226 = .ok (.if_icmp .ne 18, 3) := by decide +kernel
theorem dL_isBest_229 : decode cL_isBest 229 = .ok (.aload_n 0, 1) := by decide +kernel
theorem dL_isBest_230 : decode cL_isBest 230 = .ok (.iload 6, 2) := by decide +kernel
theorem dL_isBest_232 : decode cL_isBest 232 = .ok (.invokevirtual 40, 3) := by decide +kernel
theorem dL_isBest_235 : decode cL_isBest 235 = .ok (.bipush 11, 2) := by decide +kernel
theorem dL_isBest_237 : decode cL_isBest 237 = .ok (.if_icmp .ne 7, 3) := by decide +kernel
theorem dL_isBest_240 : decode cL_isBest 240 = .ok (.iconst 1, 1) := by decide +kernel
theorem dL_isBest_241 : decode cL_isBest 241 = .ok (.goto 4, 3) := by decide +kernel
theorem dL_isBest_244 : decode cL_isBest 244 = .ok (.iconst 0, 1) := by decide +kernel
theorem dL_isBest_245 : decode cL_isBest 245 = .ok (.ireturn, 1) := by decide +kernel
set_option maxRecDepth 20000 in
theorem ggL_isNeeded_X4_needed : GoodIn wsL_isNeeded wsX4_needed := goodIn_ca (goodIn_r _ [5, 6, 7, 8, 9, 10, 4, 11, 12, 13, 14, 15, 16, 17, 18, 19, 20, 21, 22, 23, 24, 25, 26, 27, 193, 194, 195, 196, 197, 198, 199, 200, 201, 202, 203, 204, 205] (by decide +kernel) (by decide +kernel)) (goodIn_sub (fun _ h => List.mem_cons_of_mem _ (List.mem_append_left _ (List.mem_append_left _ (List.mem_append_right _ h)))) (by decide +kernel))
set_option maxRecDepth 20000 in
theorem gL_isNeeded_X4_needed : GoodIn wsL_isNeeded (wsV RL 49 RX4 yX4_needed wsX4_needed) := goodIn_app (goodIn_of _ (by decide +kernel)) ggL_isNeeded_X4_needed
set_option maxRecDepth 20000 in
theorem ggL_isNeeded_X4_count : GoodIn wsL_isNeeded wsX4_count := goodIn_ca (goodIn_r _ [31, 32, 33, 8, 34, 12, 13, 14, 15, 25, 26, 27, 35, 36, 37, 38, 39, 40, 41, 42, 43, 44, 45, 46, 47, 20, 21, 48, 23, 24, 49, 50, 51, 52, 53, 54, 55, 56, 57, 58, 59, 60, 61, 62, 193, 194, 195, 196, 197, 198, 199, 200, 201, 202, 203, 204, 205, 206, 207, 208] (by decide +kernel) (by decide +kernel)) (goodIn_sub (fun _ h => List.mem_cons_of_mem _ (List.mem_append_left _ (List.mem_append_right _ h))) (by decide +kernel))
set_option maxRecDepth 20000 in
theorem gL_isNeeded_X4_count : GoodIn wsL_isNeeded (wsV RL 8 RX4 yX4_count wsX4_count) := goodIn_app (goodIn_of _ (by decide +kernel)) ggL_isNeeded_X4_count
set_option maxRecDepth 20000 in
theorem ggL_isNeeded_X4_squareOf : GoodIn wsL_isNeeded wsX4_squareOf := goodIn_ca (goodIn_ca (goodIn_r _ [66, 6, 7, 32, 33, 8, 9, 10, 4, 11, 67, 41, 42, 38, 43, 44, 45, 13, 14, 15, 46, 26, 27, 47, 20, 21, 48, 23, 24, 68, 69, 70, 71, 72, 73, 74, 75, 76, 77, 78, 79, 80, 57, 81, 82, 83, 84, 85, 86, 87, 88, 40, 193, 194, 195, 196, 197, 198, 199, 200, 201, 202, 203, 204, 205] (by decide +kernel) (by decide +kernel)) (goodIn_sub (fun _ h => List.mem_cons_of_mem _ (List.mem_append_left _ (List.mem_append_left _ (List.mem_append_right _ h)))) (by decide +kernel))) (goodIn_sub (fun _ h => List.mem_cons_of_mem _ (List.mem_append_left _ (List.mem_append_right _ h))) (by decide +kernel))
set_option maxRecDepth 20000 in
theorem gL_isNeeded_X4_squareOf : GoodIn wsL_isNeeded (wsV RL 14 RX4 yX4_squareOf wsX4_squareOf) := goodIn_app (goodIn_of _ (by decide +kernel)) ggL_isNeeded_X4_squareOf
set_option maxRecDepth 20000 in
theorem ggL_isNeeded_X4_keep : GoodIn wsL_isNeeded wsX4_keep := goodIn_ca (goodIn_r _ [92, 32, 33, 8, 93, 94, 95, 96, 97, 38, 98, 44, 99, 100, 101, 102, 57, 62, 103, 80, 104, 105, 106, 49, 50, 51, 52, 53, 54, 55, 56, 193, 194, 195, 196, 197, 198, 199, 200, 201, 202, 203, 204, 205] (by decide +kernel) (by decide +kernel)) (goodIn_sub (fun _ h => List.mem_cons_of_mem _ (List.mem_append_left _ (List.mem_append_right _ h))) (by decide +kernel))
set_option maxRecDepth 20000 in
theorem gL_isNeeded_X4_keep : GoodIn wsL_isNeeded (wsV RL 52 RX4 yX4_keep wsX4_keep) := goodIn_app (goodIn_of _ (by decide +kernel)) ggL_isNeeded_X4_keep
set_option maxRecDepth 20000 in
theorem ggL_isNeeded_X4_tear : GoodIn wsL_isNeeded wsX4_tear := goodIn_ca (goodIn_r _ [110, 6, 7, 34, 8, 9, 10, 4, 11, 111, 112, 113, 114, 115, 116, 117, 118, 119, 120, 121, 122, 123, 96, 97, 38, 98, 44, 99, 100, 101, 102, 57, 62, 103, 80, 104, 105, 106, 124, 125, 126, 127, 193, 194, 195, 196, 197, 198, 199, 200, 201, 202, 203, 204, 205, 206, 207, 208] (by decide +kernel) (by decide +kernel)) (goodIn_sub (fun _ h => List.mem_cons_of_mem _ (List.mem_append_left _ (List.mem_append_left _ (List.mem_append_right _ h)))) (by decide +kernel))
set_option maxRecDepth 20000 in
theorem gL_isNeeded_X4_tear : GoodIn wsL_isNeeded (wsV RL 55 RX4 yX4_tear wsX4_tear) := goodIn_app (goodIn_of _ (by decide +kernel)) ggL_isNeeded_X4_tear
set_option maxRecDepth 20000 in
theorem ggL_isNeeded_X4_append : GoodIn wsL_isNeeded wsX4_append := goodIn_ca (goodIn_ca (goodIn_r _ [131, 32, 33, 132, 133, 134, 135, 136, 137, 138, 139, 140, 141, 142, 143, 144, 145, 193, 194, 195, 196, 197, 209, 210] (by decide +kernel) (by decide +kernel)) (goodIn_sub (fun _ h => List.mem_cons_of_mem _ (List.mem_append_left _ (List.mem_append_right _ h))) (by decide +kernel))) (goodIn_sub (fun _ h => List.mem_cons_of_mem _ (List.mem_append_right _ h)) (by decide +kernel))
set_option maxRecDepth 20000 in
theorem gL_isNeeded_X4_append : GoodIn wsL_isNeeded (wsV RL 58 RX4 yX4_append wsX4_append) := goodIn_app (goodIn_of _ (by decide +kernel)) ggL_isNeeded_X4_append
set_option maxRecDepth 20000 in
theorem ggL_isNeeded_X4_load : GoodIn wsL_isNeeded wsX4_load := goodIn_ca (goodIn_r _ [149, 32, 33, 134, 34, 8, 150, 151, 152, 138, 153, 140, 154, 155, 156, 157, 158, 159, 160, 161, 145, 162, 163, 164, 111, 112, 113, 114, 115, 116, 117, 118, 119, 120, 121, 122, 123, 96, 97, 38, 98, 44, 99, 100, 101, 102, 57, 62, 103, 80, 104, 105, 106, 165, 166, 167, 168, 169, 170, 171, 4, 172, 173, 174, 175, 176, 177, 178, 179, 180, 181, 182, 183, 184, 124, 125, 126, 127, 49, 50, 51, 52, 53, 54, 55, 56, 193, 194, 195, 196, 197, 209, 210, 206, 207, 208, 198, 199, 200, 201, 202, 203, 204, 205] (by decide +kernel) (by decide +kernel)) (goodIn_sub (fun _ h => List.mem_cons_of_mem _ (List.mem_append_left _ (List.mem_append_right _ h))) (by decide +kernel))
set_option maxRecDepth 20000 in
theorem gL_isNeeded_X4_load : GoodIn wsL_isNeeded (wsV RL 61 RX4 yX4_load wsX4_load) := goodIn_app (goodIn_of _ (by decide +kernel)) ggL_isNeeded_X4_load
set_option maxRecDepth 20000 in
theorem ggL_isNeeded_X4_goBack : GoodIn wsL_isNeeded wsX4_goBack := goodIn_ca (goodIn_ca (goodIn_r _ [188, 32, 33, 132, 133, 94, 34, 8, 93, 111, 112, 113, 114, 115, 116, 117, 118, 119, 120, 121, 122, 123, 96, 97, 38, 98, 44, 99, 100, 101, 102, 57, 62, 103, 80, 104, 105, 106, 189, 190, 191, 192, 49, 50, 51, 52, 53, 54, 55, 56, 193, 194, 195, 196, 197, 206, 207, 208, 198, 199, 200, 201, 202, 203, 204, 205] (by decide +kernel) (by decide +kernel)) (goodIn_sub (fun _ h => List.mem_cons_of_mem _ (List.mem_append_left _ (List.mem_append_right _ h))) (by decide +kernel))) (goodIn_sub (fun _ h => List.mem_cons_of_mem _ (List.mem_append_right _ h)) (by decide +kernel))
set_option maxRecDepth 20000 in
theorem gL_isNeeded_X4_goBack : GoodIn wsL_isNeeded (wsV RL 64 RX4 yX4_goBack wsX4_goBack) := goodIn_app (goodIn_of _ (by decide +kernel)) ggL_isNeeded_X4_goBack
theorem dL_isNeeded_0 : decode cL_isNeeded 0 = .ok (.aload_n 0, 1) := by decide +kernel
theorem dL_isNeeded_1 : decode cL_isNeeded 1 = .ok (.iload_n 1, 1) := by decide +kernel
theorem dL_isNeeded_2 : decode cL_isNeeded 2 = .ok (.iload_n 2, 1) := by decide +kernel
theorem dL_isNeeded_3 : decode cL_isNeeded 3 = .ok (.invokevirtual 49, 3) := by decide +kernel
theorem dL_isNeeded_6 : decode cL_isNeeded 6 = .ok (.istore_n 3, 1) := by decide +kernel
theorem dL_isNeeded_7 : decode cL_isNeeded 7 = .ok (.aload_n 0, 1) := by decide +kernel
theorem dL_isNeeded_8 : decode cL_isNeeded 8 = .ok (.iconst 1, 1) := by decide +kernel
theorem dL_isNeeded_9 : decode cL_isNeeded 9 = .ok (.invokevirtual 8, 3) := by decide +kernel
theorem dL_isNeeded_12 : decode cL_isNeeded 12 = .ok (.istore 4, 2) := by decide +kernel
theorem dL_isNeeded_14 : decode cL_isNeeded 14 = .ok (.iload_n 1, 1) := by decide +kernel
theorem dL_isNeeded_15 : decode cL_isNeeded 15 = .ok (.bipush 6, 2) := by decide +kernel
theorem dL_isNeeded_17 : decode cL_isNeeded 17 = .ok (.idiv, 1) := by decide +kernel
theorem dL_isNeeded_18 : decode cL_isNeeded 18 = .ok (.iload_n 2, 1) := by decide +kernel
theorem dL_isNeeded_19 : decode cL_isNeeded 19 = .ok (.bipush 6, 2) := by decide +kernel
theorem dL_isNeeded_21 : decode cL_isNeeded 21 = .ok (.idiv, 1) := by decide +kernel
theorem dL_isNeeded_22 : decode cL_isNeeded 22 = .ok (.isub, 1) := by decide +kernel
theorem dL_isNeeded_23 : decode cL_isNeeded 23 = .ok (.istore 5, 2) := by decide +kernel
theorem dL_isNeeded_25 : decode cL_isNeeded 25 = .ok (.iload_n 1, 1) := by decide +kernel
theorem dL_isNeeded_26 : decode cL_isNeeded 26 = .ok (.bipush 6, 2) := by decide +kernel
theorem dL_isNeeded_28 : decode cL_isNeeded 28 = .ok (.irem, 1) := by decide +kernel
theorem dL_isNeeded_29 : decode cL_isNeeded 29 = .ok (.iload_n 2, 1) := by decide +kernel
theorem dL_isNeeded_30 : decode cL_isNeeded 30 = .ok (.bipush 6, 2) := by decide +kernel
theorem dL_isNeeded_32 : decode cL_isNeeded 32 = .ok (.irem, 1) := by decide +kernel
theorem dL_isNeeded_33 : decode cL_isNeeded 33 = .ok (.isub, 1) := by decide +kernel
theorem dL_isNeeded_34 : decode cL_isNeeded 34 = .ok (.istore 6, 2) := by decide +kernel
theorem dL_isNeeded_36 : decode cL_isNeeded 36 = .ok (.iload 4, 2) := by decide +kernel
theorem dL_isNeeded_38 : decode cL_isNeeded 38 = .ok (.ifCond .ne 13, 3) := by decide +kernel
theorem dL_isNeeded_41 : decode cL_isNeeded 41 = .ok (.iload 5, 2) := by decide +kernel
theorem dL_isNeeded_43 : decode cL_isNeeded 43 = .ok (.ifCond .ne 8, 3) := by decide +kernel
theorem dL_isNeeded_46 : decode cL_isNeeded 46 = .ok (.iload 6, 2) := by decide +kernel
theorem dL_isNeeded_48 : decode cL_isNeeded 48 = .ok (.goto 54, 3) := by decide +kernel
theorem dL_isNeeded_51 : decode cL_isNeeded 51 = .ok (.iload 4, 2) := by decide +kernel
theorem dL_isNeeded_53 : decode cL_isNeeded 53 = .ok (.iconst 1, 1) := by decide +kernel
theorem dL_isNeeded_54 : decode cL_isNeeded 54 = .ok (.if_icmp .ne 13, 3) := by decide +kernel
theorem dL_isNeeded_57 : decode cL_isNeeded 57 = .ok (.iload 6, 2) := by decide +kernel
theorem dL_isNeeded_59 : decode cL_isNeeded 59 = .ok (.ifCond .ne 8, 3) := by decide +kernel
theorem dL_isNeeded_62 : decode cL_isNeeded 62 = .ok (.iload 5, 2) := by decide +kernel
theorem dL_isNeeded_64 : decode cL_isNeeded 64 = .ok (.goto 38, 3) := by decide +kernel
theorem dL_isNeeded_67 : decode cL_isNeeded 67 = .ok (.iload 4, 2) := by decide +kernel
theorem dL_isNeeded_69 : decode cL_isNeeded 69 = .ok (.iconst 2, 1) := by decide +kernel
theorem dL_isNeeded_70 : decode cL_isNeeded 70 = .ok (.if_icmp .ne 14, 3) := by decide +kernel
theorem dL_isNeeded_73 : decode cL_isNeeded 73 = .ok (.iload 5, 2) := by decide +kernel
theorem dL_isNeeded_75 : decode cL_isNeeded 75 = .ok (.ifCond .ne 9, 3) := by decide +kernel
theorem dL_isNeeded_78 : decode cL_isNeeded 78 = .ok (.iload 6, 2) := by decide +kernel
theorem dL_isNeeded_80 : decode cL_isNeeded 80 = .ok (.ineg, 1) := by decide +kernel
theorem dL_isNeeded_81 : decode cL_isNeeded 81 = .ok (.goto 21, 3) := by decide +kernel
theorem dL_isNeeded_84 : decode cL_isNeeded 84 = .ok (.iload 4, 2) := by decide +kernel
theorem dL_isNeeded_86 : decode cL_isNeeded 86 = .ok (.iconst 3, 1) := by decide +kernel
theorem dL_isNeeded_87 : decode cL_isNeeded 87 = .ok (.if_icmp .ne 14, 3) := by decide +kernel
theorem dL_isNeeded_90 : decode cL_isNeeded 90 = .ok (.iload 6, 2) := by decide +kernel
theorem dL_isNeeded_92 : decode cL_isNeeded 92 = .ok (.ifCond .ne 9, 3) := by decide +kernel
theorem dL_isNeeded_95 : decode cL_isNeeded 95 = .ok (.iload 5, 2) := by decide +kernel
theorem dL_isNeeded_97 : decode cL_isNeeded 97 = .ok (.ineg, 1) := by decide +kernel
theorem dL_isNeeded_98 : decode cL_isNeeded 98 = .ok (.goto 4, 3) := by decide +kernel
theorem dL_isNeeded_101 : decode cL_isNeeded 101 = .ok (.iconst 0, 1) := by decide +kernel
theorem dL_isNeeded_102 : decode cL_isNeeded 102 = .ok (.istore 7, 2) := by decide +kernel
theorem dL_isNeeded_104 : decode cL_isNeeded 104 = .ok (.iload 7, 2) := by decide +kernel
theorem dL_isNeeded_106 : decode cL_isNeeded 106 = .ok (.ifCond .gt 8, 3) := by decide +kernel
theorem dL_isNeeded_109 : decode cL_isNeeded 109 = .ok (.bipush 99, 2) := by decide +kernel
theorem dL_isNeeded_111 : decode cL_isNeeded 111 = .ok (.goto 20, 3) := by decide +kernel
theorem dL_isNeeded_114 : decode cL_isNeeded 114 = .ok (.aload_n 0, 1) := by decide +kernel
theorem dL_isNeeded_115 : decode cL_isNeeded 115 = .ok (.iload_n 2, 1) := by decide +kernel
theorem dL_isNeeded_116 : decode cL_isNeeded 116 = .ok (.iconst 0, 1) := by decide +kernel
theorem dL_isNeeded_117 : decode cL_isNeeded 117 = .ok (.invokevirtual 14, 3) := by decide +kernel
theorem dL_isNeeded_120 : decode cL_isNeeded 120 = .ok (.iload 7, 2) := by decide +kernel
theorem dL_isNeeded_122 : decode cL_isNeeded 122 = .ok (.aload_n 0, 1) := by decide +kernel
theorem dL_isNeeded_123 : decode cL_isNeeded 123 = .ok (.iconst 2, 1) := by decide +kernel
theorem dL_isNeeded_124 : decode cL_isNeeded 124 = .ok (.invokevirtual 8, 3) := by decide +kernel
theorem dL_isNeeded_127 : decode cL_isNeeded 127 = .ok (.imul, 1) := by decide +kernel
theorem dL_isNeeded_128 : decode cL_isNeeded 128 = .ok (.iadd, 1) := by decide +kernel
theorem dL_isNeeded_129 : decode cL_isNeeded 129 = .ok (.iconst 1, 1) := by decide +kernel
theorem dL_isNeeded_130 : decode cL_isNeeded 130 = .ok (.iadd, 1) := by decide +kernel
theorem dL_isNeeded_131 : decode cL_isNeeded 131 = .ok (.istore 8, 2) := by decide +kernel
theorem dL_isNeeded_133 : decode cL_isNeeded 133 = .ok (.iload 8, 2) := by decide +kernel
theorem dL_isNeeded_135 : decode cL_isNeeded 135 = .ok (.bipush 9, 2) := by decide +kernel
theorem dL_isNeeded_137 : decode cL_isNeeded 137 = .ok (.if_icmp .le 14, 3) := by decide +kernel
theorem dL_isNeeded_140 : decode cL_isNeeded 140 = .ok (.iload_n 3, 1) := by decide +kernel
theorem dL_isNeeded_141 : decode cL_isNeeded 141 = .ok (.iconst (-1), 1) := by decide +kernel
theorem dL_isNeeded_142 : decode cL_isNeeded 142 = .ok (.if_icmp .ne 7, 3) := by decide +kernel
theorem dL_isNeeded_145 : decode cL_isNeeded 145 = .ok (.iconst 1, 1) := by decide +kernel
theorem dL_isNeeded_146 : decode cL_isNeeded 146 = .ok (.goto 4, 3) := by decide +kernel
theorem dL_isNeeded_149 : decode cL_isNeeded 149 = .ok (.iconst 0, 1) := by decide +kernel
theorem dL_isNeeded_150 : decode cL_isNeeded 150 = .ok (.ireturn, 1) := by decide +kernel
theorem dL_isNeeded_151 : decode cL_isNeeded 151 = .ok (.iload_n 3, 1) := by decide +kernel
theorem dL_isNeeded_152 : decode cL_isNeeded 152 = .ok (.iload 8, 2) := by decide +kernel
theorem dL_isNeeded_154 : decode cL_isNeeded 154 = .ok (.if_icmp .eq 5, 3) := by decide +kernel
theorem dL_isNeeded_157 : decode cL_isNeeded 157 = .ok (.iconst 0, 1) := by decide +kernel
theorem dL_isNeeded_158 : decode cL_isNeeded 158 = .ok (.ireturn, 1) := by decide +kernel
theorem dL_isNeeded_159 : decode cL_isNeeded 159 = .ok (.iconst 1, 1) := by decide +kernel
theorem dL_isNeeded_160 : decode cL_isNeeded 160 = .ok (.istore 9, 2) := by decide +kernel
theorem dL_isNeeded_162 : decode cL_isNeeded 162 = .ok (.aload_n 0, 1) := by decide +kernel
theorem dL_isNeeded_163 : decode cL_isNeeded 163 = .ok (.iconst 0, 1) := by decide +kernel
theorem dL_isNeeded_164 : decode cL_isNeeded 164 = .ok (.invokevirtual 52, 3) := by decide +kernel
theorem dL_isNeeded_167 : decode cL_isNeeded 167 = .ok (.istore 10, 2) := by decide +kernel
theorem dL_isNeeded_169 : decode cL_isNeeded 169 = .ok (.aload_n 0, 1) := by decide +kernel
theorem dL_isNeeded_170 : decode cL_isNeeded 170 = .ok (.iload_n 1, 1) := by decide +kernel
theorem dL_isNeeded_171 : decode cL_isNeeded 171 = .ok (.invokevirtual 55, 3) := by decide +kernel
theorem dL_isNeeded_174 : decode cL_isNeeded 174 = .ok (.istore 11, 2) := by decide +kernel
theorem dL_isNeeded_176 : decode cL_isNeeded 176 = .ok (.aload_n 0, 1) := by decide +kernel
theorem dL_isNeeded_177 : decode cL_isNeeded 177 = .ok (.iload_n 2, 1) := by decide +kernel
theorem dL_isNeeded_178 : decode cL_isNeeded 178 = .ok (.iconst 5, 1) := by decide +kernel
theorem dL_isNeeded_179 : decode cL_isNeeded 179 = .ok (.invokevirtual 14, 3) := by decide +kernel
theorem dL_isNeeded_182 : decode cL_isNeeded 182 = .ok (.istore 12, 2) := by decide +kernel
theorem dL_isNeeded_184 : decode cL_isNeeded 184 = .ok (.iload_n 3, 1) := by decide +kernel
theorem dL_isNeeded_185 : decode cL_isNeeded 185 = .ok (.iconst 1, 1) := by decide +kernel
theorem dL_isNeeded_186 : decode cL_isNeeded 186 = .ok (.isub, 1) := by decide +kernel
theorem dL_isNeeded_187 : decode cL_isNeeded 187 = .ok (.istore 13, 2) := by decide +kernel
theorem dL_isNeeded_189 : decode cL_isNeeded 189 = .ok (.iload 13, 2) := by decide +kernel
theorem dL_isNeeded_191 : decode cL_isNeeded 191 = .ok (.iload_n 3, 1) := by decide +kernel
theorem dL_isNeeded_192 : decode cL_isNeeded 192 = .ok (.if_icmp .gt 122, 3) := by decide +kernel
theorem dL_isNeeded_195 : decode cL_isNeeded 195 = .ok (.iload 9, 2) := by decide +kernel
theorem dL_isNeeded_197 : decode cL_isNeeded 197 = .ok (.ifCond .eq 117, 3) := by decide +kernel
theorem dL_isNeeded_200 : decode cL_isNeeded 200 = .ok (.iload 13, 2) := by decide +kernel
theorem dL_isNeeded_202 : decode cL_isNeeded 202 = .ok (.ifCond .le 71, 3) := by decide +kernel
theorem dL_isNeeded_205 : decode cL_isNeeded 205 = .ok (.aload_n 0, 1) := by decide +kernel
theorem dL_isNeeded_206 : decode cL_isNeeded 206 = .ok (.bipush 97, 2) := by decide +kernel
theorem dL_isNeeded_208 : decode cL_isNeeded 208 = .ok (.iload_n 1, 1) := by decide +kernel
theorem dL_isNeeded_209 : decode cL_isNeeded 209 = .ok (.bipush 6, 2) := by decide +kernel
theorem dL_isNeeded_211 : decode cL_isNeeded 211 = .ok (.idiv, 1) := by decide +kernel
theorem dL_isNeeded_212 : decode cL_isNeeded 212 = .ok (.iadd, 1) := by decide +kernel
theorem dL_isNeeded_213 : decode cL_isNeeded 213 = .ok (.invokevirtual 58, 3) := by decide +kernel
theorem dL_isNeeded_216 : decode cL_isNeeded 216 = .ok (.iconst 1, 1) := by decide +kernel
theorem dL_isNeeded_217 : decode cL_isNeeded 217 = .ok (.if_icmp .ne 53, 3) := by decide +kernel
theorem dL_isNeeded_220 : decode cL_isNeeded 220 = .ok (.aload_n 0, 1) := by decide +kernel
theorem dL_isNeeded_221 : decode cL_isNeeded 221 = .ok (.bipush 49, 2) := by decide +kernel
theorem dL_isNeeded_223 : decode cL_isNeeded 223 = .ok (.iload_n 1, 1) := by decide +kernel
theorem dL_isNeeded_224 : decode cL_isNeeded 224 = .ok (.bipush 6, 2) := by decide +kernel
theorem dL_isNeeded_226 : decode cL_isNeeded 226 = .ok (.irem, 1) := by decide +kernel
theorem dL_isNeeded_227 : decode cL_isNeeded 227 = .ok (.iadd, 1) := by decide +kernel
theorem dL_isNeeded_228 : decode cL_isNeeded 228 = .ok (.invokevirtual 58, 3) := by decide +kernel
theorem dL_isNeeded_231 : decode cL_isNeeded 231 = .ok (.iconst 2, 1) := by decide +kernel
theorem dL_isNeeded_232 : decode cL_isNeeded 232 = .ok (.if_icmp .ne 38, 3) := by decide +kernel
theorem dL_isNeeded_235 : decode cL_isNeeded 235 = .ok (.aload_n 0, 1) := by decide +kernel
theorem dL_isNeeded_236 : decode cL_isNeeded 236 = .ok (.bipush 43, 2) := by decide +kernel
theorem dL_isNeeded_238 : decode cL_isNeeded 238 = .ok (.invokevirtual 58, 3) := by decide +kernel
theorem dL_isNeeded_241 : decode cL_isNeeded 241 = .ok (.iconst 3, 1) := by decide +kernel
theorem dL_isNeeded_242 : decode cL_isNeeded 242 = .ok (.if_icmp .ne 28, 3) := by decide +kernel
theorem dL_isNeeded_245 : decode cL_isNeeded 245 = .ok (.aload_n 0, 1) := by decide +kernel
theorem dL_isNeeded_246 : decode cL_isNeeded 246 = .ok (.bipush 48, 2) := by decide +kernel
theorem dL_isNeeded_248 : decode cL_isNeeded 248 = .ok (.iload 13, 2) := by decide +kernel
theorem dL_isNeeded_250 : decode cL_isNeeded 250 = .ok (.iadd, 1) := by decide +kernel
theorem dL_isNeeded_251 : decode cL_isNeeded 251 = .ok (.invokevirtual 58, 3) := by decide +kernel
theorem dL_isNeeded_254 : decode cL_isNeeded 254 = .ok (.iconst 4, 1) := by decide +kernel
theorem dL_isNeeded_255 : decode cL_isNeeded 255 = .ok (.if_icmp .ne 15, 3) := by decide +kernel
theorem dL_isNeeded_258 : decode cL_isNeeded 258 = .ok (.aload_n 0, 1) := by decide +kernel
theorem dL_isNeeded_259 : decode cL_isNeeded 259 = .ok (.invokevirtual 61, 3) := by decide +kernel
theorem dL_isNeeded_262 : decode cL_isNeeded 262 = .ok (.iconst 1, 1) := by decide +kernel
theorem dL_isNeeded_263 : decode cL_isNeeded 263 = .ok (.if_icmp .lt 7, 3) := by decide +kernel
theorem dL_isNeeded_266 : decode cL_isNeeded 266 = .ok (.iconst 1, 1) := by decide +kernel
theorem dL_isNeeded_267 : decode cL_isNeeded 267 = .ok (.goto 4, 3) := by decide +kernel
theorem dL_isNeeded_270 : decode cL_isNeeded 270 = .ok (.iconst 0, 1) := by decide +kernel
theorem dL_isNeeded_271 : decode cL_isNeeded 271 = .ok (.istore 9, 2) := by decide +kernel
theorem dL_isNeeded_273 : decode cL_isNeeded 273 = .ok (.iload 9, 2) := by decide +kernel
theorem dL_isNeeded_275 : decode cL_isNeeded 275 = .ok (.ifCond .eq 30, 3) := by decide +kernel
theorem dL_isNeeded_278 : decode cL_isNeeded 278 = .ok (.aload_n 0, 1) := by decide +kernel
theorem dL_isNeeded_279 : decode cL_isNeeded 279 = .ok (.iload_n 2, 1) := by decide +kernel
theorem dL_isNeeded_280 : decode cL_isNeeded 280 = .ok (.iconst 5, 1) := by decide +kernel
theorem dL_isNeeded_281 : decode cL_isNeeded 281 = .ok (.invokevirtual 14, 3) := by decide +kernel
theorem dL_isNeeded_284 : decode cL_isNeeded 284 = .ok (.iload 12, 2) := by decide +kernel
theorem dL_isNeeded_286 : decode cL_isNeeded 286 = .ok (.iload 13, 2) := by decide +kernel
theorem dL_isNeeded_288 : decode cL_isNeeded 288 = .ok (.iload_n 3, 1) := by decide +kernel
theorem dL_isNeeded_289 : decode cL_isNeeded 289 = .ok (.if_icmp .ne 7, 3) := by decide +kernel
theorem dL_isNeeded_292 : decode cL_isNeeded 292 = .ok (.iconst 1, 1) := by decide +kernel
theorem dL_isNeeded_293 : decode cL_isNeeded 293 = .ok (.goto 4, 3) := by decide +kernel
theorem dL_isNeeded_296 : decode cL_isNeeded 296 = .ok (.iconst 0, 1) := by decide +kernel
theorem dL_isNeeded_297 : decode cL_isNeeded 297 = .ok (.iadd, 1) := by decide +kernel
theorem dL_isNeeded_298 : decode cL_isNeeded 298 = .ok (.if_icmp .ne 7, 3) := by decide +kernel
theorem dL_isNeeded_301 : decode cL_isNeeded 301 = .ok (.iconst 1, 1) := by decide +kernel
theorem dL_isNeeded_302 : decode cL_isNeeded 302 = .ok (.goto 4, 3) := by decide +kernel
theorem dL_isNeeded_305 : decode cL_isNeeded 305 = .ok (.iconst 0, 1) := by decide +kernel
theorem dL_isNeeded_306 : decode cL_isNeeded 306 = .ok (.istore 9, 2) := by decide +kernel
theorem dL_isNeeded_308 : decode cL_isNeeded 308 = .ok (.iinc 13 1, 3) := by decide +kernel
theorem dL_isNeeded_311 : decode cL_isNeeded 311 = .ok (.goto (-122), 3) := by decide +kernel
theorem dL_isNeeded_314 : decode cL_isNeeded 314 = .ok (.iload 9, 2) := by decide +kernel
theorem dL_isNeeded_316 : decode cL_isNeeded 316 = .ok (.ifCond .eq 22, 3) := by decide +kernel
theorem dL_isNeeded_319 : decode cL_isNeeded 319 = .ok (.iload 11, 2) := by decide +kernel
theorem dL_isNeeded_321 : decode cL_isNeeded 321 = .ok (.ifCond .lt 17, 3) := by decide +kernel
theorem dL_isNeeded_324 : decode cL_isNeeded 324 = .ok (.aload_n 0, 1) := by decide +kernel
theorem dL_isNeeded_325 : decode cL_isNeeded 325 = .ok (.iconst 0, 1) := by decide +kernel
theorem dL_isNeeded_326 : decode cL_isNeeded 326 = .ok (.invokevirtual 64, 3) := by decide +kernel
theorem dL_isNeeded_329 : decode cL_isNeeded 329 = .ok (.iload 10, 2) := by decide +kernel
theorem dL_isNeeded_331 : decode cL_isNeeded 331 = .ok (.if_icmp .ne 7, 3) := by decide +kernel
theorem dL_isNeeded_334 : decode cL_isNeeded 334 = .ok (.iconst 1, 1) := by decide +kernel
theorem dL_isNeeded_335 : decode cL_isNeeded 335 = .ok (.goto 4, 3) := by decide +kernel
theorem dL_isNeeded_338 : decode cL_isNeeded 338 = .ok (.iconst 0, 1) := by decide +kernel
theorem dL_isNeeded_339 : decode cL_isNeeded 339 = .ok (.ireturn, 1) := by decide +kernel
