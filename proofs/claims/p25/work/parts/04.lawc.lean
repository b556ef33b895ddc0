set_option maxRecDepth 20000 in
theorem ggL_law_X4_init : GoodIn wsL_law wsX4_init := goodIn_r _ [5, 6, 7, 8, 9, 10, 11, 12, 13, 14, 15, 16, 17, 18, 19, 20, 21, 22, 23, 24, 25, 26, 27, 28, 29, 30, 31, 32, 33, 34, 35, 36, 37, 38, 39, 40, 324, 325, 326, 327, 328, 329, 330, 331, 319, 320, 321, 322, 323, 332, 333, 334, 335, 336] (by decide +kernel) (by decide +kernel)
set_option maxRecDepth 20000 in
theorem gL_law_X4_init : GoodIn wsL_law (wsX4_init) := ggL_law_X4_init
set_option maxRecDepth 20000 in
theorem ghL_law_L_isField_c : GoodIn wsL_law [.code yL_isField cL_isField 16 (some .boolean)] := goodIn_r _ [44] (by decide +kernel) (by decide +kernel)
set_option maxRecDepth 20000 in
theorem ghL_law_L_isField_r1 : GoodIn wsL_law wsL_isField_r1 := goodIn_r _ [45, 46, 47, 48, 2, 49, 50, 51, 12, 20, 52, 53, 54, 55, 56, 57, 58, 59, 60, 61, 11, 62, 63, 64] (by decide +kernel) (by decide +kernel)
set_option maxRecDepth 20000 in
theorem ghL_law_L_isField_r2 : GoodIn wsL_law wsL_isField_r2 := goodIn_r _ [65, 66, 29, 67, 68, 69, 70, 71, 72, 73, 74, 75, 76, 77, 78, 79, 80, 81, 82, 30, 83, 84, 85, 86] (by decide +kernel) (by decide +kernel)
set_option maxRecDepth 20000 in
theorem ghL_law_L_isField_r3 : GoodIn wsL_law wsL_isField_r3 := goodIn_r _ [31, 87, 88, 89, 90, 91, 92, 93, 94, 95, 96, 97, 98, 99, 100, 101, 102, 103, 104, 105, 106, 107, 108, 109] (by decide +kernel) (by decide +kernel)
set_option maxRecDepth 20000 in
theorem ghL_law_L_isField_r4 : GoodIn wsL_law wsL_isField_r4 := goodIn_r _ [110, 111, 112, 113, 114, 115, 116, 117, 118, 119, 120, 121, 122, 123, 124, 125, 126, 127, 128, 129, 130, 131, 132, 133] (by decide +kernel) (by decide +kernel)
set_option maxRecDepth 20000 in
theorem ghL_law_L_isField_r5 : GoodIn wsL_law wsL_isField_r5 := goodIn_r _ [134, 135, 136, 137, 138, 139, 140, 141, 142, 143, 144, 145, 146, 147, 148, 149, 150, 151, 152, 153] (by decide +kernel) (by decide +kernel)
set_option maxRecDepth 20000 in
theorem ghL_law_L_isField_wsX40 : GoodIn wsL_law wsX40 := goodIn_r _ [319, 320, 321, 322, 323] (by decide +kernel) (by decide +kernel)
set_option maxRecDepth 20000 in
theorem ghL_law_L_isField_wsX00 : GoodIn wsL_law wsX00 := goodIn_r _ [324, 325, 326, 327, 328, 329, 330, 331] (by decide +kernel) (by decide +kernel)
set_option maxRecDepth 20000 in
theorem ghL_law_L_isField_wsX20 : GoodIn wsL_law wsX20 := goodIn_r _ [334, 335, 336] (by decide +kernel) (by decide +kernel)
set_option maxRecDepth 20000 in
theorem ggL_law_L_isField : GoodIn wsL_law wsL_isField := goodIn_ca (goodIn_ca (goodIn_ca (goodIn_ca (goodIn_ca (goodIn_ca (a := []) ghL_law_L_isField_c (goodIn_app ghL_law_L_isField_r1 (goodIn_app ghL_law_L_isField_r2 (goodIn_app ghL_law_L_isField_r3 (goodIn_app ghL_law_L_isField_r4 (ghL_law_L_isField_r5)))))) ghL_law_L_isField_wsX40) ghL_law_L_isField_wsX00) ghL_law_L_isField_wsX20) (goodIn_sub (fun _ h => List.mem_append_left _ (List.mem_append_left _ (List.mem_append_right _ h))) (by decide +kernel))) (goodIn_sub (fun _ h => List.mem_append_left _ (List.mem_append_right _ h)) (by decide +kernel))
set_option maxRecDepth 20000 in
theorem gL_law_L_isField : GoodIn wsL_law (va_wsS RL 84 yL_isField wsL_isField) := goodIn_app (goodIn_of _ (by decide +kernel)) ggL_law_L_isField
set_option maxRecDepth 20000 in
theorem ggL_law_X4_count : GoodIn wsL_law wsX4_count := goodIn_ca (goodIn_r _ [49, 50, 51, 12, 20, 52, 53, 54, 55, 56, 57, 58, 59, 60, 61, 11, 62, 63, 64, 65, 66, 29, 67, 68, 69, 70, 71, 72, 73, 74, 75, 76, 77, 78, 79, 80, 81, 82, 30, 83, 84, 85, 86, 31, 319, 320, 321, 322, 323, 324, 325, 326, 327, 328, 329, 330, 331, 334, 335, 336] (by decide +kernel) (by decide +kernel)) (goodIn_sub (fun _ h => List.mem_append_left _ (List.mem_append_left _ (List.mem_append_right _ h))) (by decide +kernel))
set_option maxRecDepth 20000 in
theorem gL_law_X4_count : GoodIn wsL_law (wsV RL 8 RX4 yX4_count wsX4_count) := goodIn_app (goodIn_of _ (by decide +kernel)) ggL_law_X4_count
set_option maxRecDepth 20000 in
theorem ggL_law_X4_bestSquare : GoodIn wsL_law wsX4_bestSquare := goodIn_r _ [157, 12, 158, 159, 160, 11, 161, 30, 29, 126, 162, 123, 124, 125, 109, 63, 64, 65, 66, 67, 53, 54, 55, 68, 57, 58, 69, 70, 71, 72, 73, 74, 163, 164, 165, 166, 167, 146, 147, 148, 31, 319, 320, 321, 322, 323, 324, 325, 326, 327, 328, 329, 330, 331] (by decide +kernel) (by decide +kernel)
set_option maxRecDepth 20000 in
theorem gL_law_X4_bestSquare : GoodIn wsL_law (wsV RL 43 RX4 yX4_bestSquare wsX4_bestSquare) := goodIn_app (goodIn_of _ (by decide +kernel)) ggL_law_X4_bestSquare
set_option maxRecDepth 20000 in
theorem ggL_law_X4_darkestHour : GoodIn wsL_law wsX4_darkestHour := goodIn_r _ [171, 12, 59, 60, 61, 11, 62, 63, 64, 65, 66, 29, 67, 53, 54, 55, 68, 57, 58, 69, 70, 71, 72, 73, 74, 319, 320, 321, 322, 323, 324, 325, 326, 327, 328, 329, 330, 331] (by decide +kernel) (by decide +kernel)
set_option maxRecDepth 20000 in
theorem gL_law_X4_darkestHour : GoodIn wsL_law (wsV RL 46 RX4 yX4_darkestHour wsX4_darkestHour) := goodIn_app (goodIn_of _ (by decide +kernel)) ggL_law_X4_darkestHour
set_option maxRecDepth 20000 in
theorem ggL_law_L_cell : GoodIn wsL_law wsL_cell := goodIn_r _ [174] (by decide +kernel) (by decide +kernel)
set_option maxRecDepth 20000 in
theorem gL_law_L_cell : GoodIn wsL_law (va_wsS RL 88 yL_cell wsL_cell) := goodIn_app (goodIn_of _ (by decide +kernel)) ggL_law_L_cell
set_option maxRecDepth 20000 in
theorem ghL_law_L_does_c : GoodIn wsL_law [.code yL_does cL_does 8 (some .boolean)] := goodIn_r _ [177] (by decide +kernel) (by decide +kernel)
set_option maxRecDepth 20000 in
theorem ghL_law_L_does_r1 : GoodIn wsL_law wsL_does_r1 := goodIn_r _ [178, 179, 43, 180, 181, 87, 88, 89, 2, 90, 91, 92, 50, 51, 12, 93, 94, 95, 96, 64, 65, 11, 66, 29] (by decide +kernel) (by decide +kernel)
set_option maxRecDepth 20000 in
theorem ghL_law_L_does_r2 : GoodIn wsL_law wsL_does_r2 := goodIn_r _ [67, 53, 54, 55, 68, 57, 58, 69, 70, 71, 72, 73, 74, 97, 98, 99, 100, 101, 102, 103, 104, 105, 106, 107] (by decide +kernel) (by decide +kernel)
set_option maxRecDepth 20000 in
theorem ghL_law_L_does_r3 : GoodIn wsL_law wsL_does_r3 := goodIn_r _ [108, 109, 30, 110, 111, 112, 113, 114, 115, 116, 117, 63, 182, 183, 184, 185, 20, 186, 187, 188, 19, 189, 40, 190] (by decide +kernel) (by decide +kernel)
set_option maxRecDepth 20000 in
theorem ghL_law_L_does_r4 : GoodIn wsL_law wsL_does_r4 := goodIn_r _ [191, 192, 193, 194, 195, 196, 197, 198, 199, 200, 201, 202, 203, 31, 32, 126, 204, 205, 206, 164, 165, 166, 207, 208] (by decide +kernel) (by decide +kernel)
set_option maxRecDepth 20000 in
theorem ghL_law_L_does_r5 : GoodIn wsL_law wsL_does_r5 := goodIn_r _ [209, 210, 46, 47, 48, 49, 52, 56, 59, 60, 61, 62, 75, 76, 77, 78, 79, 80, 81, 82, 83, 84, 85, 86] (by decide +kernel) (by decide +kernel)
set_option maxRecDepth 20000 in
theorem ghL_law_L_does_r6 : GoodIn wsL_law wsL_does_r6 := goodIn_r _ [211, 212, 213, 214, 215, 216, 217, 132, 133, 134, 135, 136, 137, 138, 139, 140, 141, 142, 143, 144, 145, 146, 147, 148] (by decide +kernel) (by decide +kernel)
set_option maxRecDepth 20000 in
theorem ghL_law_L_does_r7 : GoodIn wsL_law wsL_does_r7 := goodIn_r _ [149, 150, 151, 152, 153, 118, 119, 120, 121, 122, 123, 124, 125, 218, 219, 220, 221, 158, 159, 160, 161, 162, 163, 167] (by decide +kernel) (by decide +kernel)
set_option maxRecDepth 20000 in
theorem ghL_law_L_does_r8 : GoodIn wsL_law wsL_does_r8 := goodIn_r _ [222, 223, 224, 225, 226, 227, 228, 229, 230, 231, 232, 233, 234, 235, 236, 237, 238, 239, 240, 241, 242, 243, 244, 245] (by decide +kernel) (by decide +kernel)
set_option maxRecDepth 20000 in
theorem ghL_law_L_does_r9 : GoodIn wsL_law wsL_does_r9 := goodIn_r _ [246, 247, 248, 249, 22, 24, 250, 251, 252, 253, 254, 255, 256, 16, 257, 258, 259, 15, 260, 261, 262, 263, 264, 265] (by decide +kernel) (by decide +kernel)
set_option maxRecDepth 20000 in
theorem ghL_law_L_does_r10 : GoodIn wsL_law wsL_does_r10 := goodIn_r _ [36, 266, 267, 268, 269, 270, 271, 272, 273, 274, 275, 276, 277, 278, 279, 280, 281, 282, 283, 284, 285, 286, 287, 288] (by decide +kernel) (by decide +kernel)
set_option maxRecDepth 20000 in
theorem ghL_law_L_does_r11 : GoodIn wsL_law wsL_does_r11 := goodIn_r _ [289, 290, 291, 292, 293, 294, 295, 296, 297, 298, 299, 300, 301, 302, 303, 304, 305, 306, 307, 308, 309, 310, 311, 312] (by decide +kernel) (by decide +kernel)
set_option maxRecDepth 20000 in
theorem ghL_law_L_does_r12 : GoodIn wsL_law wsL_does_r12 := goodIn_r _ [154, 155, 156, 157] (by decide +kernel) (by decide +kernel)
set_option maxRecDepth 20000 in
theorem ghL_law_L_does_wsX40 : GoodIn wsL_law wsX40 := goodIn_r _ [319, 320, 321, 322, 323] (by decide +kernel) (by decide +kernel)
set_option maxRecDepth 20000 in
theorem ghL_law_L_does_wsX00 : GoodIn wsL_law wsX00 := goodIn_r _ [324, 325, 326, 327, 328, 329, 330, 331] (by decide +kernel) (by decide +kernel)
set_option maxRecDepth 20000 in
theorem ghL_law_L_does_wsX20 : GoodIn wsL_law wsX20 := goodIn_r _ [334, 335, 336] (by decide +kernel) (by decide +kernel)
set_option maxRecDepth 20000 in
theorem ghL_law_L_does_wsX10 : GoodIn wsL_law wsX10 := goodIn_r _ [332, 333] (by decide +kernel) (by decide +kernel)
set_option maxRecDepth 20000 in
theorem ggL_law_L_does : GoodIn wsL_law wsL_does := goodIn_ca (goodIn_ca (goodIn_ca (goodIn_ca (goodIn_ca (goodIn_ca (goodIn_ca (goodIn_ca (a := []) ghL_law_L_does_c (goodIn_app ghL_law_L_does_r1 (goodIn_app ghL_law_L_does_r2 (goodIn_app ghL_law_L_does_r3 (goodIn_app ghL_law_L_does_r4 (goodIn_app ghL_law_L_does_r5 (goodIn_app ghL_law_L_does_r6 (goodIn_app ghL_law_L_does_r7 (goodIn_app ghL_law_L_does_r8 (goodIn_app ghL_law_L_does_r9 (goodIn_app ghL_law_L_does_r10 (goodIn_app ghL_law_L_does_r11 (ghL_law_L_does_r12))))))))))))) ghL_law_L_does_wsX40) ghL_law_L_does_wsX00) ghL_law_L_does_wsX20) ghL_law_L_does_wsX10) (goodIn_sub (fun _ h => List.mem_append_left _ (List.mem_append_right _ h)) (by decide +kernel))) (goodIn_sub (fun _ h => List.mem_append_left _ (List.mem_append_left _ (List.mem_append_right _ h))) (by decide +kernel))) (goodIn_sub (fun _ h => List.mem_append_right _ h) (by decide +kernel))
set_option maxRecDepth 20000 in
theorem gL_law_L_does : GoodIn wsL_law (va_wsS RL 92 yL_does wsL_does) := goodIn_app (goodIn_of _ (by decide +kernel)) ggL_law_L_does
set_option maxRecDepth 20000 in
theorem ghL_law_L_arePlayers_c : GoodIn wsL_law [.code yL_arePlayers cL_arePlayers 10 (some .boolean)] := goodIn_r _ [315] (by decide +kernel) (by decide +kernel)
set_option maxRecDepth 20000 in
theorem ghL_law_L_arePlayers_r1 : GoodIn wsL_law wsL_arePlayers_r1 := goodIn_r _ [87, 88, 89, 2, 90, 91, 92, 50, 51, 12, 93, 94, 95, 96, 64, 65, 11, 66, 29, 67, 53, 54, 55, 68] (by decide +kernel) (by decide +kernel)
set_option maxRecDepth 20000 in
theorem ghL_law_L_arePlayers_r2 : GoodIn wsL_law wsL_arePlayers_r2 := goodIn_r _ [57, 58, 69, 70, 71, 72, 73, 74, 97, 98, 99, 100, 101, 102, 103, 104, 105, 106, 107, 108, 109, 30, 110, 111] (by decide +kernel) (by decide +kernel)
set_option maxRecDepth 20000 in
theorem ghL_law_L_arePlayers_r3 : GoodIn wsL_law wsL_arePlayers_r3 := goodIn_r _ [112, 113, 114, 115, 116, 117, 63, 132, 133, 134, 135, 136, 80, 81, 82, 137, 138, 139, 140, 141, 142, 143, 144, 145] (by decide +kernel) (by decide +kernel)
set_option maxRecDepth 20000 in
theorem ghL_law_L_arePlayers_r4 : GoodIn wsL_law wsL_arePlayers_r4 := goodIn_r _ [146, 147, 148, 31, 149, 150, 151, 152, 153] (by decide +kernel) (by decide +kernel)
set_option maxRecDepth 20000 in
theorem ghL_law_L_arePlayers_wsX40 : GoodIn wsL_law wsX40 := goodIn_r _ [319, 320, 321, 322, 323] (by decide +kernel) (by decide +kernel)
set_option maxRecDepth 20000 in
theorem ghL_law_L_arePlayers_wsX00 : GoodIn wsL_law wsX00 := goodIn_r _ [324, 325, 326, 327, 328, 329, 330, 331] (by decide +kernel) (by decide +kernel)
set_option maxRecDepth 20000 in
theorem ggL_law_L_arePlayers : GoodIn wsL_law wsL_arePlayers := goodIn_ca (goodIn_ca (goodIn_ca (goodIn_ca (goodIn_ca (a := []) ghL_law_L_arePlayers_c (goodIn_app ghL_law_L_arePlayers_r1 (goodIn_app ghL_law_L_arePlayers_r2 (goodIn_app ghL_law_L_arePlayers_r3 (ghL_law_L_arePlayers_r4))))) ghL_law_L_arePlayers_wsX40) ghL_law_L_arePlayers_wsX00) (goodIn_sub (fun _ h => List.mem_append_left _ (List.mem_append_right _ h)) (by decide +kernel))) (goodIn_sub (fun _ h => List.mem_append_left _ (List.mem_append_left _ (List.mem_append_right _ h))) (by decide +kernel))
set_option maxRecDepth 20000 in
theorem gL_law_L_arePlayers : GoodIn wsL_law (va_wsS RL 95 yL_arePlayers wsL_arePlayers) := goodIn_app (goodIn_of _ (by decide +kernel)) ggL_law_L_arePlayers
set_option maxRecDepth 20000 in
theorem ghL_law_L_isBest_c : GoodIn wsL_law [.code yL_isBest cL_isBest 11 (some .boolean)] := goodIn_r _ [318] (by decide +kernel) (by decide +kernel)
set_option maxRecDepth 20000 in
theorem ghL_law_L_isBest_r1 : GoodIn wsL_law wsL_isBest_r1 := goodIn_r _ [154, 155, 156, 2, 157, 12, 158, 159, 160, 11, 161, 30, 29, 126, 162, 123, 124, 125, 109, 63, 64, 65, 66, 67] (by decide +kernel) (by decide +kernel)
set_option maxRecDepth 20000 in
theorem ghL_law_L_isBest_r2 : GoodIn wsL_law wsL_isBest_r2 := goodIn_r _ [53, 54, 55, 68, 57, 58, 69, 70, 71, 72, 73, 74, 163, 164, 165, 166, 167, 146, 147, 148, 31, 218, 219, 220] (by decide +kernel) (by decide +kernel)
set_option maxRecDepth 20000 in
theorem ghL_law_L_isBest_r3 : GoodIn wsL_law wsL_isBest_r3 := goodIn_r _ [221, 91, 92, 93, 94, 95, 118, 119, 120, 121, 122, 46, 47, 48, 49, 50, 51, 20, 52, 56, 59, 60, 61, 62] (by decide +kernel) (by decide +kernel)
set_option maxRecDepth 20000 in
theorem ghL_law_L_isBest_r4 : GoodIn wsL_law wsL_isBest_r4 := goodIn_r _ [75, 76, 77, 78, 79, 80, 81, 82, 83, 84, 85, 86, 211, 212, 213, 214, 186, 187, 188, 19, 189, 40, 190, 191] (by decide +kernel) (by decide +kernel)
set_option maxRecDepth 20000 in
theorem ghL_law_L_isBest_r5 : GoodIn wsL_law wsL_isBest_r5 := goodIn_r _ [192, 193, 194, 195, 196, 197, 198, 199, 200, 201, 202, 203, 32, 204, 205, 87, 88, 89, 90, 96, 97, 98, 99, 100] (by decide +kernel) (by decide +kernel)
set_option maxRecDepth 20000 in
theorem ghL_law_L_isBest_r6 : GoodIn wsL_law wsL_isBest_r6 := goodIn_r _ [101, 102, 103, 104, 105, 106, 107, 108, 110, 111, 112, 113, 114, 115, 116, 117, 168, 169, 170, 171] (by decide +kernel) (by decide +kernel)
set_option maxRecDepth 20000 in
theorem ghL_law_L_isBest_wsX40 : GoodIn wsL_law wsX40 := goodIn_r _ [319, 320, 321, 322, 323] (by decide +kernel) (by decide +kernel)
set_option maxRecDepth 20000 in
theorem ghL_law_L_isBest_wsX00 : GoodIn wsL_law wsX00 := goodIn_r _ [324, 325, 326, 327, 328, 329, 330, 331] (by decide +kernel) (by decide +kernel)
set_option maxRecDepth 20000 in
theorem ghL_law_L_isBest_wsX20 : GoodIn wsL_law wsX20 := goodIn_r _ [334, 335, 336] (by decide +kernel) (by decide +kernel)
set_option maxRecDepth 20000 in
theorem ggL_law_L_isBest : GoodIn wsL_law wsL_isBest := goodIn_ca (goodIn_ca (goodIn_ca (goodIn_ca (goodIn_ca (goodIn_ca (a := []) ghL_law_L_isBest_c (goodIn_app ghL_law_L_isBest_r1 (goodIn_app ghL_law_L_isBest_r2 (goodIn_app ghL_law_L_isBest_r3 (goodIn_app ghL_law_L_isBest_r4 (goodIn_app ghL_law_L_isBest_r5 (ghL_law_L_isBest_r6))))))) ghL_law_L_isBest_wsX40) ghL_law_L_isBest_wsX00) ghL_law_L_isBest_wsX20) (goodIn_sub (fun _ h => List.mem_append_left _ (List.mem_append_right _ h)) (by decide +kernel))) (goodIn_sub (fun _ h => List.mem_append_left _ (List.mem_append_left _ (List.mem_append_right _ h))) (by decide +kernel))
set_option maxRecDepth 20000 in
theorem gL_law_L_isBest : GoodIn wsL_law (va_wsS RL 98 yL_isBest wsL_isBest) := goodIn_app (goodIn_of _ (by decide +kernel)) ggL_law_L_isBest
theorem dL_law_0 : decode cL_law 0 = .ok (.new 9, 3) := by decide +kernel
theorem dL_law_3 : decode cL_law 3 = .ok (.dup, 1) := by decide +kernel
theorem dL_law_4 : decode cL_law 4 = .ok (.invokespecial 83, 3) := by decide +kernel
theorem dL_law_7 : decode cL_law 7 = .ok (.astore_n 1, 1) := by decide +kernel
theorem dL_law_8 : decode cL_law 8 = .ok (.aload_n 1, 1) := by decide +kernel
theorem dL_law_9 : decode cL_law 9 = .ok (.invokestatic 84, 3) := by decide +kernel
theorem dL_law_12 : decode cL_law 12 = .ok (.ifCond .eq 37, 3) := by decide +kernel
theorem dL_law_15 : decode cL_law 15 = .ok (.aload_n 1, 1) := by decide +kernel
theorem dL_law_16 : decode cL_law 16 = .ok (.bipush 7, 2) := by decide +kernel
theorem dL_law_18 : decode cL_law 18 = .ok (.invokevirtual 8, 3) := by decide +kernel
theorem dL_law_21 : decode cL_law 21 = .ok (.bipush 36, 2) := by decide +kernel
theorem dL_law_23 : decode cL_law 23 = .ok (.if_icmp .ne 26, 3) := by decide +kernel
theorem dL_law_26 : decode cL_law 26 = .ok (.aload_n 1, 1) := by decide +kernel
theorem dL_law_27 : decode cL_law 27 = .ok (.invokevirtual 43, 3) := by decide +kernel
theorem dL_law_30 : decode cL_law 30 = .ok (.ifCond .ne 19, 3) := by decide +kernel
theorem dL_law_33 : decode cL_law 33 = .ok (.aload_n 1, 1) := by decide +kernel
theorem dL_law_34 : decode cL_law 34 = .ok (.invokevirtual 46, 3) := by decide +kernel
theorem dL_law_37 : decode cL_law 37 = .ok (.ifCond .ne 12, 3) := by decide +kernel
theorem dL_law_40 : decode cL_law 40 = .ok (.aload_n 1, 1) := by decide +kernel
theorem dL_law_41 : decode cL_law 41 = .ok (.bipush 9, 2) := by decide +kernel
theorem dL_law_43 : decode cL_law 43 = .ok (.invokevirtual 8, 3) := by decide +kernel
theorem dL_law_46 : decode cL_law 46 = .ok (.ifCond .eq 5, 3) := by decide +kernel
theorem dL_law_49 : decode cL_law 49 = .ok (.iconst 0, 1) := by decide +kernel
theorem dL_law_50 : decode cL_law 50 = .ok (.ireturn, 1) := by decide +kernel
theorem dL_law_51 : decode cL_law 51 = .ok (.iconst 0, 1) := by decide +kernel
theorem dL_law_52 : decode cL_law 52 = .ok (.istore_n 2, 1) := by decide +kernel
theorem dL_law_53 : decode cL_law 53 = .ok (.iload_n 2, 1) := by decide +kernel
theorem dL_law_54 : decode cL_law 54 = .ok (.bipush 120, 2) := by decide +kernel
theorem dL_law_56 : decode cL_law 56 = .ok (.if_icmp .ge 79, 3) := by decide +kernel
theorem dL_law_59 : decode cL_law 59 = .ok (.aload_n 1, 1) := by decide +kernel
theorem dL_law_60 : decode cL_law 60 = .ok (.aload_n 0, 1) := by decide +kernel
theorem dL_law_61 : decode cL_law 61 = .ok (.iconst 2, 1) := by decide +kernel
theorem dL_law_62 : decode cL_law 62 = .ok (.iload_n 2, 1) := by decide +kernel
theorem dL_law_63 : decode cL_law 63 = .ok (.imul, 1) := by decide +kernel
theorem dL_law_64 : decode cL_law 64 = .ok (.invokestatic 88, 3) := by decide +kernel
theorem dL_law_67 : decode cL_law 67 = .ok (.aload_n 0, 1) := by decide +kernel
theorem dL_law_68 : decode cL_law 68 = .ok (.iconst 2, 1) := by decide +kernel
theorem dL_law_69 : decode cL_law 69 = .ok (.iload_n 2, 1) := by decide +kernel
theorem dL_law_70 : decode cL_law 70 = .ok (.imul, 1) := by decide +kernel
theorem dL_law_71 : decode cL_law 71 = .ok (.iconst 1, 1) := by decide +kernel
theorem dL_law_72 : decode cL_law 72 = .ok (.iadd, 1) := by decide +kernel
theorem dL_law_73 : decode cL_law 73 = .ok (.invokestatic 88, 3) := by decide +kernel
theorem dL_law_76 : decode cL_law 76 = .ok (.invokestatic 92, 3) := by decide +kernel
theorem dL_law_79 : decode cL_law 79 = .ok (.ifCond .eq 48, 3) := by decide +kernel
theorem dL_law_82 : decode cL_law 82 = .ok (.iload_n 2, 1) := by decide +kernel
theorem dL_law_83 : decode cL_law 83 = .ok (.iconst 3, 1) := by decide +kernel
theorem dL_law_84 : decode cL_law 84 = .ok (.irem, 1) := by decide +kernel
theorem dL_law_85 : decode cL_law 85 = .ok (.iconst 1, 1) := by decide +kernel
theorem dL_law_86 : decode cL_law 86 = .ok (.if_icmp .ne 10, 3) := by decide +kernel
theorem dL_law_89 : decode cL_law 89 = .ok (.aload_n 1, 1) := by decide +kernel
theorem dL_law_90 : decode cL_law 90 = .ok (.invokestatic 84, 3) := by decide +kernel
theorem dL_law_93 : decode cL_law 93 = .ok (.ifCond .eq 34, 3) := by decide +kernel
theorem dL_law_96 : decode cL_law 96 = .ok (.iload_n 2, 1) := by decide +kernel
theorem dL_law_97 : decode cL_law 97 = .ok (.bipush 8, 2) := by decide +kernel
theorem dL_law_99 : decode cL_law 99 = .ok (.irem, 1) := by decide +kernel
theorem dL_law_100 : decode cL_law 100 = .ok (.iconst 5, 1) := by decide +kernel
theorem dL_law_101 : decode cL_law 101 = .ok (.if_icmp .ne 10, 3) := by decide +kernel
theorem dL_law_104 : decode cL_law 104 = .ok (.aload_n 1, 1) := by decide +kernel
theorem dL_law_105 : decode cL_law 105 = .ok (.invokestatic 95, 3) := by decide +kernel
theorem dL_law_108 : decode cL_law 108 = .ok (.ifCond .eq 19, 3) := by decide +kernel
theorem dL_law_111 : decode cL_law 111 = .ok (.iload_n 2, 1) := by decide +kernel
theorem dL_law_112 : decode cL_law 112 = .ok (.bipush 25, 2) := by decide +kernel
theorem dL_law_114 : decode cL_law 114 = .ok (.irem, 1) := by decide +kernel
theorem dL_law_115 : decode cL_law 115 = .ok (.bipush 16, 2) := by decide +kernel
theorem dL_law_117 : decode cL_law 117 = .ok (.if_icmp .ne 12, 3) := by decide +kernel
theorem dL_law_120 : decode cL_law 120 = .ok (.aload_n 1, 1) := by decide +kernel
theorem dL_law_121 : decode cL_law 121 = .ok (.invokestatic 98, 3) := by decide +kernel
theorem dL_law_124 : decode cL_law 124 = .ok (.ifCond .ne 5, 3) := by decide +kernel
theorem dL_law_127 : decode cL_law 127 = .ok (.iconst 0, 1) := by decide +kernel
theorem dL_law_128 : decode cL_law 128 = .ok (.ireturn, 1) := by decide +kernel
theorem dL_law_129 : decode cL_law 129 = .ok (.iinc 2 1, 3) := by decide +kernel
theorem dL_law_132 : decode cL_law 132 = .ok (.goto (-79), 3) := by decide +kernel
theorem dL_law_135 : decode cL_law 135 = .ok (.iconst 1, 1) := by decide +kernel
theorem dL_law_136 : decode cL_law 136 = .ok (.ireturn, 1) := by decide +kernel
abbrev vwCl : List vw_C := [(RX0, TX0, 8), (RX1, TX1, 2), (RX2, TX2, 3), (RX4, TX4, 5)]
