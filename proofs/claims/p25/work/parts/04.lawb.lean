set_option maxRecDepth 20000 in
theorem ggL_does_L_low : GoodIn wsL_does wsL_low := goodIn_r _ [4, 5] (by decide +kernel) (by decide +kernel)
set_option maxRecDepth 20000 in
theorem gL_does_L_low : GoodIn wsL_does (va_wsS RL 67 yL_low wsL_low) := goodIn_app (goodIn_of _ (by decide +kernel)) ggL_does_L_low
set_option maxRecDepth 20000 in
theorem ggL_does_X4_squareOf : GoodIn wsL_does wsX4_squareOf := goodIn_ca (goodIn_ca (goodIn_r _ [10, 11, 12, 13, 14, 15, 16, 17, 9, 18, 19, 20, 21, 22, 23, 24, 25, 26, 27, 28, 29, 30, 31, 32, 33, 34, 35, 36, 37, 38, 39, 40, 41, 42, 43, 44, 45, 46, 47, 48, 49, 50, 51, 52, 53, 54, 55, 56, 57, 58, 59, 60, 269, 270, 271, 272, 273, 274, 275, 276, 277, 278, 279, 280, 281] (by decide +kernel) (by decide +kernel)) (goodIn_sub (fun _ h => List.mem_cons_of_mem _ (List.mem_append_left _ (List.mem_append_left _ (List.mem_append_right _ h)))) (by decide +kernel))) (goodIn_sub (fun _ h => List.mem_cons_of_mem _ (List.mem_append_left _ (List.mem_append_right _ h))) (by decide +kernel))
set_option maxRecDepth 20000 in
theorem gL_does_X4_squareOf : GoodIn wsL_does (wsV RL 14 RX4 yX4_squareOf wsX4_squareOf) := goodIn_app (goodIn_of _ (by decide +kernel)) ggL_does_X4_squareOf
set_option maxRecDepth 20000 in
theorem ggL_does_X4_tear : GoodIn wsL_does wsX4_tear := goodIn_ca (goodIn_r _ [64, 11, 12, 65, 15, 16, 17, 9, 18, 66, 67, 68, 69, 70, 71, 72, 73, 74, 75, 76, 77, 78, 79, 80, 22, 81, 24, 82, 83, 84, 85, 51, 86, 87, 50, 88, 89, 90, 91, 92, 93, 94, 269, 270, 271, 272, 273, 274, 275, 276, 277, 278, 279, 280, 281, 282, 283, 284] (by decide +kernel) (by decide +kernel)) (goodIn_sub (fun _ h => List.mem_cons_of_mem _ (List.mem_append_left _ (List.mem_append_left _ (List.mem_append_right _ h)))) (by decide +kernel))
set_option maxRecDepth 20000 in
theorem gL_does_X4_tear : GoodIn wsL_does (wsV RL 55 RX4 yX4_tear wsX4_tear) := goodIn_app (goodIn_of _ (by decide +kernel)) ggL_does_X4_tear
set_option maxRecDepth 20000 in
theorem ggL_does_X4_crowd : GoodIn wsL_does wsX4_crowd := goodIn_ca (goodIn_ca (goodIn_r _ [98, 11, 12, 13, 14, 65, 15, 16, 17, 9, 18, 66, 67, 68, 69, 70, 71, 72, 73, 74, 75, 76, 77, 78, 79, 80, 22, 81, 24, 82, 83, 84, 85, 51, 86, 87, 50, 88, 89, 90, 269, 270, 271, 272, 273, 274, 275, 276, 277, 278, 279, 280, 281, 282, 283, 284] (by decide +kernel) (by decide +kernel)) (goodIn_sub (fun _ h => List.mem_cons_of_mem _ (List.mem_append_left _ (List.mem_append_left _ (List.mem_append_right _ h)))) (by decide +kernel))) (goodIn_sub (fun _ h => List.mem_cons_of_mem _ (List.mem_append_left _ (List.mem_append_right _ h))) (by decide +kernel))
set_option maxRecDepth 20000 in
theorem gL_does_X4_crowd : GoodIn wsL_does (wsV RL 72 RX4 yX4_crowd wsX4_crowd) := goodIn_app (goodIn_of _ (by decide +kernel)) ggL_does_X4_crowd
set_option maxRecDepth 20000 in
theorem ggL_does_X4_count : GoodIn wsL_does wsX4_count := goodIn_ca (goodIn_r _ [102, 13, 14, 15, 65, 103, 26, 27, 28, 104, 30, 31, 105, 106, 107, 22, 108, 60, 20, 21, 23, 24, 25, 29, 32, 33, 34, 35, 36, 37, 109, 110, 111, 112, 113, 114, 115, 116, 51, 117, 118, 119, 120, 86, 269, 270, 271, 272, 273, 274, 275, 276, 277, 278, 279, 280, 281, 282, 283, 284] (by decide +kernel) (by decide +kernel)) (goodIn_sub (fun _ h => List.mem_cons_of_mem _ (List.mem_append_left _ (List.mem_append_right _ h))) (by decide +kernel))
set_option maxRecDepth 20000 in
theorem gL_does_X4_count : GoodIn wsL_does (wsV RL 8 RX4 yX4_count wsX4_count) := goodIn_app (goodIn_of _ (by decide +kernel)) ggL_does_X4_count
set_option maxRecDepth 20000 in
theorem ggL_does_X4_hour : GoodIn wsL_does wsX4_hour := goodIn_ca (goodIn_r _ [124, 13, 14, 65, 15, 66, 67, 68, 69, 70, 71, 72, 73, 74, 75, 76, 77, 78, 79, 80, 22, 81, 24, 82, 83, 84, 85, 51, 86, 87, 50, 88, 89, 90, 269, 270, 271, 272, 273, 274, 275, 276, 277, 278, 279, 280, 281, 282, 283, 284] (by decide +kernel) (by decide +kernel)) (goodIn_sub (fun _ h => List.mem_cons_of_mem _ (List.mem_append_left _ (List.mem_append_right _ h))) (by decide +kernel))
set_option maxRecDepth 20000 in
theorem gL_does_X4_hour : GoodIn wsL_does (wsV RL 40 RX4 yX4_hour wsX4_hour) := goodIn_app (goodIn_of _ (by decide +kernel)) ggL_does_X4_hour
set_option maxRecDepth 20000 in
theorem ghL_does_L_isTurn_c : GoodIn wsL_does [.code yL_isTurn cL_isTurn 19 (some .boolean)] := goodIn_r _ [127] (by decide +kernel) (by decide +kernel)
set_option maxRecDepth 20000 in
theorem ghL_does_L_isTurn_r1 : GoodIn wsL_does wsL_isTurn_r1 := goodIn_r _ [99, 100, 101, 9, 102, 13, 14, 15, 65, 103, 26, 27, 28, 104, 30, 31, 105, 106, 107, 22, 108, 60, 20, 21] (by decide +kernel) (by decide +kernel)
set_option maxRecDepth 20000 in
theorem ghL_does_L_isTurn_r2 : GoodIn wsL_does wsL_isTurn_r2 := goodIn_r _ [23, 24, 25, 29, 32, 33, 34, 35, 36, 37, 109, 110, 111, 112, 113, 114, 115, 116, 51, 117, 118, 119, 120, 86] (by decide +kernel) (by decide +kernel)
set_option maxRecDepth 20000 in
theorem ghL_does_L_isTurn_r3 : GoodIn wsL_does wsL_isTurn_r3 := goodIn_r _ [128, 129, 130, 131, 11, 12, 132, 133, 134, 135, 136, 137, 138, 139, 140, 50, 141, 142, 143, 144, 145, 146, 147, 148] (by decide +kernel) (by decide +kernel)
set_option maxRecDepth 20000 in
theorem ghL_does_L_isTurn_r4 : GoodIn wsL_does wsL_isTurn_r4 := goodIn_r _ [149, 47, 48, 49, 150, 151, 152, 153, 16, 17, 18, 154, 155, 156, 157, 88, 6, 7, 8, 10, 19, 38, 39, 40] (by decide +kernel) (by decide +kernel)
set_option maxRecDepth 20000 in
theorem ghL_does_L_isTurn_r5 : GoodIn wsL_does wsL_isTurn_r5 := goodIn_r _ [41, 42, 43, 44, 45, 46, 52, 53, 54, 55, 56, 57, 58, 59, 158, 159, 160, 161, 162, 163, 164, 165, 166, 167] (by decide +kernel) (by decide +kernel)
set_option maxRecDepth 20000 in
theorem ghL_does_L_isTurn_r6 : GoodIn wsL_does wsL_isTurn_r6 := goodIn_r _ [92, 93, 94, 168, 169, 170, 171, 172, 66, 67, 68, 69, 70, 71, 72, 73, 74, 75, 76, 77, 78, 79, 80, 81] (by decide +kernel) (by decide +kernel)
set_option maxRecDepth 20000 in
theorem ghL_does_L_isTurn_r7 : GoodIn wsL_does wsL_isTurn_r7 := goodIn_r _ [82, 83, 84, 85, 87, 89, 90, 173, 174, 175, 176, 177, 178, 179, 180, 91, 121, 122, 123, 124] (by decide +kernel) (by decide +kernel)
set_option maxRecDepth 20000 in
theorem ghL_does_L_isTurn_wsX40 : GoodIn wsL_does wsX40 := goodIn_r _ [269, 270, 271, 272, 273] (by decide +kernel) (by decide +kernel)
set_option maxRecDepth 20000 in
theorem ghL_does_L_isTurn_wsX00 : GoodIn wsL_does wsX00 := goodIn_r _ [274, 275, 276, 277, 278, 279, 280, 281] (by decide +kernel) (by decide +kernel)
set_option maxRecDepth 20000 in
theorem ghL_does_L_isTurn_wsX20 : GoodIn wsL_does wsX20 := goodIn_r _ [282, 283, 284] (by decide +kernel) (by decide +kernel)
set_option maxRecDepth 20000 in
theorem ggL_does_L_isTurn : GoodIn wsL_does wsL_isTurn := goodIn_ca (goodIn_ca (goodIn_ca (goodIn_ca (goodIn_ca (goodIn_ca (a := []) ghL_does_L_isTurn_c (goodIn_app ghL_does_L_isTurn_r1 (goodIn_app ghL_does_L_isTurn_r2 (goodIn_app ghL_does_L_isTurn_r3 (goodIn_app ghL_does_L_isTurn_r4 (goodIn_app ghL_does_L_isTurn_r5 (goodIn_app ghL_does_L_isTurn_r6 (ghL_does_L_isTurn_r7)))))))) ghL_does_L_isTurn_wsX40) ghL_does_L_isTurn_wsX00) ghL_does_L_isTurn_wsX20) (goodIn_sub (fun _ h => List.mem_cons_of_mem _ (List.mem_append_left _ (List.mem_append_right _ h))) (by decide +kernel))) (goodIn_sub (fun _ h => List.mem_cons_of_mem _ (List.mem_append_left _ (List.mem_append_left _ (List.mem_append_right _ h)))) (by decide +kernel))
set_option maxRecDepth 20000 in
theorem gL_does_L_isTurn : GoodIn wsL_does (va_wsS RL 75 yL_isTurn wsL_isTurn) := goodIn_app (goodIn_of _ (by decide +kernel)) ggL_does_L_isTurn
set_option maxRecDepth 20000 in
theorem ghL_does_L_isNeeded_c : GoodIn wsL_does [.code yL_isNeeded cL_isNeeded 14 (some .boolean)] := goodIn_r _ [183] (by decide +kernel) (by decide +kernel)
set_option maxRecDepth 20000 in
theorem ghL_does_L_isNeeded_r1 : GoodIn wsL_does wsL_isNeeded_r1 := goodIn_r _ [184, 185, 186, 9, 187, 11, 12, 15, 16, 17, 18, 103, 26, 27, 28, 188, 189, 190, 191, 33, 34, 192, 36, 37] (by decide +kernel) (by decide +kernel)
set_option maxRecDepth 20000 in
theorem ghL_does_L_isNeeded_r2 : GoodIn wsL_does wsL_isNeeded_r2 := goodIn_r _ [104, 30, 31, 99, 100, 101, 102, 13, 14, 65, 105, 106, 107, 22, 108, 60, 20, 21, 23, 24, 25, 29, 32, 35] (by decide +kernel) (by decide +kernel)
set_option maxRecDepth 20000 in
theorem ghL_does_L_isNeeded_r3 : GoodIn wsL_does wsL_isNeeded_r3 := goodIn_r _ [109, 110, 111, 112, 113, 114, 115, 116, 51, 117, 118, 119, 120, 86, 6, 7, 8, 10, 19, 38, 39, 40, 41, 42] (by decide +kernel) (by decide +kernel)
set_option maxRecDepth 20000 in
theorem ghL_does_L_isNeeded_r4 : GoodIn wsL_does wsL_isNeeded_r4 := goodIn_r _ [43, 44, 45, 46, 47, 48, 49, 50, 52, 53, 54, 55, 56, 57, 58, 59, 193, 194, 195, 196, 197, 198, 199, 79] (by decide +kernel) (by decide +kernel)
set_option maxRecDepth 20000 in
theorem ghL_does_L_isNeeded_r5 : GoodIn wsL_does wsL_isNeeded_r5 := goodIn_r _ [80, 81, 82, 83, 84, 85, 87, 88, 89, 90, 61, 62, 63, 64, 66, 67, 68, 69, 70, 71, 72, 73, 74, 75] (by decide +kernel) (by decide +kernel)
set_option maxRecDepth 20000 in
theorem ghL_does_L_isNeeded_r6 : GoodIn wsL_does wsL_isNeeded_r6 := goodIn_r _ [76, 77, 78, 91, 92, 93, 94, 200, 201, 202, 203, 204, 205, 206, 207, 208, 209, 210, 211, 212, 213, 214, 215, 216] (by decide +kernel) (by decide +kernel)
set_option maxRecDepth 20000 in
theorem ghL_does_L_isNeeded_r7 : GoodIn wsL_does wsL_isNeeded_r7 := goodIn_r _ [217, 218, 219, 220, 221, 222, 223, 224, 225, 226, 227, 228, 229, 230, 231, 232, 233, 234, 235, 236, 237, 238, 239, 240] (by decide +kernel) (by decide +kernel)
set_option maxRecDepth 20000 in
theorem ghL_does_L_isNeeded_r8 : GoodIn wsL_does wsL_isNeeded_r8 := goodIn_r _ [241, 242, 243, 244, 245, 246, 247, 248, 249, 250, 251, 252, 253, 254, 255, 256, 257, 258, 259, 260, 261, 262, 263, 264] (by decide +kernel) (by decide +kernel)
set_option maxRecDepth 20000 in
theorem ghL_does_L_isNeeded_wsX40 : GoodIn wsL_does wsX40 := goodIn_r _ [269, 270, 271, 272, 273] (by decide +kernel) (by decide +kernel)
set_option maxRecDepth 20000 in
theorem ghL_does_L_isNeeded_wsX00 : GoodIn wsL_does wsX00 := goodIn_r _ [274, 275, 276, 277, 278, 279, 280, 281] (by decide +kernel) (by decide +kernel)
set_option maxRecDepth 20000 in
theorem ghL_does_L_isNeeded_wsX20 : GoodIn wsL_does wsX20 := goodIn_r _ [282, 283, 284] (by decide +kernel) (by decide +kernel)
set_option maxRecDepth 20000 in
theorem ghL_does_L_isNeeded_wsX10 : GoodIn wsL_does wsX10 := goodIn_r _ [285, 286] (by decide +kernel) (by decide +kernel)
set_option maxRecDepth 20000 in
theorem ggL_does_L_isNeeded : GoodIn wsL_does wsL_isNeeded := goodIn_ca (goodIn_ca (goodIn_ca (goodIn_ca (goodIn_ca (goodIn_ca (goodIn_ca (goodIn_ca (a := []) ghL_does_L_isNeeded_c (goodIn_app ghL_does_L_isNeeded_r1 (goodIn_app ghL_does_L_isNeeded_r2 (goodIn_app ghL_does_L_isNeeded_r3 (goodIn_app ghL_does_L_isNeeded_r4 (goodIn_app ghL_does_L_isNeeded_r5 (goodIn_app ghL_does_L_isNeeded_r6 (goodIn_app ghL_does_L_isNeeded_r7 (ghL_does_L_isNeeded_r8))))))))) ghL_does_L_isNeeded_wsX40) ghL_does_L_isNeeded_wsX00) ghL_does_L_isNeeded_wsX20) ghL_does_L_isNeeded_wsX10) (goodIn_sub (fun _ h => List.mem_cons_of_mem _ (List.mem_append_left _ (List.mem_append_left _ (List.mem_append_right _ h)))) (by decide +kernel))) (goodIn_sub (fun _ h => List.mem_cons_of_mem _ (List.mem_append_left _ (List.mem_append_right _ h))) (by decide +kernel))) (goodIn_sub (fun _ h => List.mem_cons_of_mem _ (List.mem_append_right _ h)) (by decide +kernel))
set_option maxRecDepth 20000 in
theorem gL_does_L_isNeeded : GoodIn wsL_does (va_wsS RL 79 yL_isNeeded wsL_isNeeded) := goodIn_app (goodIn_of _ (by decide +kernel)) ggL_does_L_isNeeded
set_option maxRecDepth 20000 in
theorem ggL_does_X4_bestSquare : GoodIn wsL_does wsX4_bestSquare := goodIn_r _ [268, 15, 162, 163, 164, 22, 165, 51, 24, 88, 166, 155, 156, 157, 50, 60, 20, 21, 23, 25, 26, 27, 28, 29, 30, 31, 32, 33, 34, 35, 36, 37, 167, 92, 93, 94, 168, 142, 143, 144, 86, 269, 270, 271, 272, 273, 274, 275, 276, 277, 278, 279, 280, 281] (by decide +kernel) (by decide +kernel)
set_option maxRecDepth 20000 in
theorem gL_does_X4_bestSquare : GoodIn wsL_does (wsV RL 43 RX4 yX4_bestSquare wsX4_bestSquare) := goodIn_app (goodIn_of _ (by decide +kernel)) ggL_does_X4_bestSquare
theorem dL_does_0 : decode cL_does 0 = .ok (.iload_n 1, 1) := by decide +kernel
theorem dL_does_1 : decode cL_does 1 = .ok (.iconst 4, 1) := by decide +kernel
theorem dL_does_2 : decode cL_does 2 = .ok (.ishr, 1) := by decide +kernel
theorem dL_does_3 : decode cL_does 3 = .ok (.bipush 36, 2) := by decide +kernel
theorem dL_does_5 : decode cL_does 5 = .ok (.invokestatic 67, 3) := by decide +kernel
theorem dL_does_8 : decode cL_does 8 = .ok (.istore_n 3, 1) := by decide +kernel
theorem dL_does_9 : decode cL_does 9 = .ok (.iload_n 1, 1) := by decide +kernel
theorem dL_does_10 : decode cL_does 10 = .ok (.bipush 14, 2) := by decide +kernel
theorem dL_does_12 : decode cL_does 12 = .ok (.invokestatic 67, 3) := by decide +kernel
theorem dL_does_15 : decode cL_does 15 = .ok (.tableswitch 215 0 6 #[41, 81, 126, 168, 175, 187, 187], 41) := by decide +kernel
theorem dL_does_56 : decode cL_does 56 = .ok (.aload_n 0, 1) := by decide +kernel
theorem dL_does_57 : decode cL_does 57 = .ok (.iload_n 3, 1) := by decide +kernel
theorem dL_does_58 : decode cL_does 58 = .ok (.iconst 0, 1) := by decide +kernel
theorem dL_does_59 : decode cL_does 59 = .ok (.invokevirtual 14, 3) := by decide +kernel
theorem dL_does_62 : decode cL_does 62 = .ok (.istore 4, 2) := by decide +kernel
theorem dL_does_64 : decode cL_does 64 = .ok (.iload_n 2, 1) := by decide +kernel
theorem dL_does_65 : decode cL_does 65 = .ok (.iconst 1, 1) := by decide +kernel
theorem dL_does_66 : decode cL_does 66 = .ok (.iand, 1) := by decide +kernel
theorem dL_does_67 : decode cL_does 67 = .ok (.ifCond .eq 23, 3) := by decide +kernel
theorem dL_does_70 : decode cL_does 70 = .ok (.aload_n 0, 1) := by decide +kernel
theorem dL_does_71 : decode cL_does 71 = .ok (.iload_n 3, 1) := by decide +kernel
theorem dL_does_72 : decode cL_does 72 = .ok (.invokevirtual 55, 3) := by decide +kernel
theorem dL_does_75 : decode cL_does 75 = .ok (.iload 4, 2) := by decide +kernel
theorem dL_does_77 : decode cL_does 77 = .ok (.if_icmp .ne 17, 3) := by decide +kernel
theorem dL_does_80 : decode cL_does 80 = .ok (.aload_n 0, 1) := by decide +kernel
theorem dL_does_81 : decode cL_does 81 = .ok (.iload_n 3, 1) := by decide +kernel
theorem dL_does_82 : decode cL_does 82 = .ok (.iconst 1, 1) := by decide +kernel
theorem dL_does_83 : decode cL_does 83 = .ok (.invokevirtual 14, 3) := by decide +kernel
theorem dL_does_86 : decode cL_does 86 = .ok (.iconst (-1), 1) := by decide +kernel
theorem dL_does_87 : decode cL_does 87 = .ok (.if_icmp .ne 7, 3) := by decide +kernel
theorem dL_does_90 : decode cL_does 90 = .ok (.iconst 1, 1) := by decide +kernel
theorem dL_does_91 : decode cL_does 91 = .ok (.goto 4, 3) := by decide +kernel
theorem dL_does_94 : decode cL_does 94 = .ok (.iconst 0, 1) := by decide +kernel
theorem dL_does_95 : decode cL_does 95 = .ok (.ireturn, 1) := by decide +kernel
theorem dL_does_96 : decode cL_does 96 = .ok (.aload_n 0, 1) := by decide +kernel
theorem dL_does_97 : decode cL_does 97 = .ok (.iload_n 3, 1) := by decide +kernel
theorem dL_does_98 : decode cL_does 98 = .ok (.iconst 2, 1) := by decide +kernel
theorem dL_does_99 : decode cL_does 99 = .ok (.invokevirtual 14, 3) := by decide +kernel
theorem dL_does_102 : decode cL_does 102 = .ok (.istore 5, 2) := by decide +kernel
theorem dL_does_104 : decode cL_does 104 = .ok (.aload_n 0, 1) := by decide +kernel
theorem dL_does_105 : decode cL_does 105 = .ok (.iload_n 3, 1) := by decide +kernel
theorem dL_does_106 : decode cL_does 106 = .ok (.iload_n 2, 1) := by decide +kernel
theorem dL_does_107 : decode cL_does 107 = .ok (.bipush 10, 2) := by decide +kernel
theorem dL_does_109 : decode cL_does 109 = .ok (.invokestatic 67, 3) := by decide +kernel
theorem dL_does_112 : decode cL_does 112 = .ok (.invokevirtual 72, 3) := by decide +kernel
theorem dL_does_115 : decode cL_does 115 = .ok (.iload 5, 2) := by decide +kernel
theorem dL_does_117 : decode cL_does 117 = .ok (.if_icmp .ne 22, 3) := by decide +kernel
theorem dL_does_120 : decode cL_does 120 = .ok (.aload_n 0, 1) := by decide +kernel
theorem dL_does_121 : decode cL_does 121 = .ok (.iload_n 3, 1) := by decide +kernel
theorem dL_does_122 : decode cL_does 122 = .ok (.iconst 2, 1) := by decide +kernel
theorem dL_does_123 : decode cL_does 123 = .ok (.invokevirtual 14, 3) := by decide +kernel
theorem dL_does_126 : decode cL_does 126 = .ok (.iload_n 2, 1) := by decide +kernel
theorem dL_does_127 : decode cL_does 127 = .ok (.bipush 10, 2) := by decide +kernel
theorem dL_does_129 : decode cL_does 129 = .ok (.invokestatic 67, 3) := by decide +kernel
theorem dL_does_132 : decode cL_does 132 = .ok (.if_icmp .ne 7, 3) := by decide +kernel
theorem dL_does_135 : decode cL_does 135 = .ok (.iconst 1, 1) := by decide +kernel
theorem dL_does_136 : decode cL_does 136 = .ok (.goto 4, 3) := by decide +kernel
theorem dL_does_139 : decode cL_does 139 = .ok (.iconst 0, 1) := by decide +kernel
theorem dL_does_140 : decode cL_does 140 = .ok (.ireturn, 1) := by decide +kernel
theorem dL_does_141 : decode cL_does 141 = .ok (.aload_n 0, 1) := by decide +kernel
theorem dL_does_142 : decode cL_does 142 = .ok (.iconst 0, 1) := by decide +kernel
theorem dL_does_143 : decode cL_does 143 = .ok (.invokevirtual 8, 3) := by decide +kernel
theorem dL_does_146 : decode cL_does 146 = .ok (.istore 6, 2) := by decide +kernel
theorem dL_does_148 : decode cL_does 148 = .ok (.aload_n 0, 1) := by decide +kernel
theorem dL_does_149 : decode cL_does 149 = .ok (.iload_n 2, 1) := by decide +kernel
theorem dL_does_150 : decode cL_does 150 = .ok (.bipush 12, 2) := by decide +kernel
theorem dL_does_152 : decode cL_does 152 = .ok (.invokestatic 67, 3) := by decide +kernel
theorem dL_does_155 : decode cL_does 155 = .ok (.invokevirtual 40, 3) := by decide +kernel
theorem dL_does_158 : decode cL_does 158 = .ok (.iload 6, 2) := by decide +kernel
theorem dL_does_160 : decode cL_does 160 = .ok (.if_icmp .ne 21, 3) := by decide +kernel
theorem dL_does_163 : decode cL_does 163 = .ok (.aload_n 0, 1) := by decide +kernel
theorem dL_does_164 : decode cL_does 164 = .ok (.iconst 0, 1) := by decide +kernel
theorem dL_does_165 : decode cL_does 165 = .ok (.invokevirtual 8, 3) := by decide +kernel
theorem dL_does_168 : decode cL_does 168 = .ok (.iload_n 2, 1) := by decide +kernel
theorem dL_does_169 : decode cL_does 169 = .ok (.bipush 12, 2) := by decide +kernel
theorem dL_does_171 : decode cL_does 171 = .ok (.invokestatic 67, 3) := by decide +kernel
theorem dL_does_174 : decode cL_does 174 = .ok (.if_icmp .ne 7, 3) := by decide +kernel
theorem dL_does_177 : decode cL_does 177 = .ok (.iconst 1, 1) := by decide +kernel
theorem dL_does_178 : decode cL_does 178 = .ok (.goto 4, 3) := by decide +kernel
theorem dL_does_181 : decode cL_does 181 = .ok (.iconst 0, 1) := by decide +kernel
theorem dL_does_182 : decode cL_does 182 = .ok (.ireturn, 1) := by decide +kernel
theorem dL_does_183 : decode cL_does 183 = .ok (.aload_n 0, 1) := by decide +kernel
theorem dL_does_184 : decode cL_does 184 = .ok (.iload_n 3, 1) := by decide +kernel
theorem dL_does_185 : decode cL_does 185 = .ok (.iconst 1, 1) := by decide +kernel
theorem dL_does_186 : decode cL_does 186 = .ok (.invokestatic 75, 3) := by decide +kernel
theorem dL_does_189 : decode cL_does 189 = .ok (.ireturn, 1) := by decide +kernel
theorem dL_does_190 : decode cL_does 190 = .ok (.aload_n 0, 1) := by decide +kernel
theorem dL_does_191 : decode cL_does 191 = .ok (.iload_n 2, 1) := by decide +kernel
theorem dL_does_192 : decode cL_does 192 = .ok (.bipush 36, 2) := by decide +kernel
theorem dL_does_194 : decode cL_does 194 = .ok (.invokestatic 67, 3) := by decide +kernel
theorem dL_does_197 : decode cL_does 197 = .ok (.iload_n 3, 1) := by decide +kernel
theorem dL_does_198 : decode cL_does 198 = .ok (.invokestatic 79, 3) := by decide +kernel
theorem dL_does_201 : decode cL_does 201 = .ok (.ireturn, 1) := by decide +kernel
theorem dL_does_202 : decode cL_does 202 = .ok (.aload_n 0, 1) := by decide +kernel
theorem dL_does_203 : decode cL_does 203 = .ok (.invokevirtual 43, 3) := by decide +kernel
theorem dL_does_206 : decode cL_does 206 = .ok (.istore 7, 2) := by decide +kernel
theorem dL_does_208 : decode cL_does 208 = .ok (.iload 7, 2) := by decide +kernel
theorem dL_does_210 : decode cL_does 210 = .ok (.iconst (-1), 1) := by decide +kernel
theorem dL_does_211 : decode cL_does 211 = .ok (.if_icmp .eq 13, 3) := by decide +kernel
theorem dL_does_214 : decode cL_does 214 = .ok (.aload_n 0, 1) := by decide +kernel
theorem dL_does_215 : decode cL_does 215 = .ok (.iload 7, 2) := by decide +kernel
theorem dL_does_217 : decode cL_does 217 = .ok (.iconst 0, 1) := by decide +kernel
theorem dL_does_218 : decode cL_does 218 = .ok (.invokestatic 75, 3) := by decide +kernel
theorem dL_does_221 : decode cL_does 221 = .ok (.ifCond .eq 7, 3) := by decide +kernel
theorem dL_does_224 : decode cL_does 224 = .ok (.iconst 1, 1) := by decide +kernel
theorem dL_does_225 : decode cL_does 225 = .ok (.goto 4, 3) := by decide +kernel
theorem dL_does_228 : decode cL_does 228 = .ok (.iconst 0, 1) := by decide +kernel
theorem dL_does_229 : decode cL_does 229 = .ok (.ireturn, 1) := by decide +kernel
theorem dL_does_230 : decode cL_does 230 = .ok (.aload_n 0, 1) := by decide +kernel
theorem dL_does_231 : decode cL_does 231 = .ok (.iload_n 3, 1) := by decide +kernel
theorem dL_does_232 : decode cL_does 232 = .ok (.iconst 0, 1) := by decide +kernel
theorem dL_does_233 : decode cL_does 233 = .ok (.invokestatic 75, 3) := by decide +kernel
theorem dL_does_236 : decode cL_does 236 = .ok (.ireturn, 1) := by decide +kernel
