set_option maxRecDepth 20000 in
theorem ggL_isStep_L_up : GoodIn wsL_isStep wsL_up := goodIn_r _ [6, 7] (by decide +kernel) (by decide +kernel)
set_option maxRecDepth 20000 in
theorem gL_isStep_L_up : GoodIn wsL_isStep (va_wsS RL 82 yL_up wsL_up) := goodIn_app (goodIn_of _ (by decide +kernel)) ggL_isStep_L_up
set_option maxRecDepth 20000 in
theorem ggL_isStep_X5_placed : GoodIn wsL_isStep wsX5_placed := goodIn_r _ [12, 13, 14, 15, 16, 17, 18, 19, 20, 21, 22, 23, 24, 25, 26, 27, 28, 29, 30, 31, 32, 387, 388, 389, 390, 391, 392, 393, 394, 395, 396, 397, 398, 399, 400] (by decide +kernel) (by decide +kernel)
set_option maxRecDepth 20000 in
theorem gL_isStep_X5_placed : GoodIn wsL_isStep (wsV RL 86 RX5 yX5_placed wsX5_placed) := goodIn_app (goodIn_of _ (by decide +kernel)) ggL_isStep_X5_placed
set_option maxRecDepth 20000 in
theorem ggL_isStep_X5_gift : GoodIn wsL_isStep wsX5_gift := goodIn_r _ [36, 13, 37, 38, 39, 17, 40, 41, 387, 388, 389, 390, 391, 392, 393, 394, 395, 396] (by decide +kernel) (by decide +kernel)
set_option maxRecDepth 20000 in
theorem gL_isStep_X5_gift : GoodIn wsL_isStep (wsV RL 89 RX5 yX5_gift wsX5_gift) := goodIn_app (goodIn_of _ (by decide +kernel)) ggL_isStep_X5_gift
set_option maxRecDepth 20000 in
theorem ggL_isStep_X5_playerToMove : GoodIn wsL_isStep wsX5_playerToMove := goodIn_r _ [45, 13, 46, 47, 48, 17, 49, 19, 41, 50, 51, 52, 53, 54, 55, 56, 57, 23, 58, 59, 21, 22, 24, 25, 26, 27, 28, 29, 30, 31, 32, 60, 387, 388, 389, 390, 391, 392, 393, 394, 395, 396, 397, 398, 399, 400] (by decide +kernel) (by decide +kernel)
set_option maxRecDepth 20000 in
theorem gL_isStep_X5_playerToMove : GoodIn wsL_isStep (wsV RL 92 RX5 yX5_playerToMove wsX5_playerToMove) := goodIn_app (goodIn_of _ (by decide +kernel)) ggL_isStep_X5_playerToMove
set_option maxRecDepth 20000 in
theorem ggL_isStep_X5_isOver : GoodIn wsL_isStep wsX5_isOver := goodIn_r _ [64, 13, 65, 51, 52, 17, 53, 54, 19, 55, 56, 57, 23, 58, 59, 21, 22, 24, 25, 26, 27, 28, 29, 30, 31, 32, 387, 388, 389, 390, 391, 392, 393, 394, 395, 396, 397, 398, 399, 400] (by decide +kernel) (by decide +kernel)
set_option maxRecDepth 20000 in
theorem gL_isStep_X5_isOver : GoodIn wsL_isStep (wsV RL 95 RX5 yX5_isOver wsX5_isOver) := goodIn_app (goodIn_of _ (by decide +kernel)) ggL_isStep_X5_isOver
set_option maxRecDepth 20000 in
theorem ggL_isStep_L_restart : GoodIn wsL_isStep wsL_restart := goodIn_ca (goodIn_r _ [68, 69, 2, 70, 71, 72, 11, 73, 74, 75, 13, 76, 14, 15, 16, 17, 18, 19, 20, 21, 22, 23, 24, 25, 26, 27, 28, 29, 30, 31, 32, 77, 78, 79, 80, 81, 82, 83, 84, 85, 86, 87, 88, 89, 90, 91, 92, 93, 94, 95, 96, 41, 54, 97, 98, 99, 100, 101, 102, 103, 104, 105, 106, 107, 108, 109, 110, 111, 112, 387, 388, 389, 390, 391, 392, 393, 394, 395, 396, 397, 398, 399, 400, 401, 402, 403] (by decide +kernel) (by decide +kernel)) (goodIn_sub (fun _ h => List.mem_cons_of_mem _ (List.mem_append_left _ (List.mem_append_left _ (List.mem_append_right _ h)))) (by decide +kernel))
set_option maxRecDepth 20000 in
theorem gL_isStep_L_restart : GoodIn wsL_isStep (va_wsS RL 99 yL_restart wsL_restart) := goodIn_app (goodIn_of _ (by decide +kernel)) ggL_isStep_L_restart
set_option maxRecDepth 20000 in
theorem ggL_isStep_X5_rule : GoodIn wsL_isStep wsX5_rule := goodIn_r _ [116, 13, 14, 15, 16, 17, 18, 19, 117, 118, 119, 23, 120, 102, 387, 388, 389, 390, 391, 392, 393, 394, 395, 396, 397, 398, 399, 400] (by decide +kernel) (by decide +kernel)
set_option maxRecDepth 20000 in
theorem gL_isStep_X5_rule : GoodIn wsL_isStep (wsV RL 101 RX5 yX5_rule wsX5_rule) := goodIn_app (goodIn_of _ (by decide +kernel)) ggL_isStep_X5_rule
set_option maxRecDepth 20000 in
theorem ggL_isStep_X5_takeSnapshot : GoodIn wsL_isStep wsX5_takeSnapshot := goodIn_r _ [124, 125, 13, 126, 127, 94, 95, 17, 96, 19, 41, 54, 97, 98, 99, 100, 23, 101, 102, 25, 103, 104, 14, 15, 16, 18, 20, 21, 22, 24, 26, 27, 28, 29, 30, 31, 32, 387, 388, 389, 390, 391, 392, 393, 394, 395, 396, 397, 398, 399, 400] (by decide +kernel) (by decide +kernel)
set_option maxRecDepth 20000 in
theorem gL_isStep_X5_takeSnapshot : GoodIn wsL_isStep (wsV RL 104 RX5 yX5_takeSnapshot wsX5_takeSnapshot) := goodIn_app (goodIn_of _ (by decide +kernel)) ggL_isStep_X5_takeSnapshot
set_option maxRecDepth 20000 in
theorem ggL_isStep_L_restore : GoodIn wsL_isStep wsL_restore := goodIn_ca (goodIn_r _ [130, 131, 2, 132, 133, 134, 11, 135, 136, 137, 126, 76, 13, 125, 77, 78, 79, 80, 81, 82, 83, 84, 85, 86, 87, 88, 89, 90, 91, 92, 93, 94, 95, 17, 96, 19, 41, 54, 97, 98, 99, 100, 23, 101, 102, 25, 103, 104, 127, 14, 15, 16, 18, 20, 21, 22, 24, 26, 27, 28, 29, 30, 31, 32, 387, 388, 389, 390, 391, 392, 401, 402, 403, 393, 394, 395, 396, 397, 398, 399, 400] (by decide +kernel) (by decide +kernel)) (goodIn_sub (fun _ h => List.mem_cons_of_mem _ (List.mem_append_left _ (List.mem_append_right _ h))) (by decide +kernel))
set_option maxRecDepth 20000 in
theorem gL_isStep_L_restore : GoodIn wsL_isStep (va_wsS RL 107 yL_restore wsL_restore) := goodIn_app (goodIn_of _ (by decide +kernel)) ggL_isStep_L_restore
set_option maxRecDepth 20000 in
theorem ggL_isStep_L_undo : GoodIn wsL_isStep wsL_undo := goodIn_ca (goodIn_r _ [140, 131, 2, 141, 142, 143, 11, 144, 136, 137, 76, 13, 145, 146, 147, 80, 148, 83, 149, 150, 151, 152, 82, 88, 89, 90, 91, 92, 93, 94, 95, 17, 96, 19, 41, 54, 97, 98, 99, 100, 23, 101, 102, 25, 103, 104, 387, 388, 389, 390, 391, 392, 401, 402, 403, 393, 394, 395, 396, 397, 398, 399, 400] (by decide +kernel) (by decide +kernel)) (goodIn_sub (fun _ h => List.mem_cons_of_mem _ (List.mem_append_left _ (List.mem_append_right _ h))) (by decide +kernel))
set_option maxRecDepth 20000 in
theorem gL_isStep_L_undo : GoodIn wsL_isStep (va_wsS RL 110 yL_undo wsL_undo) := goodIn_app (goodIn_of _ (by decide +kernel)) ggL_isStep_L_undo
set_option maxRecDepth 20000 in
theorem ggL_isStep_X5_safeByLines : GoodIn wsL_isStep wsX5_safeByLines := goodIn_r _ [156, 13, 65, 51, 52, 17, 53, 54, 19, 55, 56, 57, 23, 58, 59, 21, 22, 24, 25, 26, 27, 28, 29, 30, 31, 32, 14, 15, 16, 18, 157, 158, 159, 160, 161, 162, 163, 164, 102, 165, 166, 167, 168, 169, 170, 171, 172, 173, 174, 175, 176, 104, 177, 178, 179, 180, 41, 181, 182, 183, 184, 103, 185, 186, 11, 187, 387, 388, 389, 390, 391, 392, 393, 394, 395, 396, 397, 398, 399, 400] (by decide +kernel) (by decide +kernel)
set_option maxRecDepth 20000 in
theorem gL_isStep_X5_safeByLines : GoodIn wsL_isStep (wsV RL 112 RX5 yX5_safeByLines wsX5_safeByLines) := goodIn_app (goodIn_of _ (by decide +kernel)) ggL_isStep_X5_safeByLines
set_option maxRecDepth 20000 in
theorem ggL_isStep_L_cellOf : GoodIn wsL_isStep wsL_cellOf := goodIn_ca (goodIn_r _ [190, 191, 2, 192, 193, 194, 11, 195, 13, 196, 197, 198, 199, 200, 14, 15, 16, 17, 18, 19, 201, 202, 203, 23, 204, 205, 206, 207, 208, 104, 209, 210, 211, 212, 25, 387, 388, 389, 390, 391, 392, 393, 394, 395, 396, 397, 398, 399, 400] (by decide +kernel) (by decide +kernel)) (goodIn_sub (fun _ h => List.mem_cons_of_mem _ (List.mem_append_right _ h)) (by decide +kernel))
set_option maxRecDepth 20000 in
theorem gL_isStep_L_cellOf : GoodIn wsL_isStep (va_wsS RL 115 yL_cellOf wsL_cellOf) := goodIn_app (goodIn_of _ (by decide +kernel)) ggL_isStep_L_cellOf
set_option maxRecDepth 20000 in
theorem ggL_isStep_L_give : GoodIn wsL_isStep wsL_give := goodIn_ca (goodIn_ca (goodIn_r _ [215, 191, 131, 2, 1, 216, 217, 218, 11, 219, 136, 137, 13, 76, 196, 197, 198, 199, 200, 220, 221, 222, 17, 223, 41, 19, 50, 51, 52, 53, 54, 55, 56, 57, 23, 58, 59, 21, 22, 24, 25, 26, 27, 28, 29, 30, 31, 32, 181, 182, 183, 184, 103, 77, 78, 79, 80, 81, 82, 83, 84, 85, 86, 87, 88, 89, 90, 91, 92, 93, 94, 95, 96, 97, 98, 99, 100, 101, 102, 104, 224, 225, 226, 227, 46, 47, 48, 49, 60, 387, 388, 389, 390, 391, 392, 393, 394, 395, 396, 397, 398, 399, 400, 401, 402, 403] (by decide +kernel) (by decide +kernel)) (goodIn_sub (fun _ h => List.mem_cons_of_mem _ (List.mem_append_left _ (List.mem_append_right _ h))) (by decide +kernel))) (goodIn_sub (fun _ h => List.mem_cons_of_mem _ (List.mem_append_right _ h)) (by decide +kernel))
set_option maxRecDepth 20000 in
theorem gL_isStep_L_give : GoodIn wsL_isStep (va_wsS RL 117 yL_give wsL_give) := goodIn_app (goodIn_of _ (by decide +kernel)) ggL_isStep_L_give
set_option maxRecDepth 20000 in
theorem ggL_isStep_L_text : GoodIn wsL_isStep wsL_text := goodIn_ca (goodIn_r _ [230, 231, 232, 233, 11, 234, 235, 236, 237, 238, 239, 240, 241, 242, 243, 244, 245, 246, 247, 5, 248, 131, 2, 249, 250, 251, 252, 136, 137, 253, 254, 255, 256, 257, 258, 259, 260, 261, 262, 263, 264, 265, 266, 267, 268, 76, 13, 269, 270, 271, 272, 273, 274, 275, 276, 277, 278, 279, 280, 281, 282, 283, 284, 285, 286, 287, 288, 127, 94, 95, 17, 96, 19, 41, 54, 97, 98, 99, 100, 23, 101, 102, 25, 103, 104, 289, 290, 291, 292, 293, 294, 295, 296, 297, 298, 299, 300, 301, 302, 303, 304, 305, 221, 222, 223, 50, 51, 52, 53, 55, 56, 57, 58, 59, 21, 22, 24, 26, 27, 28, 29, 30, 31, 32, 181, 182, 183, 184, 306, 225, 226, 227, 307, 308, 309, 310, 311, 210, 211, 212, 312, 313, 314, 315, 316, 47, 48, 49, 60, 317, 318, 319, 320, 321, 322, 323, 324, 161, 162, 163, 164, 325, 326, 327, 328, 172, 77, 78, 79, 80, 81, 82, 83, 84, 85, 86, 87, 88, 89, 90, 91, 92, 93, 329, 330, 331, 332, 333, 387, 388, 389, 390, 391, 392, 404, 405, 393, 394, 395, 396, 397, 398, 399, 400, 401, 402, 403] (by decide +kernel) (by decide +kernel)) (goodIn_sub (fun _ h => List.mem_cons_of_mem _ (List.mem_append_left _ (List.mem_append_right _ h))) (by decide +kernel))
set_option maxRecDepth 20000 in
theorem gL_isStep_L_text : GoodIn wsL_isStep (va_wsS RL 119 yL_text wsL_text) := goodIn_app (goodIn_of _ (by decide +kernel)) ggL_isStep_L_text
set_option maxRecDepth 20000 in
theorem ggL_isStep_L_winningCell : GoodIn wsL_isStep wsL_winningCell := goodIn_ca (goodIn_r _ [336, 191, 2, 337, 338, 339, 11, 340, 13, 269, 196, 197, 198, 199, 200, 65, 51, 52, 17, 53, 54, 19, 55, 56, 57, 23, 58, 59, 21, 22, 24, 25, 26, 27, 28, 29, 30, 31, 32, 14, 15, 16, 18, 341, 182, 183, 184, 103, 127, 94, 95, 96, 41, 97, 98, 99, 100, 101, 102, 104, 342, 343, 344, 345, 209, 210, 211, 212, 346, 347, 348, 349, 350, 318, 319, 320, 351, 322, 323, 324, 161, 162, 163, 164, 325, 326, 327, 328, 172, 352, 353, 354, 355, 387, 388, 389, 390, 391, 392, 393, 394, 395, 396, 397, 398, 399, 400] (by decide +kernel) (by decide +kernel)) (goodIn_sub (fun _ h => List.mem_cons_of_mem _ (List.mem_append_right _ h)) (by decide +kernel))
set_option maxRecDepth 20000 in
theorem gL_isStep_L_winningCell : GoodIn wsL_isStep (va_wsS RL 123 yL_winningCell wsL_winningCell) := goodIn_app (goodIn_of _ (by decide +kernel)) ggL_isStep_L_winningCell
set_option maxRecDepth 20000 in
theorem ggL_isStep_L_pieceOn : GoodIn wsL_isStep wsL_pieceOn := goodIn_ca (goodIn_r _ [358, 191, 2, 359, 360, 361, 11, 362, 13, 363, 364, 365, 199, 200, 14, 15, 16, 17, 18, 19, 366, 206, 207, 23, 208, 104, 209, 210, 211, 212, 25, 387, 388, 389, 390, 391, 392, 393, 394, 395, 396, 397, 398, 399, 400] (by decide +kernel) (by decide +kernel)) (goodIn_sub (fun _ h => List.mem_cons_of_mem _ (List.mem_append_right _ h)) (by decide +kernel))
set_option maxRecDepth 20000 in
theorem gL_isStep_L_pieceOn : GoodIn wsL_isStep (va_wsS RL 125 yL_pieceOn wsL_pieceOn) := goodIn_app (goodIn_of _ (by decide +kernel)) ggL_isStep_L_pieceOn
set_option maxRecDepth 20000 in
theorem ggL_isStep_L_place : GoodIn wsL_isStep wsL_place := goodIn_ca (goodIn_ca (goodIn_r _ [369, 191, 131, 2, 1, 370, 371, 372, 11, 373, 136, 137, 13, 76, 363, 364, 365, 199, 200, 374, 308, 309, 17, 310, 41, 19, 311, 210, 211, 23, 212, 25, 77, 78, 79, 80, 81, 82, 83, 84, 85, 86, 87, 88, 89, 90, 91, 92, 93, 94, 95, 96, 54, 97, 98, 99, 100, 101, 102, 103, 104, 375, 313, 314, 315, 316, 47, 48, 49, 50, 51, 52, 53, 55, 56, 57, 58, 59, 21, 22, 24, 26, 27, 28, 29, 30, 31, 32, 60, 317, 318, 319, 320, 321, 322, 323, 324, 161, 162, 163, 164, 325, 326, 327, 328, 172, 387, 388, 389, 390, 391, 392, 393, 394, 395, 396, 397, 398, 399, 400, 401, 402, 403] (by decide +kernel) (by decide +kernel)) (goodIn_sub (fun _ h => List.mem_cons_of_mem _ (List.mem_append_left _ (List.mem_append_right _ h))) (by decide +kernel))) (goodIn_sub (fun _ h => List.mem_cons_of_mem _ (List.mem_append_right _ h)) (by decide +kernel))
set_option maxRecDepth 20000 in
theorem gL_isStep_L_place : GoodIn wsL_isStep (va_wsS RL 127 yL_place wsL_place) := goodIn_app (goodIn_of _ (by decide +kernel)) ggL_isStep_L_place
set_option maxRecDepth 20000 in
theorem ggL_isStep_L_turned : GoodIn wsL_isStep wsL_turned := goodIn_r _ [378] (by decide +kernel) (by decide +kernel)
set_option maxRecDepth 20000 in
theorem gL_isStep_L_turned : GoodIn wsL_isStep (va_wsS RL 129 yL_turned wsL_turned) := goodIn_app (goodIn_of _ (by decide +kernel)) ggL_isStep_L_turned
set_option maxRecDepth 20000 in
theorem ggL_isStep_X5_winner : GoodIn wsL_isStep wsX5_winner := goodIn_r _ [382, 13, 383, 384, 385, 17, 386, 54, 387, 388, 389, 390, 391, 392, 393, 394, 395, 396] (by decide +kernel) (by decide +kernel)
set_option maxRecDepth 20000 in
theorem gL_isStep_X5_winner : GoodIn wsL_isStep (wsV RL 132 RX5 yX5_winner wsX5_winner) := goodIn_app (goodIn_of _ (by decide +kernel)) ggL_isStep_X5_winner
theorem dL_isStep_0 : decode cL_isStep 0 = .ok (.iload_n 2, 1) := by decide +kernel
theorem dL_isStep_1 : decode cL_isStep 1 = .ok (.iconst 4, 1) := by decide +kernel
theorem dL_isStep_2 : decode cL_isStep 2 = .ok (.ishr, 1) := by decide +kernel
theorem dL_isStep_3 : decode cL_isStep 3 = .ok (.istore 4, 2) := by decide +kernel
theorem dL_isStep_5 : decode cL_isStep 5 = .ok (.iload_n 3, 1) := by decide +kernel
theorem dL_isStep_6 : decode cL_isStep 6 = .ok (.bipush 16, 2) := by decide +kernel
theorem dL_isStep_8 : decode cL_isStep 8 = .ok (.invokestatic 82, 3) := by decide +kernel
theorem dL_isStep_11 : decode cL_isStep 11 = .ok (.istore 5, 2) := by decide +kernel
theorem dL_isStep_13 : decode cL_isStep 13 = .ok (.aload_n 0, 1) := by decide +kernel
theorem dL_isStep_14 : decode cL_isStep 14 = .ok (.invokevirtual 86, 3) := by decide +kernel
theorem dL_isStep_17 : decode cL_isStep 17 = .ok (.istore 6, 2) := by decide +kernel
theorem dL_isStep_19 : decode cL_isStep 19 = .ok (.aload_n 0, 1) := by decide +kernel
theorem dL_isStep_20 : decode cL_isStep 20 = .ok (.invokevirtual 89, 3) := by decide +kernel
theorem dL_isStep_23 : decode cL_isStep 23 = .ok (.istore 7, 2) := by decide +kernel
theorem dL_isStep_25 : decode cL_isStep 25 = .ok (.aload_n 0, 1) := by decide +kernel
theorem dL_isStep_26 : decode cL_isStep 26 = .ok (.invokevirtual 92, 3) := by decide +kernel
theorem dL_isStep_29 : decode cL_isStep 29 = .ok (.istore 8, 2) := by decide +kernel
theorem dL_isStep_31 : decode cL_isStep 31 = .ok (.aload_n 0, 1) := by decide +kernel
theorem dL_isStep_32 : decode cL_isStep 32 = .ok (.invokevirtual 95, 3) := by decide +kernel
theorem dL_isStep_35 : decode cL_isStep 35 = .ok (.istore 9, 2) := by decide +kernel
theorem dL_isStep_37 : decode cL_isStep 37 = .ok (.iload_n 2, 1) := by decide +kernel
theorem dL_isStep_38 : decode cL_isStep 38 = .ok (.bipush 30, 2) := by decide +kernel
theorem dL_isStep_40 : decode cL_isStep 40 = .ok (.invokestatic 82, 3) := by decide +kernel
theorem dL_isStep_43 : decode cL_isStep 43 = .ok (.tableswitch 138 0 2 #[25, 77, 121], 25) := by decide +kernel
theorem dL_isStep_68 : decode cL_isStep 68 = .ok (.iload 4, 2) := by decide +kernel
theorem dL_isStep_70 : decode cL_isStep 70 = .ok (.iconst 2, 1) := by decide +kernel
theorem dL_isStep_71 : decode cL_isStep 71 = .ok (.invokestatic 82, 3) := by decide +kernel
theorem dL_isStep_74 : decode cL_isStep 74 = .ok (.istore 10, 2) := by decide +kernel
theorem dL_isStep_76 : decode cL_isStep 76 = .ok (.aload_n 0, 1) := by decide +kernel
theorem dL_isStep_77 : decode cL_isStep 77 = .ok (.iload 10, 2) := by decide +kernel
theorem dL_isStep_79 : decode cL_isStep 79 = .ok (.invokestatic 99, 3) := by decide +kernel
theorem dL_isStep_82 : decode cL_isStep 82 = .ok (.iload 6, 2) := by decide +kernel
theorem dL_isStep_84 : decode cL_isStep 84 = .ok (.if_icmp .ne 34, 3) := by decide +kernel
theorem dL_isStep_87 : decode cL_isStep 87 = .ok (.aload_n 1, 1) := by decide +kernel
theorem dL_isStep_88 : decode cL_isStep 88 = .ok (.iload 10, 2) := by decide +kernel
theorem dL_isStep_90 : decode cL_isStep 90 = .ok (.invokestatic 99, 3) := by decide +kernel
theorem dL_isStep_93 : decode cL_isStep 93 = .ok (.iload 6, 2) := by decide +kernel
theorem dL_isStep_95 : decode cL_isStep 95 = .ok (.if_icmp .ne 23, 3) := by decide +kernel
theorem dL_isStep_98 : decode cL_isStep 98 = .ok (.aload_n 0, 1) := by decide +kernel
theorem dL_isStep_99 : decode cL_isStep 99 = .ok (.invokevirtual 101, 3) := by decide +kernel
theorem dL_isStep_102 : decode cL_isStep 102 = .ok (.iload 10, 2) := by decide +kernel
theorem dL_isStep_104 : decode cL_isStep 104 = .ok (.if_icmp .ne 14, 3) := by decide +kernel
theorem dL_isStep_107 : decode cL_isStep 107 = .ok (.aload_n 0, 1) := by decide +kernel
theorem dL_isStep_108 : decode cL_isStep 108 = .ok (.invokevirtual 86, 3) := by decide +kernel
theorem dL_isStep_111 : decode cL_isStep 111 = .ok (.ifCond .ne 7, 3) := by decide +kernel
theorem dL_isStep_114 : decode cL_isStep 114 = .ok (.iconst 1, 1) := by decide +kernel
theorem dL_isStep_115 : decode cL_isStep 115 = .ok (.goto 4, 3) := by decide +kernel
theorem dL_isStep_118 : decode cL_isStep 118 = .ok (.iconst 0, 1) := by decide +kernel
theorem dL_isStep_119 : decode cL_isStep 119 = .ok (.ireturn, 1) := by decide +kernel
theorem dL_isStep_120 : decode cL_isStep 120 = .ok (.iload_n 3, 1) := by decide +kernel
theorem dL_isStep_121 : decode cL_isStep 121 = .ok (.iconst 2, 1) := by decide +kernel
theorem dL_isStep_122 : decode cL_isStep 122 = .ok (.invokestatic 82, 3) := by decide +kernel
theorem dL_isStep_125 : decode cL_isStep 125 = .ok (.ifCond .ne 22, 3) := by decide +kernel
theorem dL_isStep_128 : decode cL_isStep 128 = .ok (.aload_n 0, 1) := by decide +kernel
theorem dL_isStep_129 : decode cL_isStep 129 = .ok (.invokevirtual 104, 3) := by decide +kernel
theorem dL_isStep_132 : decode cL_isStep 132 = .ok (.aload_n 1, 1) := by decide +kernel
theorem dL_isStep_133 : decode cL_isStep 133 = .ok (.invokevirtual 104, 3) := by decide +kernel
theorem dL_isStep_136 : decode cL_isStep 136 = .ok (.if_icmp .ne 7, 3) := by decide +kernel
theorem dL_isStep_139 : decode cL_isStep 139 = .ok (.iconst 1, 1) := by decide +kernel
theorem dL_isStep_140 : decode cL_isStep 140 = .ok (.goto 23, 3) := by decide +kernel
theorem dL_isStep_143 : decode cL_isStep 143 = .ok (.iconst 0, 1) := by decide +kernel
theorem dL_isStep_144 : decode cL_isStep 144 = .ok (.goto 19, 3) := by decide +kernel
theorem dL_isStep_147 : decode cL_isStep 147 = .ok (.aload_n 0, 1) := by decide +kernel
theorem dL_isStep_148 : decode cL_isStep 148 = .ok (.invokestatic 107, 3) := by decide +kernel
theorem dL_isStep_151 : decode cL_isStep 151 = .ok (.aload_n 1, 1) := by decide +kernel
theorem dL_isStep_152 : decode cL_isStep 152 = .ok (.invokestatic 107, 3) := by decide +kernel
theorem dL_isStep_155 : decode cL_isStep 155 = .ok (.if_icmp .ne 7, 3) := by decide +kernel
theorem dL_isStep_158 : decode cL_isStep 158 = .ok (.iconst 1, 1) := by decide +kernel
theorem dL_isStep_159 : decode cL_isStep 159 = .ok (.goto 4, 3) := by decide +kernel
theorem dL_isStep_162 : decode cL_isStep 162 = .ok (.iconst 0, 1) := by decide +kernel
theorem dL_isStep_163 : decode cL_isStep 163 = .ok (.ireturn, 1) := by decide +kernel
theorem dL_isStep_164 : decode cL_isStep 164 = .ok (.aload_n 0, 1) := by decide +kernel
theorem dL_isStep_165 : decode cL_isStep 165 = .ok (.invokestatic 110, 3) := by decide +kernel
theorem dL_isStep_168 : decode cL_isStep 168 = .ok (.aload_n 1, 1) := by decide +kernel
theorem dL_isStep_169 : decode cL_isStep 169 = .ok (.invokestatic 110, 3) := by decide +kernel
theorem dL_isStep_172 : decode cL_isStep 172 = .ok (.if_icmp .ne 7, 3) := by decide +kernel
theorem dL_isStep_175 : decode cL_isStep 175 = .ok (.iconst 1, 1) := by decide +kernel
theorem dL_isStep_176 : decode cL_isStep 176 = .ok (.goto 4, 3) := by decide +kernel
theorem dL_isStep_179 : decode cL_isStep 179 = .ok (.iconst 0, 1) := by decide +kernel
theorem dL_isStep_180 : decode cL_isStep 180 = .ok (.ireturn, 1) := by decide +kernel
theorem dL_isStep_181 : decode cL_isStep 181 = .ok (.iload 9, 2) := by decide +kernel
theorem dL_isStep_183 : decode cL_isStep 183 = .ok (.ifCond .eq 44, 3) := by decide +kernel
theorem dL_isStep_186 : decode cL_isStep 186 = .ok (.iload 4, 2) := by decide +kernel
theorem dL_isStep_188 : decode cL_isStep 188 = .ok (.iconst 3, 1) := by decide +kernel
theorem dL_isStep_189 : decode cL_isStep 189 = .ok (.invokestatic 82, 3) := by decide +kernel
theorem dL_isStep_192 : decode cL_isStep 192 = .ok (.ifCond .gt 29, 3) := by decide +kernel
theorem dL_isStep_195 : decode cL_isStep 195 = .ok (.aload_n 0, 1) := by decide +kernel
theorem dL_isStep_196 : decode cL_isStep 196 = .ok (.aload_n 0, 1) := by decide +kernel
theorem dL_isStep_197 : decode cL_isStep 197 = .ok (.invokevirtual 101, 3) := by decide +kernel
theorem dL_isStep_200 : decode cL_isStep 200 = .ok (.invokestatic 99, 3) := by decide +kernel
theorem dL_isStep_203 : decode cL_isStep 203 = .ok (.iload 6, 2) := by decide +kernel
theorem dL_isStep_205 : decode cL_isStep 205 = .ok (.if_icmp .ne 20, 3) := by decide +kernel
theorem dL_isStep_208 : decode cL_isStep 208 = .ok (.aload_n 1, 1) := by decide +kernel
theorem dL_isStep_209 : decode cL_isStep 209 = .ok (.aload_n 1, 1) := by decide +kernel
theorem dL_isStep_210 : decode cL_isStep 210 = .ok (.invokevirtual 101, 3) := by decide +kernel
theorem dL_isStep_213 : decode cL_isStep 213 = .ok (.invokestatic 99, 3) := by decide +kernel
theorem dL_isStep_216 : decode cL_isStep 216 = .ok (.iload 6, 2) := by decide +kernel
theorem dL_isStep_218 : decode cL_isStep 218 = .ok (.if_icmp .ne 7, 3) := by decide +kernel
theorem dL_isStep_221 : decode cL_isStep 221 = .ok (.iconst 1, 1) := by decide +kernel
theorem dL_isStep_222 : decode cL_isStep 222 = .ok (.goto 4, 3) := by decide +kernel
theorem dL_isStep_225 : decode cL_isStep 225 = .ok (.iconst 0, 1) := by decide +kernel
theorem dL_isStep_226 : decode cL_isStep 226 = .ok (.ireturn, 1) := by decide +kernel
theorem dL_isStep_227 : decode cL_isStep 227 = .ok (.iload 7, 2) := by decide +kernel
theorem dL_isStep_229 : decode cL_isStep 229 = .ok (.ifCond .ge 159, 3) := by decide +kernel
theorem dL_isStep_232 : decode cL_isStep 232 = .ok (.aload_n 0, 1) := by decide +kernel
theorem dL_isStep_233 : decode cL_isStep 233 = .ok (.invokevirtual 112, 3) := by decide +kernel
theorem dL_isStep_236 : decode cL_isStep 236 = .ok (.istore 10, 2) := by decide +kernel
theorem dL_isStep_238 : decode cL_isStep 238 = .ok (.iconst 0, 1) := by decide +kernel
theorem dL_isStep_239 : decode cL_isStep 239 = .ok (.istore 11, 2) := by decide +kernel
theorem dL_isStep_241 : decode cL_isStep 241 = .ok (.iload 11, 2) := by decide +kernel
theorem dL_isStep_243 : decode cL_isStep 243 = .ok (.bipush 16, 2) := by decide +kernel
theorem dL_isStep_245 : decode cL_isStep 245 = .ok (.if_icmp .ge 53, 3) := by decide +kernel
theorem dL_isStep_248 : decode cL_isStep 248 = .ok (.iload 4, 2) := by decide +kernel
theorem dL_isStep_250 : decode cL_isStep 250 = .ok (.bipush 6, 2) := by decide +kernel
theorem dL_isStep_252 : decode cL_isStep 252 = .ok (.invokestatic 82, 3) := by decide +kernel
theorem dL_isStep_255 : decode cL_isStep 255 = .ok (.ifCond .le 43, 3) := by decide +kernel
theorem dL_isStep_258 : decode cL_isStep 258 = .ok (.aload_n 0, 1) := by decide +kernel
theorem dL_isStep_259 : decode cL_isStep 259 = .ok (.iload 5, 2) := by decide +kernel
theorem dL_isStep_261 : decode cL_isStep 261 = .ok (.invokestatic 115, 3) := by decide +kernel
theorem dL_isStep_264 : decode cL_isStep 264 = .ok (.ifCond .ge 18, 3) := by decide +kernel
theorem dL_isStep_267 : decode cL_isStep 267 = .ok (.iload 10, 2) := by decide +kernel
theorem dL_isStep_269 : decode cL_isStep 269 = .ok (.ifCond .le 29, 3) := by decide +kernel
theorem dL_isStep_272 : decode cL_isStep 272 = .ok (.iload 10, 2) := by decide +kernel
theorem dL_isStep_274 : decode cL_isStep 274 = .ok (.iload 5, 2) := by decide +kernel
theorem dL_isStep_276 : decode cL_isStep 276 = .ok (.ishr, 1) := by decide +kernel
theorem dL_isStep_277 : decode cL_isStep 277 = .ok (.iconst 1, 1) := by decide +kernel
theorem dL_isStep_278 : decode cL_isStep 278 = .ok (.iand, 1) := by decide +kernel
theorem dL_isStep_279 : decode cL_isStep 279 = .ok (.ifCond .ne 19, 3) := by decide +kernel
theorem dL_isStep_282 : decode cL_isStep 282 = .ok (.iload 5, 2) := by decide +kernel
theorem dL_isStep_284 : decode cL_isStep 284 = .ok (.bipush 7, 2) := by decide +kernel
theorem dL_isStep_286 : decode cL_isStep 286 = .ok (.iadd, 1) := by decide +kernel
theorem dL_isStep_287 : decode cL_isStep 287 = .ok (.bipush 16, 2) := by decide +kernel
theorem dL_isStep_289 : decode cL_isStep 289 = .ok (.irem, 1) := by decide +kernel
theorem dL_isStep_290 : decode cL_isStep 290 = .ok (.istore 5, 2) := by decide +kernel
theorem dL_isStep_292 : decode cL_isStep 292 = .ok (.iinc 11 1, 3) := by decide +kernel
theorem dL_isStep_295 : decode cL_isStep 295 = .ok (.goto (-54), 3) := by decide +kernel
theorem dL_isStep_298 : decode cL_isStep 298 = .ok (.aload_n 0, 1) := by decide +kernel
theorem dL_isStep_299 : decode cL_isStep 299 = .ok (.iload 5, 2) := by decide +kernel
theorem dL_isStep_301 : decode cL_isStep 301 = .ok (.invokestatic 117, 3) := by decide +kernel
theorem dL_isStep_304 : decode cL_isStep 304 = .ok (.istore 11, 2) := by decide +kernel
theorem dL_isStep_306 : decode cL_isStep 306 = .ok (.aload_n 1, 1) := by decide +kernel
theorem dL_isStep_307 : decode cL_isStep 307 = .ok (.bipush 103, 2) := by decide +kernel
theorem dL_isStep_309 : decode cL_isStep 309 = .ok (.bipush 15, 2) := by decide +kernel
theorem dL_isStep_311 : decode cL_isStep 311 = .ok (.iload 5, 2) := by decide +kernel
theorem dL_isStep_313 : decode cL_isStep 313 = .ok (.isub, 1) := by decide +kernel
theorem dL_isStep_314 : decode cL_isStep 314 = .ok (.invokestatic 119, 3) := by decide +kernel
theorem dL_isStep_317 : decode cL_isStep 317 = .ok (.iload 11, 2) := by decide +kernel
theorem dL_isStep_319 : decode cL_isStep 319 = .ok (.ldc 20, 2) := by decide +kernel
theorem dL_isStep_321 : decode cL_isStep 321 = .ok (.if_icmp .ne 8, 3) := by decide +kernel
theorem dL_isStep_324 : decode cL_isStep 324 = .ok (.ldc 17, 2) := by decide +kernel
theorem dL_isStep_326 : decode cL_isStep 326 = .ok (.goto 4, 3) := by decide +kernel
theorem dL_isStep_329 : decode cL_isStep 329 = .ok (.iconst 1, 1) := by decide +kernel
theorem dL_isStep_330 : decode cL_isStep 330 = .ok (.if_icmp .ne 56, 3) := by decide +kernel
theorem dL_isStep_333 : decode cL_isStep 333 = .ok (.iload 11, 2) := by decide +kernel
theorem dL_isStep_335 : decode cL_isStep 335 = .ok (.ldc 20, 2) := by decide +kernel
theorem dL_isStep_337 : decode cL_isStep 337 = .ok (.if_icmp .ne 15, 3) := by decide +kernel
theorem dL_isStep_340 : decode cL_isStep 340 = .ok (.aload_n 0, 1) := by decide +kernel
theorem dL_isStep_341 : decode cL_isStep 341 = .ok (.iload 5, 2) := by decide +kernel
theorem dL_isStep_343 : decode cL_isStep 343 = .ok (.invokestatic 115, 3) := by decide +kernel
theorem dL_isStep_346 : decode cL_isStep 346 = .ok (.ifCond .lt 40, 3) := by decide +kernel
theorem dL_isStep_349 : decode cL_isStep 349 = .ok (.goto 33, 3) := by decide +kernel
theorem dL_isStep_352 : decode cL_isStep 352 = .ok (.iload 11, 2) := by decide +kernel
theorem dL_isStep_354 : decode cL_isStep 354 = .ok (.iconst 1, 1) := by decide +kernel
theorem dL_isStep_355 : decode cL_isStep 355 = .ok (.iload 8, 2) := by decide +kernel
theorem dL_isStep_357 : decode cL_isStep 357 = .ok (.isub, 1) := by decide +kernel
theorem dL_isStep_358 : decode cL_isStep 358 = .ok (.if_icmp .ne 28, 3) := by decide +kernel
theorem dL_isStep_361 : decode cL_isStep 361 = .ok (.aload_n 1, 1) := by decide +kernel
theorem dL_isStep_362 : decode cL_isStep 362 = .ok (.invokevirtual 89, 3) := by decide +kernel
theorem dL_isStep_365 : decode cL_isStep 365 = .ok (.bipush 15, 2) := by decide +kernel
theorem dL_isStep_367 : decode cL_isStep 367 = .ok (.iload 5, 2) := by decide +kernel
theorem dL_isStep_369 : decode cL_isStep 369 = .ok (.isub, 1) := by decide +kernel
theorem dL_isStep_370 : decode cL_isStep 370 = .ok (.if_icmp .ne 16, 3) := by decide +kernel
theorem dL_isStep_373 : decode cL_isStep 373 = .ok (.aload_n 0, 1) := by decide +kernel
theorem dL_isStep_374 : decode cL_isStep 374 = .ok (.invokevirtual 92, 3) := by decide +kernel
theorem dL_isStep_377 : decode cL_isStep 377 = .ok (.iload 11, 2) := by decide +kernel
theorem dL_isStep_379 : decode cL_isStep 379 = .ok (.if_icmp .ne 7, 3) := by decide +kernel
theorem dL_isStep_382 : decode cL_isStep 382 = .ok (.iconst 1, 1) := by decide +kernel
theorem dL_isStep_383 : decode cL_isStep 383 = .ok (.goto 4, 3) := by decide +kernel
theorem dL_isStep_386 : decode cL_isStep 386 = .ok (.iconst 0, 1) := by decide +kernel
theorem dL_isStep_387 : decode cL_isStep 387 = .ok (.ireturn, 1) := by decide +kernel
theorem dL_isStep_388 : decode cL_isStep 388 = .ok (.aload_n 0, 1) := by decide +kernel
theorem dL_isStep_389 : decode cL_isStep 389 = .ok (.iload 7, 2) := by decide +kernel
theorem dL_isStep_391 : decode cL_isStep 391 = .ok (.invokestatic 123, 3) := by decide +kernel
theorem dL_isStep_394 : decode cL_isStep 394 = .ok (.istore 10, 2) := by decide +kernel
theorem dL_isStep_396 : decode cL_isStep 396 = .ok (.iconst 0, 1) := by decide +kernel
theorem dL_isStep_397 : decode cL_isStep 397 = .ok (.istore 11, 2) := by decide +kernel
theorem dL_isStep_399 : decode cL_isStep 399 = .ok (.iload 11, 2) := by decide +kernel
theorem dL_isStep_401 : decode cL_isStep 401 = .ok (.bipush 16, 2) := by decide +kernel
theorem dL_isStep_403 : decode cL_isStep 403 = .ok (.if_icmp .ge 60, 3) := by decide +kernel
theorem dL_isStep_406 : decode cL_isStep 406 = .ok (.iload 4, 2) := by decide +kernel
theorem dL_isStep_408 : decode cL_isStep 408 = .ok (.bipush 9, 2) := by decide +kernel
theorem dL_isStep_410 : decode cL_isStep 410 = .ok (.invokestatic 82, 3) := by decide +kernel
theorem dL_isStep_413 : decode cL_isStep 413 = .ok (.ifCond .le 50, 3) := by decide +kernel
theorem dL_isStep_416 : decode cL_isStep 416 = .ok (.aload_n 0, 1) := by decide +kernel
theorem dL_isStep_417 : decode cL_isStep 417 = .ok (.iload 5, 2) := by decide +kernel
theorem dL_isStep_419 : decode cL_isStep 419 = .ok (.invokestatic 125, 3) := by decide +kernel
theorem dL_isStep_422 : decode cL_isStep 422 = .ok (.ifCond .ge 26, 3) := by decide +kernel
theorem dL_isStep_425 : decode cL_isStep 425 = .ok (.iload 4, 2) := by decide +kernel
theorem dL_isStep_427 : decode cL_isStep 427 = .ok (.iconst 4, 1) := by decide +kernel
theorem dL_isStep_428 : decode cL_isStep 428 = .ok (.invokestatic 82, 3) := by decide +kernel
theorem dL_isStep_431 : decode cL_isStep 431 = .ok (.ifCond .le 32, 3) := by decide +kernel
theorem dL_isStep_434 : decode cL_isStep 434 = .ok (.iload 5, 2) := by decide +kernel
theorem dL_isStep_436 : decode cL_isStep 436 = .ok (.iload 10, 2) := by decide +kernel
theorem dL_isStep_438 : decode cL_isStep 438 = .ok (.if_icmp .ne 25, 3) := by decide +kernel
theorem dL_isStep_441 : decode cL_isStep 441 = .ok (.iload 6, 2) := by decide +kernel
theorem dL_isStep_443 : decode cL_isStep 443 = .ok (.bipush 15, 2) := by decide +kernel
theorem dL_isStep_445 : decode cL_isStep 445 = .ok (.if_icmp .ge 18, 3) := by decide +kernel
theorem dL_isStep_448 : decode cL_isStep 448 = .ok (.iload 5, 2) := by decide +kernel
theorem dL_isStep_450 : decode cL_isStep 450 = .ok (.iconst 5, 1) := by decide +kernel
theorem dL_isStep_451 : decode cL_isStep 451 = .ok (.iadd, 1) := by decide +kernel
theorem dL_isStep_452 : decode cL_isStep 452 = .ok (.bipush 16, 2) := by decide +kernel
theorem dL_isStep_454 : decode cL_isStep 454 = .ok (.irem, 1) := by decide +kernel
theorem dL_isStep_455 : decode cL_isStep 455 = .ok (.istore 5, 2) := by decide +kernel
theorem dL_isStep_457 : decode cL_isStep 457 = .ok (.iinc 11 1, 3) := by decide +kernel
theorem dL_isStep_460 : decode cL_isStep 460 = .ok (.goto (-61), 3) := by decide +kernel
theorem dL_isStep_463 : decode cL_isStep 463 = .ok (.aload_n 0, 1) := by decide +kernel
theorem dL_isStep_464 : decode cL_isStep 464 = .ok (.iload 5, 2) := by decide +kernel
theorem dL_isStep_466 : decode cL_isStep 466 = .ok (.invokestatic 127, 3) := by decide +kernel
theorem dL_isStep_469 : decode cL_isStep 469 = .ok (.istore 11, 2) := by decide +kernel
theorem dL_isStep_471 : decode cL_isStep 471 = .ok (.aload_n 1, 1) := by decide +kernel
theorem dL_isStep_472 : decode cL_isStep 472 = .ok (.bipush 112, 2) := by decide +kernel
theorem dL_isStep_474 : decode cL_isStep 474 = .ok (.iload 5, 2) := by decide +kernel
theorem dL_isStep_476 : decode cL_isStep 476 = .ok (.invokestatic 129, 3) := by decide +kernel
theorem dL_isStep_479 : decode cL_isStep 479 = .ok (.invokestatic 119, 3) := by decide +kernel
theorem dL_isStep_482 : decode cL_isStep 482 = .ok (.iload 11, 2) := by decide +kernel
theorem dL_isStep_484 : decode cL_isStep 484 = .ok (.ldc 20, 2) := by decide +kernel
theorem dL_isStep_486 : decode cL_isStep 486 = .ok (.if_icmp .ne 8, 3) := by decide +kernel
theorem dL_isStep_489 : decode cL_isStep 489 = .ok (.ldc 17, 2) := by decide +kernel
theorem dL_isStep_491 : decode cL_isStep 491 = .ok (.goto 4, 3) := by decide +kernel
theorem dL_isStep_494 : decode cL_isStep 494 = .ok (.iconst 1, 1) := by decide +kernel
theorem dL_isStep_495 : decode cL_isStep 495 = .ok (.if_icmp .ne 93, 3) := by decide +kernel
theorem dL_isStep_498 : decode cL_isStep 498 = .ok (.iload 11, 2) := by decide +kernel
theorem dL_isStep_500 : decode cL_isStep 500 = .ok (.ldc 20, 2) := by decide +kernel
theorem dL_isStep_502 : decode cL_isStep 502 = .ok (.if_icmp .ne 15, 3) := by decide +kernel
theorem dL_isStep_505 : decode cL_isStep 505 = .ok (.aload_n 0, 1) := by decide +kernel
theorem dL_isStep_506 : decode cL_isStep 506 = .ok (.iload 5, 2) := by decide +kernel
theorem dL_isStep_508 : decode cL_isStep 508 = .ok (.invokestatic 125, 3) := by decide +kernel
theorem dL_isStep_511 : decode cL_isStep 511 = .ok (.ifCond .lt 77, 3) := by decide +kernel
theorem dL_isStep_514 : decode cL_isStep 514 = .ok (.goto 70, 3) := by decide +kernel
theorem dL_isStep_517 : decode cL_isStep 517 = .ok (.aload_n 0, 1) := by decide +kernel
theorem dL_isStep_518 : decode cL_isStep 518 = .ok (.invokevirtual 86, 3) := by decide +kernel
theorem dL_isStep_521 : decode cL_isStep 521 = .ok (.iload 6, 2) := by decide +kernel
theorem dL_isStep_523 : decode cL_isStep 523 = .ok (.iconst 1, 1) := by decide +kernel
theorem dL_isStep_524 : decode cL_isStep 524 = .ok (.iadd, 1) := by decide +kernel
theorem dL_isStep_525 : decode cL_isStep 525 = .ok (.if_icmp .ne 63, 3) := by decide +kernel
theorem dL_isStep_528 : decode cL_isStep 528 = .ok (.aload_n 0, 1) := by decide +kernel
theorem dL_isStep_529 : decode cL_isStep 529 = .ok (.iload 7, 2) := by decide +kernel
theorem dL_isStep_531 : decode cL_isStep 531 = .ok (.invokestatic 115, 3) := by decide +kernel
theorem dL_isStep_534 : decode cL_isStep 534 = .ok (.iload 5, 2) := by decide +kernel
theorem dL_isStep_536 : decode cL_isStep 536 = .ok (.if_icmp .ne 52, 3) := by decide +kernel
theorem dL_isStep_539 : decode cL_isStep 539 = .ok (.iload 11, 2) := by decide +kernel
theorem dL_isStep_541 : decode cL_isStep 541 = .ok (.iconst 1, 1) := by decide +kernel
theorem dL_isStep_542 : decode cL_isStep 542 = .ok (.if_icmp .ne 7, 3) := by decide +kernel
theorem dL_isStep_545 : decode cL_isStep 545 = .ok (.iconst 1, 1) := by decide +kernel
theorem dL_isStep_546 : decode cL_isStep 546 = .ok (.goto 4, 3) := by decide +kernel
theorem dL_isStep_549 : decode cL_isStep 549 = .ok (.iconst 0, 1) := by decide +kernel
theorem dL_isStep_550 : decode cL_isStep 550 = .ok (.aload_n 0, 1) := by decide +kernel
theorem dL_isStep_551 : decode cL_isStep 551 = .ok (.invokevirtual 132, 3) := by decide +kernel
theorem dL_isStep_554 : decode cL_isStep 554 = .ok (.iload 8, 2) := by decide +kernel
theorem dL_isStep_556 : decode cL_isStep 556 = .ok (.if_icmp .ne 7, 3) := by decide +kernel
theorem dL_isStep_559 : decode cL_isStep 559 = .ok (.iconst 1, 1) := by decide +kernel
theorem dL_isStep_560 : decode cL_isStep 560 = .ok (.goto 4, 3) := by decide +kernel
theorem dL_isStep_563 : decode cL_isStep 563 = .ok (.iconst 0, 1) := by decide +kernel
theorem dL_isStep_564 : decode cL_isStep 564 = .ok (.if_icmp .ne 24, 3) := by decide +kernel
theorem dL_isStep_567 : decode cL_isStep 567 = .ok (.iload 11, 2) := by decide +kernel
theorem dL_isStep_569 : decode cL_isStep 569 = .ok (.ifCond .eq 15, 3) := by decide +kernel
theorem dL_isStep_572 : decode cL_isStep 572 = .ok (.iload 10, 2) := by decide +kernel
theorem dL_isStep_574 : decode cL_isStep 574 = .ok (.ifCond .lt 14, 3) := by decide +kernel
theorem dL_isStep_577 : decode cL_isStep 577 = .ok (.iload 10, 2) := by decide +kernel
theorem dL_isStep_579 : decode cL_isStep 579 = .ok (.iload 5, 2) := by decide +kernel
theorem dL_isStep_581 : decode cL_isStep 581 = .ok (.if_icmp .gt 7, 3) := by decide +kernel
theorem dL_isStep_584 : decode cL_isStep 584 = .ok (.iconst 1, 1) := by decide +kernel
theorem dL_isStep_585 : decode cL_isStep 585 = .ok (.goto 4, 3) := by decide +kernel
theorem dL_isStep_588 : decode cL_isStep 588 = .ok (.iconst 0, 1) := by decide +kernel
theorem dL_isStep_589 : decode cL_isStep 589 = .ok (.ireturn, 1) := by decide +kernel
