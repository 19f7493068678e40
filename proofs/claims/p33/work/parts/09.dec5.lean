set_option maxRecDepth 20000 in
theorem ggL_areAlike_X5_rule : GoodIn wsL_areAlike wsX5_rule := goodIn_r _ [5, 6, 7, 8, 9, 10, 11, 12, 13, 14, 15, 16, 17, 18, 301, 302, 303, 304, 305, 306, 307, 308, 309, 310, 311, 312, 313, 314] (by decide +kernel) (by decide +kernel)
set_option maxRecDepth 20000 in
theorem gL_areAlike_X5_rule : GoodIn wsL_areAlike (wsV RL 101 RX5 yX5_rule wsX5_rule) := goodIn_app (goodIn_of _ (by decide +kernel)) ggL_areAlike_X5_rule
set_option maxRecDepth 20000 in
theorem ggL_areAlike_X5_placed : GoodIn wsL_areAlike wsX5_placed := goodIn_r _ [22, 6, 7, 8, 9, 10, 11, 12, 23, 24, 25, 16, 26, 27, 28, 29, 30, 31, 32, 33, 34, 301, 302, 303, 304, 305, 306, 307, 308, 309, 310, 311, 312, 313, 314] (by decide +kernel) (by decide +kernel)
set_option maxRecDepth 20000 in
theorem gL_areAlike_X5_placed : GoodIn wsL_areAlike (wsV RL 86 RX5 yX5_placed wsX5_placed) := goodIn_app (goodIn_of _ (by decide +kernel)) ggL_areAlike_X5_placed
set_option maxRecDepth 20000 in
theorem ggL_areAlike_X5_gift : GoodIn wsL_areAlike wsX5_gift := goodIn_r _ [38, 6, 39, 40, 41, 10, 42, 43, 301, 302, 303, 304, 305, 306, 307, 308, 309, 310] (by decide +kernel) (by decide +kernel)
set_option maxRecDepth 20000 in
theorem gL_areAlike_X5_gift : GoodIn wsL_areAlike (wsV RL 89 RX5 yX5_gift wsX5_gift) := goodIn_app (goodIn_of _ (by decide +kernel)) ggL_areAlike_X5_gift
set_option maxRecDepth 20000 in
theorem ggL_areAlike_X5_playerToMove : GoodIn wsL_areAlike wsX5_playerToMove := goodIn_r _ [47, 6, 48, 49, 50, 10, 51, 12, 43, 52, 53, 54, 55, 56, 57, 58, 59, 16, 60, 61, 24, 25, 26, 27, 28, 29, 30, 31, 32, 33, 34, 62, 301, 302, 303, 304, 305, 306, 307, 308, 309, 310, 311, 312, 313, 314] (by decide +kernel) (by decide +kernel)
set_option maxRecDepth 20000 in
theorem gL_areAlike_X5_playerToMove : GoodIn wsL_areAlike (wsV RL 92 RX5 yX5_playerToMove wsX5_playerToMove) := goodIn_app (goodIn_of _ (by decide +kernel)) ggL_areAlike_X5_playerToMove
set_option maxRecDepth 20000 in
theorem ggL_areAlike_X5_winner : GoodIn wsL_areAlike wsX5_winner := goodIn_r _ [66, 6, 67, 68, 69, 10, 70, 56, 301, 302, 303, 304, 305, 306, 307, 308, 309, 310] (by decide +kernel) (by decide +kernel)
set_option maxRecDepth 20000 in
theorem gL_areAlike_X5_winner : GoodIn wsL_areAlike (wsV RL 132 RX5 yX5_winner wsX5_winner) := goodIn_app (goodIn_of _ (by decide +kernel)) ggL_areAlike_X5_winner
set_option maxRecDepth 20000 in
theorem ggL_areAlike_X5_isOver : GoodIn wsL_areAlike wsX5_isOver := goodIn_r _ [74, 6, 75, 53, 54, 10, 55, 56, 12, 57, 58, 59, 16, 60, 61, 24, 25, 26, 27, 28, 29, 30, 31, 32, 33, 34, 301, 302, 303, 304, 305, 306, 307, 308, 309, 310, 311, 312, 313, 314] (by decide +kernel) (by decide +kernel)
set_option maxRecDepth 20000 in
theorem gL_areAlike_X5_isOver : GoodIn wsL_areAlike (wsV RL 95 RX5 yX5_isOver wsX5_isOver) := goodIn_app (goodIn_of _ (by decide +kernel)) ggL_areAlike_X5_isOver
set_option maxRecDepth 20000 in
theorem ggL_areAlike_X5_lines : GoodIn wsL_areAlike wsX5_lines := goodIn_r _ [79, 6, 7, 8, 9, 10, 11, 12, 80, 81, 82, 16, 83, 18, 301, 302, 303, 304, 305, 306, 307, 308, 309, 310, 311, 312, 313, 314] (by decide +kernel) (by decide +kernel)
set_option maxRecDepth 20000 in
theorem gL_areAlike_X5_lines : GoodIn wsL_areAlike (wsV RL 135 RX5 yX5_lines wsX5_lines) := goodIn_app (goodIn_of _ (by decide +kernel)) ggL_areAlike_X5_lines
set_option maxRecDepth 20000 in
theorem ggL_areAlike_X5_wonLines : GoodIn wsL_areAlike wsX5_wonLines := goodIn_r _ [87, 6, 7, 8, 9, 10, 11, 12, 88, 89, 90, 16, 91, 92, 81, 82, 83, 18, 93, 94, 95, 96, 97, 27, 98, 301, 302, 303, 304, 305, 306, 307, 308, 309, 310, 311, 312, 313, 314] (by decide +kernel) (by decide +kernel)
set_option maxRecDepth 20000 in
theorem gL_areAlike_X5_wonLines : GoodIn wsL_areAlike (wsV RL 138 RX5 yX5_wonLines wsX5_wonLines) := goodIn_app (goodIn_of _ (by decide +kernel)) ggL_areAlike_X5_wonLines
set_option maxRecDepth 20000 in
theorem ggL_areAlike_L_wins : GoodIn wsL_areAlike wsL_wins := goodIn_ca (goodIn_r _ [102, 103, 104, 105, 106, 107, 4, 108, 109, 110, 6, 111, 112, 113, 10, 114, 115, 301, 302, 303, 304, 305, 306, 307, 308, 309, 310] (by decide +kernel) (by decide +kernel)) (goodIn_sub (fun _ h => List.mem_cons_of_mem _ (List.mem_append_left _ (List.mem_append_right _ h))) (by decide +kernel))
set_option maxRecDepth 20000 in
theorem gL_areAlike_L_wins : GoodIn wsL_areAlike (va_wsS RL 141 yL_wins wsL_wins) := goodIn_app (goodIn_of _ (by decide +kernel)) ggL_areAlike_L_wins
set_option maxRecDepth 20000 in
theorem ggL_areAlike_X5_recordedStates : GoodIn wsL_areAlike wsX5_recordedStates := goodIn_r _ [119, 120, 121, 122, 123, 124, 125, 126, 301, 302, 303, 304, 305, 306, 315, 316, 317] (by decide +kernel) (by decide +kernel)
set_option maxRecDepth 20000 in
theorem gL_areAlike_X5_recordedStates : GoodIn wsL_areAlike (wsV RL 144 RX5 yX5_recordedStates wsX5_recordedStates) := goodIn_app (goodIn_of _ (by decide +kernel)) ggL_areAlike_X5_recordedStates
set_option maxRecDepth 20000 in
theorem ggL_areAlike_X5_safeByTrying : GoodIn wsL_areAlike wsX5_safeByTrying := goodIn_r _ [130, 6, 131, 75, 53, 54, 10, 55, 56, 12, 57, 58, 59, 16, 60, 61, 24, 25, 26, 27, 28, 29, 30, 31, 32, 33, 34, 132, 133, 134, 135, 43, 115, 136, 137, 138, 139, 18, 140, 98, 141, 142, 143, 144, 145, 146, 147, 148, 7, 8, 9, 11, 149, 150, 151, 152, 153, 154, 155, 156, 157, 158, 159, 160, 161, 162, 163, 164, 165, 166, 167, 168, 92, 81, 82, 83, 93, 94, 95, 96, 97, 169, 170, 171, 172, 301, 302, 303, 304, 305, 306, 307, 308, 309, 310, 311, 312, 313, 314] (by decide +kernel) (by decide +kernel)
set_option maxRecDepth 20000 in
theorem gL_areAlike_X5_safeByTrying : GoodIn wsL_areAlike (wsV RL 147 RX5 yX5_safeByTrying wsX5_safeByTrying) := goodIn_app (goodIn_of _ (by decide +kernel)) ggL_areAlike_X5_safeByTrying
set_option maxRecDepth 20000 in
theorem ggL_areAlike_L_other : GoodIn wsL_areAlike wsL_other := goodIn_r _ [175] (by decide +kernel) (by decide +kernel)
set_option maxRecDepth 20000 in
theorem gL_areAlike_L_other : GoodIn wsL_areAlike (va_wsS RL 150 yL_other wsL_other) := goodIn_app (goodIn_of _ (by decide +kernel)) ggL_areAlike_L_other
set_option maxRecDepth 20000 in
theorem ggL_areAlike_X5_safeByLines : GoodIn wsL_areAlike wsX5_safeByLines := goodIn_r _ [179, 6, 75, 53, 54, 10, 55, 56, 12, 57, 58, 59, 16, 60, 61, 24, 25, 26, 27, 28, 29, 30, 31, 32, 33, 34, 7, 8, 9, 11, 180, 181, 182, 183, 92, 81, 82, 83, 18, 184, 185, 186, 187, 188, 189, 190, 97, 191, 192, 193, 194, 98, 141, 142, 143, 144, 43, 145, 146, 147, 148, 140, 195, 196, 4, 197, 301, 302, 303, 304, 305, 306, 307, 308, 309, 310, 311, 312, 313, 314] (by decide +kernel) (by decide +kernel)
set_option maxRecDepth 20000 in
theorem gL_areAlike_X5_safeByLines : GoodIn wsL_areAlike (wsV RL 112 RX5 yX5_safeByLines wsX5_safeByLines) := goodIn_app (goodIn_of _ (by decide +kernel)) ggL_areAlike_X5_safeByLines
set_option maxRecDepth 20000 in
theorem ggL_areAlike_L_outcome : GoodIn wsL_areAlike wsL_outcome := goodIn_ca (goodIn_r _ [200, 201, 104, 202, 203, 204, 4, 205, 131, 6, 206, 207, 208, 209, 210, 211, 75, 53, 54, 10, 55, 56, 12, 57, 58, 59, 16, 60, 61, 24, 25, 26, 27, 28, 29, 30, 31, 32, 33, 34, 7, 8, 9, 11, 212, 132, 133, 134, 135, 43, 115, 136, 137, 138, 139, 18, 140, 98, 213, 214, 215, 216, 217, 218, 219, 40, 41, 42, 220, 221, 222, 223, 224, 225, 226, 227, 146, 147, 148, 228, 229, 230, 231, 162, 163, 164, 232, 166, 167, 168, 92, 81, 82, 83, 93, 94, 95, 96, 97, 233, 170, 171, 172, 234, 235, 154, 155, 156, 236, 237, 301, 302, 303, 304, 305, 306, 307, 308, 309, 310, 311, 312, 313, 314] (by decide +kernel) (by decide +kernel)) (goodIn_sub (fun _ h => List.mem_cons_of_mem _ (List.mem_append_right _ h)) (by decide +kernel))
set_option maxRecDepth 20000 in
theorem gL_areAlike_L_outcome : GoodIn wsL_areAlike (va_wsS RL 153 yL_outcome wsL_outcome) := goodIn_app (goodIn_of _ (by decide +kernel)) ggL_areAlike_L_outcome
set_option maxRecDepth 20000 in
theorem ggL_areAlike_L_pieceOn : GoodIn wsL_areAlike wsL_pieceOn := goodIn_ca (goodIn_r _ [240, 103, 104, 241, 242, 243, 4, 244, 6, 245, 246, 247, 109, 110, 7, 8, 9, 10, 11, 12, 248, 249, 250, 16, 251, 98, 153, 154, 155, 156, 27, 301, 302, 303, 304, 305, 306, 307, 308, 309, 310, 311, 312, 313, 314] (by decide +kernel) (by decide +kernel)) (goodIn_sub (fun _ h => List.mem_cons_of_mem _ (List.mem_append_left _ (List.mem_append_right _ h))) (by decide +kernel))
set_option maxRecDepth 20000 in
theorem gL_areAlike_L_pieceOn : GoodIn wsL_areAlike (va_wsS RL 125 yL_pieceOn wsL_pieceOn) := goodIn_app (goodIn_of _ (by decide +kernel)) ggL_areAlike_L_pieceOn
set_option maxRecDepth 20000 in
theorem ggL_areAlike_L_cellOf : GoodIn wsL_areAlike wsL_cellOf := goodIn_ca (goodIn_r _ [254, 103, 104, 255, 256, 257, 4, 258, 6, 259, 260, 261, 109, 110, 7, 8, 9, 10, 11, 12, 262, 263, 264, 16, 265, 266, 249, 250, 251, 98, 153, 154, 155, 156, 27, 301, 302, 303, 304, 305, 306, 307, 308, 309, 310, 311, 312, 313, 314] (by decide +kernel) (by decide +kernel)) (goodIn_sub (fun _ h => List.mem_cons_of_mem _ (List.mem_append_left _ (List.mem_append_right _ h))) (by decide +kernel))
set_option maxRecDepth 20000 in
theorem gL_areAlike_L_cellOf : GoodIn wsL_areAlike (va_wsS RL 115 yL_cellOf wsL_cellOf) := goodIn_app (goodIn_of _ (by decide +kernel)) ggL_areAlike_L_cellOf
set_option maxRecDepth 20000 in
theorem ggL_areAlike_L_turned : GoodIn wsL_areAlike wsL_turned := goodIn_r _ [269] (by decide +kernel) (by decide +kernel)
set_option maxRecDepth 20000 in
theorem gL_areAlike_L_turned : GoodIn wsL_areAlike (va_wsS RL 129 yL_turned wsL_turned) := goodIn_app (goodIn_of _ (by decide +kernel)) ggL_areAlike_L_turned
set_option maxRecDepth 20000 in
theorem ggL_areAlike_L_winningCell : GoodIn wsL_areAlike wsL_winningCell := goodIn_ca (goodIn_r _ [272, 103, 104, 273, 274, 275, 4, 276, 6, 131, 259, 260, 261, 109, 110, 75, 53, 54, 10, 55, 56, 12, 57, 58, 59, 16, 60, 61, 24, 25, 26, 27, 28, 29, 30, 31, 32, 33, 34, 7, 8, 9, 11, 277, 146, 147, 148, 140, 132, 133, 134, 135, 43, 115, 136, 137, 138, 139, 18, 98, 149, 150, 151, 152, 153, 154, 155, 156, 157, 158, 159, 160, 161, 162, 163, 164, 165, 166, 167, 168, 92, 81, 82, 83, 93, 94, 95, 96, 97, 169, 170, 171, 172, 301, 302, 303, 304, 305, 306, 307, 308, 309, 310, 311, 312, 313, 314] (by decide +kernel) (by decide +kernel)) (goodIn_sub (fun _ h => List.mem_cons_of_mem _ (List.mem_append_left _ (List.mem_append_right _ h))) (by decide +kernel))
set_option maxRecDepth 20000 in
theorem gL_areAlike_L_winningCell : GoodIn wsL_areAlike (va_wsS RL 123 yL_winningCell wsL_winningCell) := goodIn_app (goodIn_of _ (by decide +kernel)) ggL_areAlike_L_winningCell
set_option maxRecDepth 20000 in
theorem ggL_areAlike_L_shared : GoodIn wsL_areAlike wsL_shared := goodIn_ca (goodIn_r _ [280, 103, 104, 281, 282, 283, 4, 284, 6, 285, 286, 287, 288, 109, 110, 7, 8, 9, 10, 11, 12, 80, 81, 82, 16, 83, 18, 289, 192, 193, 194, 27, 98, 188, 189, 190, 97, 301, 302, 303, 304, 305, 306, 307, 308, 309, 310, 311, 312, 313, 314] (by decide +kernel) (by decide +kernel)) (goodIn_sub (fun _ h => List.mem_cons_of_mem _ (List.mem_append_left _ (List.mem_append_right _ h))) (by decide +kernel))
set_option maxRecDepth 20000 in
theorem gL_areAlike_L_shared : GoodIn wsL_areAlike (va_wsS RL 155 yL_shared wsL_shared) := goodIn_app (goodIn_of _ (by decide +kernel)) ggL_areAlike_L_shared
set_option maxRecDepth 20000 in
theorem ggL_areAlike_L_piecesOn : GoodIn wsL_areAlike wsL_piecesOn := goodIn_ca (goodIn_r _ [292, 103, 104, 293, 294, 295, 4, 296, 6, 285, 286, 287, 288, 109, 110, 7, 8, 9, 10, 11, 12, 80, 81, 82, 16, 83, 18, 297, 185, 186, 187, 27, 188, 189, 190, 97, 28, 29, 30, 31, 32, 33, 34, 301, 302, 303, 304, 305, 306, 307, 308, 309, 310, 311, 312, 313, 314] (by decide +kernel) (by decide +kernel)) (goodIn_sub (fun _ h => List.mem_cons_of_mem _ (List.mem_append_left _ (List.mem_append_right _ h))) (by decide +kernel))
set_option maxRecDepth 20000 in
theorem gL_areAlike_L_piecesOn : GoodIn wsL_areAlike (va_wsS RL 158 yL_piecesOn wsL_piecesOn) := goodIn_app (goodIn_of _ (by decide +kernel)) ggL_areAlike_L_piecesOn
set_option maxRecDepth 20000 in
theorem ggL_areAlike_L_line : GoodIn wsL_areAlike wsL_line := goodIn_r _ [300] (by decide +kernel) (by decide +kernel)
set_option maxRecDepth 20000 in
theorem gL_areAlike_L_line : GoodIn wsL_areAlike (va_wsS RL 160 yL_line wsL_line) := goodIn_app (goodIn_of _ (by decide +kernel)) ggL_areAlike_L_line
theorem dL_areAlike_0 : decode cL_areAlike 0 = .ok (.aload_n 0, 1) := by decide +kernel
theorem dL_areAlike_1 : decode cL_areAlike 1 = .ok (.invokevirtual 101, 3) := by decide +kernel
theorem dL_areAlike_4 : decode cL_areAlike 4 = .ok (.aload_n 1, 1) := by decide +kernel
theorem dL_areAlike_5 : decode cL_areAlike 5 = .ok (.invokevirtual 101, 3) := by decide +kernel
theorem dL_areAlike_8 : decode cL_areAlike 8 = .ok (.if_icmp .ne 160, 3) := by decide +kernel
theorem dL_areAlike_11 : decode cL_areAlike 11 = .ok (.aload_n 0, 1) := by decide +kernel
theorem dL_areAlike_12 : decode cL_areAlike 12 = .ok (.invokevirtual 86, 3) := by decide +kernel
theorem dL_areAlike_15 : decode cL_areAlike 15 = .ok (.aload_n 1, 1) := by decide +kernel
theorem dL_areAlike_16 : decode cL_areAlike 16 = .ok (.invokevirtual 86, 3) := by decide +kernel
theorem dL_areAlike_19 : decode cL_areAlike 19 = .ok (.if_icmp .ne 149, 3) := by decide +kernel
theorem dL_areAlike_22 : decode cL_areAlike 22 = .ok (.aload_n 0, 1) := by decide +kernel
theorem dL_areAlike_23 : decode cL_areAlike 23 = .ok (.invokevirtual 89, 3) := by decide +kernel
theorem dL_areAlike_26 : decode cL_areAlike 26 = .ok (.aload_n 1, 1) := by decide +kernel
theorem dL_areAlike_27 : decode cL_areAlike 27 = .ok (.invokevirtual 89, 3) := by decide +kernel
theorem dL_areAlike_30 : decode cL_areAlike 30 = .ok (.ifCond .ge 7, 3) := by decide +kernel
theorem dL_areAlike_33 : decode cL_areAlike 33 = .ok (.iconst (-1), 1) := by decide +kernel
theorem dL_areAlike_34 : decode cL_areAlike 34 = .ok (.goto 10, 3) := by decide +kernel
theorem dL_areAlike_37 : decode cL_areAlike 37 = .ok (.bipush 15, 2) := by decide +kernel
theorem dL_areAlike_39 : decode cL_areAlike 39 = .ok (.aload_n 1, 1) := by decide +kernel
theorem dL_areAlike_40 : decode cL_areAlike 40 = .ok (.invokevirtual 89, 3) := by decide +kernel
theorem dL_areAlike_43 : decode cL_areAlike 43 = .ok (.isub, 1) := by decide +kernel
theorem dL_areAlike_44 : decode cL_areAlike 44 = .ok (.if_icmp .ne 124, 3) := by decide +kernel
theorem dL_areAlike_47 : decode cL_areAlike 47 = .ok (.aload_n 0, 1) := by decide +kernel
theorem dL_areAlike_48 : decode cL_areAlike 48 = .ok (.invokevirtual 92, 3) := by decide +kernel
theorem dL_areAlike_51 : decode cL_areAlike 51 = .ok (.aload_n 1, 1) := by decide +kernel
theorem dL_areAlike_52 : decode cL_areAlike 52 = .ok (.invokevirtual 92, 3) := by decide +kernel
theorem dL_areAlike_55 : decode cL_areAlike 55 = .ok (.if_icmp .ne 113, 3) := by decide +kernel
theorem dL_areAlike_58 : decode cL_areAlike 58 = .ok (.aload_n 0, 1) := by decide +kernel
theorem dL_areAlike_59 : decode cL_areAlike 59 = .ok (.invokevirtual 132, 3) := by decide +kernel
theorem dL_areAlike_62 : decode cL_areAlike 62 = .ok (.aload_n 1, 1) := by decide +kernel
theorem dL_areAlike_63 : decode cL_areAlike 63 = .ok (.invokevirtual 132, 3) := by decide +kernel
theorem dL_areAlike_66 : decode cL_areAlike 66 = .ok (.if_icmp .ne 102, 3) := by decide +kernel
theorem dL_areAlike_69 : decode cL_areAlike 69 = .ok (.aload_n 0, 1) := by decide +kernel
theorem dL_areAlike_70 : decode cL_areAlike 70 = .ok (.invokevirtual 95, 3) := by decide +kernel
theorem dL_areAlike_73 : decode cL_areAlike 73 = .ok (.aload_n 1, 1) := by decide +kernel
theorem dL_areAlike_74 : decode cL_areAlike 74 = .ok (.invokevirtual 95, 3) := by decide +kernel
theorem dL_areAlike_77 : decode cL_areAlike 77 = .ok (.if_icmp .ne 91, 3) := by decide +kernel
theorem dL_areAlike_80 : decode cL_areAlike 80 = .ok (.aload_n 0, 1) := by decide +kernel
theorem dL_areAlike_81 : decode cL_areAlike 81 = .ok (.invokevirtual 135, 3) := by decide +kernel
theorem dL_areAlike_84 : decode cL_areAlike 84 = .ok (.aload_n 1, 1) := by decide +kernel
theorem dL_areAlike_85 : decode cL_areAlike 85 = .ok (.invokevirtual 135, 3) := by decide +kernel
theorem dL_areAlike_88 : decode cL_areAlike 88 = .ok (.if_icmp .ne 80, 3) := by decide +kernel
theorem dL_areAlike_91 : decode cL_areAlike 91 = .ok (.aload_n 0, 1) := by decide +kernel
theorem dL_areAlike_92 : decode cL_areAlike 92 = .ok (.invokevirtual 138, 3) := by decide +kernel
theorem dL_areAlike_95 : decode cL_areAlike 95 = .ok (.aload_n 1, 1) := by decide +kernel
theorem dL_areAlike_96 : decode cL_areAlike 96 = .ok (.invokevirtual 138, 3) := by decide +kernel
theorem dL_areAlike_99 : decode cL_areAlike 99 = .ok (.if_icmp .ne 69, 3) := by decide +kernel
theorem dL_areAlike_102 : decode cL_areAlike 102 = .ok (.aload_n 0, 1) := by decide +kernel
theorem dL_areAlike_103 : decode cL_areAlike 103 = .ok (.iconst 0, 1) := by decide +kernel
theorem dL_areAlike_104 : decode cL_areAlike 104 = .ok (.invokestatic 141, 3) := by decide +kernel
theorem dL_areAlike_107 : decode cL_areAlike 107 = .ok (.aload_n 1, 1) := by decide +kernel
theorem dL_areAlike_108 : decode cL_areAlike 108 = .ok (.iconst 0, 1) := by decide +kernel
theorem dL_areAlike_109 : decode cL_areAlike 109 = .ok (.invokestatic 141, 3) := by decide +kernel
theorem dL_areAlike_112 : decode cL_areAlike 112 = .ok (.if_icmp .ne 56, 3) := by decide +kernel
theorem dL_areAlike_115 : decode cL_areAlike 115 = .ok (.aload_n 0, 1) := by decide +kernel
theorem dL_areAlike_116 : decode cL_areAlike 116 = .ok (.iconst 1, 1) := by decide +kernel
theorem dL_areAlike_117 : decode cL_areAlike 117 = .ok (.invokestatic 141, 3) := by decide +kernel
theorem dL_areAlike_120 : decode cL_areAlike 120 = .ok (.aload_n 1, 1) := by decide +kernel
theorem dL_areAlike_121 : decode cL_areAlike 121 = .ok (.iconst 1, 1) := by decide +kernel
theorem dL_areAlike_122 : decode cL_areAlike 122 = .ok (.invokestatic 141, 3) := by decide +kernel
theorem dL_areAlike_125 : decode cL_areAlike 125 = .ok (.if_icmp .ne 43, 3) := by decide +kernel
theorem dL_areAlike_128 : decode cL_areAlike 128 = .ok (.aload_n 0, 1) := by decide +kernel
theorem dL_areAlike_129 : decode cL_areAlike 129 = .ok (.invokevirtual 144, 3) := by decide +kernel
theorem dL_areAlike_132 : decode cL_areAlike 132 = .ok (.aload_n 1, 1) := by decide +kernel
theorem dL_areAlike_133 : decode cL_areAlike 133 = .ok (.invokevirtual 144, 3) := by decide +kernel
theorem dL_areAlike_136 : decode cL_areAlike 136 = .ok (.if_icmp .ne 32, 3) := by decide +kernel
theorem dL_areAlike_139 : decode cL_areAlike 139 = .ok (.aload_n 0, 1) := by decide +kernel
theorem dL_areAlike_140 : decode cL_areAlike 140 = .ok (.invokevirtual 147, 3) := by decide +kernel
theorem dL_areAlike_143 : decode cL_areAlike 143 = .ok (.invokestatic 150, 3) := by decide +kernel
theorem dL_areAlike_146 : decode cL_areAlike 146 = .ok (.aload_n 1, 1) := by decide +kernel
theorem dL_areAlike_147 : decode cL_areAlike 147 = .ok (.invokevirtual 112, 3) := by decide +kernel
theorem dL_areAlike_150 : decode cL_areAlike 150 = .ok (.if_icmp .ne 18, 3) := by decide +kernel
theorem dL_areAlike_153 : decode cL_areAlike 153 = .ok (.aload_n 0, 1) := by decide +kernel
theorem dL_areAlike_154 : decode cL_areAlike 154 = .ok (.invokestatic 153, 3) := by decide +kernel
theorem dL_areAlike_157 : decode cL_areAlike 157 = .ok (.aload_n 1, 1) := by decide +kernel
theorem dL_areAlike_158 : decode cL_areAlike 158 = .ok (.invokestatic 153, 3) := by decide +kernel
theorem dL_areAlike_161 : decode cL_areAlike 161 = .ok (.if_icmp .ne 7, 3) := by decide +kernel
theorem dL_areAlike_164 : decode cL_areAlike 164 = .ok (.iconst 1, 1) := by decide +kernel
theorem dL_areAlike_165 : decode cL_areAlike 165 = .ok (.goto 4, 3) := by decide +kernel
theorem dL_areAlike_168 : decode cL_areAlike 168 = .ok (.iconst 0, 1) := by decide +kernel
theorem dL_areAlike_169 : decode cL_areAlike 169 = .ok (.istore_n 2, 1) := by decide +kernel
theorem dL_areAlike_170 : decode cL_areAlike 170 = .ok (.iconst 0, 1) := by decide +kernel
theorem dL_areAlike_171 : decode cL_areAlike 171 = .ok (.istore_n 3, 1) := by decide +kernel
theorem dL_areAlike_172 : decode cL_areAlike 172 = .ok (.iload_n 3, 1) := by decide +kernel
theorem dL_areAlike_173 : decode cL_areAlike 173 = .ok (.bipush 16, 2) := by decide +kernel
theorem dL_areAlike_175 : decode cL_areAlike 175 = .ok (.if_icmp .ge 115, 3) := by decide +kernel
theorem dL_areAlike_178 : decode cL_areAlike 178 = .ok (.aload_n 0, 1) := by decide +kernel
theorem dL_areAlike_179 : decode cL_areAlike 179 = .ok (.iload_n 3, 1) := by decide +kernel
theorem dL_areAlike_180 : decode cL_areAlike 180 = .ok (.invokestatic 125, 3) := by decide +kernel
theorem dL_areAlike_183 : decode cL_areAlike 183 = .ok (.istore 4, 2) := by decide +kernel
theorem dL_areAlike_185 : decode cL_areAlike 185 = .ok (.aload_n 0, 1) := by decide +kernel
theorem dL_areAlike_186 : decode cL_areAlike 186 = .ok (.iload_n 3, 1) := by decide +kernel
theorem dL_areAlike_187 : decode cL_areAlike 187 = .ok (.invokestatic 115, 3) := by decide +kernel
theorem dL_areAlike_190 : decode cL_areAlike 190 = .ok (.istore 5, 2) := by decide +kernel
theorem dL_areAlike_192 : decode cL_areAlike 192 = .ok (.iload_n 2, 1) := by decide +kernel
theorem dL_areAlike_193 : decode cL_areAlike 193 = .ok (.ifCond .eq 89, 3) := by decide +kernel
theorem dL_areAlike_196 : decode cL_areAlike 196 = .ok (.aload_n 1, 1) := by decide +kernel
theorem dL_areAlike_197 : decode cL_areAlike 197 = .ok (.iload_n 3, 1) := by decide +kernel
theorem dL_areAlike_198 : decode cL_areAlike 198 = .ok (.invokestatic 129, 3) := by decide +kernel
theorem dL_areAlike_201 : decode cL_areAlike 201 = .ok (.invokestatic 125, 3) := by decide +kernel
theorem dL_areAlike_204 : decode cL_areAlike 204 = .ok (.iload 4, 2) := by decide +kernel
theorem dL_areAlike_206 : decode cL_areAlike 206 = .ok (.ifCond .ge 7, 3) := by decide +kernel
theorem dL_areAlike_209 : decode cL_areAlike 209 = .ok (.iconst (-1), 1) := by decide +kernel
theorem dL_areAlike_210 : decode cL_areAlike 210 = .ok (.goto 8, 3) := by decide +kernel
theorem dL_areAlike_213 : decode cL_areAlike 213 = .ok (.bipush 15, 2) := by decide +kernel
theorem dL_areAlike_215 : decode cL_areAlike 215 = .ok (.iload 4, 2) := by decide +kernel
theorem dL_areAlike_217 : decode cL_areAlike 217 = .ok (.isub, 1) := by decide +kernel
theorem dL_areAlike_218 : decode cL_areAlike 218 = .ok (.if_icmp .ne 64, 3) := by decide +kernel
theorem dL_areAlike_221 : decode cL_areAlike 221 = .ok (.aload_n 1, 1) := by decide +kernel
theorem dL_areAlike_222 : decode cL_areAlike 222 = .ok (.bipush 15, 2) := by decide +kernel
theorem dL_areAlike_224 : decode cL_areAlike 224 = .ok (.iload_n 3, 1) := by decide +kernel
theorem dL_areAlike_225 : decode cL_areAlike 225 = .ok (.isub, 1) := by decide +kernel
theorem dL_areAlike_226 : decode cL_areAlike 226 = .ok (.invokestatic 115, 3) := by decide +kernel
theorem dL_areAlike_229 : decode cL_areAlike 229 = .ok (.iload 5, 2) := by decide +kernel
theorem dL_areAlike_231 : decode cL_areAlike 231 = .ok (.ifCond .ge 7, 3) := by decide +kernel
theorem dL_areAlike_234 : decode cL_areAlike 234 = .ok (.iconst (-1), 1) := by decide +kernel
theorem dL_areAlike_235 : decode cL_areAlike 235 = .ok (.goto 8, 3) := by decide +kernel
theorem dL_areAlike_238 : decode cL_areAlike 238 = .ok (.iload 5, 2) := by decide +kernel
theorem dL_areAlike_240 : decode cL_areAlike 240 = .ok (.invokestatic 129, 3) := by decide +kernel
theorem dL_areAlike_243 : decode cL_areAlike 243 = .ok (.if_icmp .ne 39, 3) := by decide +kernel
theorem dL_areAlike_246 : decode cL_areAlike 246 = .ok (.aload_n 0, 1) := by decide +kernel
theorem dL_areAlike_247 : decode cL_areAlike 247 = .ok (.iload_n 3, 1) := by decide +kernel
theorem dL_areAlike_248 : decode cL_areAlike 248 = .ok (.invokestatic 123, 3) := by decide +kernel
theorem dL_areAlike_251 : decode cL_areAlike 251 = .ok (.ifCond .ge 7, 3) := by decide +kernel
theorem dL_areAlike_254 : decode cL_areAlike 254 = .ok (.iconst 1, 1) := by decide +kernel
theorem dL_areAlike_255 : decode cL_areAlike 255 = .ok (.goto 4, 3) := by decide +kernel
theorem dL_areAlike_258 : decode cL_areAlike 258 = .ok (.iconst 0, 1) := by decide +kernel
theorem dL_areAlike_259 : decode cL_areAlike 259 = .ok (.aload_n 1, 1) := by decide +kernel
theorem dL_areAlike_260 : decode cL_areAlike 260 = .ok (.bipush 15, 2) := by decide +kernel
theorem dL_areAlike_262 : decode cL_areAlike 262 = .ok (.iload_n 3, 1) := by decide +kernel
theorem dL_areAlike_263 : decode cL_areAlike 263 = .ok (.isub, 1) := by decide +kernel
theorem dL_areAlike_264 : decode cL_areAlike 264 = .ok (.invokestatic 123, 3) := by decide +kernel
theorem dL_areAlike_267 : decode cL_areAlike 267 = .ok (.ifCond .ge 7, 3) := by decide +kernel
theorem dL_areAlike_270 : decode cL_areAlike 270 = .ok (.iconst 1, 1) := by decide +kernel
theorem dL_areAlike_271 : decode cL_areAlike 271 = .ok (.goto 4, 3) := by decide +kernel
theorem dL_areAlike_274 : decode cL_areAlike 274 = .ok (.iconst 0, 1) := by decide +kernel
theorem dL_areAlike_275 : decode cL_areAlike 275 = .ok (.if_icmp .ne 7, 3) := by decide +kernel
theorem dL_areAlike_278 : decode cL_areAlike 278 = .ok (.iconst 1, 1) := by decide +kernel
theorem dL_areAlike_279 : decode cL_areAlike 279 = .ok (.goto 4, 3) := by decide +kernel
theorem dL_areAlike_282 : decode cL_areAlike 282 = .ok (.iconst 0, 1) := by decide +kernel
theorem dL_areAlike_283 : decode cL_areAlike 283 = .ok (.istore_n 2, 1) := by decide +kernel
theorem dL_areAlike_284 : decode cL_areAlike 284 = .ok (.iinc 3 1, 3) := by decide +kernel
theorem dL_areAlike_287 : decode cL_areAlike 287 = .ok (.goto (-115), 3) := by decide +kernel
theorem dL_areAlike_290 : decode cL_areAlike 290 = .ok (.iconst 0, 1) := by decide +kernel
theorem dL_areAlike_291 : decode cL_areAlike 291 = .ok (.istore_n 3, 1) := by decide +kernel
theorem dL_areAlike_292 : decode cL_areAlike 292 = .ok (.iload_n 3, 1) := by decide +kernel
theorem dL_areAlike_293 : decode cL_areAlike 293 = .ok (.aload_n 0, 1) := by decide +kernel
theorem dL_areAlike_294 : decode cL_areAlike 294 = .ok (.invokevirtual 135, 3) := by decide +kernel
theorem dL_areAlike_297 : decode cL_areAlike 297 = .ok (.if_icmp .ge 67, 3) := by decide +kernel
theorem dL_areAlike_300 : decode cL_areAlike 300 = .ok (.aload_n 0, 1) := by decide +kernel
theorem dL_areAlike_301 : decode cL_areAlike 301 = .ok (.iload_n 3, 1) := by decide +kernel
theorem dL_areAlike_302 : decode cL_areAlike 302 = .ok (.invokestatic 155, 3) := by decide +kernel
theorem dL_areAlike_305 : decode cL_areAlike 305 = .ok (.istore 4, 2) := by decide +kernel
theorem dL_areAlike_307 : decode cL_areAlike 307 = .ok (.iload_n 2, 1) := by decide +kernel
theorem dL_areAlike_308 : decode cL_areAlike 308 = .ok (.ifCond .eq 48, 3) := by decide +kernel
theorem dL_areAlike_311 : decode cL_areAlike 311 = .ok (.aload_n 0, 1) := by decide +kernel
theorem dL_areAlike_312 : decode cL_areAlike 312 = .ok (.iload_n 3, 1) := by decide +kernel
theorem dL_areAlike_313 : decode cL_areAlike 313 = .ok (.invokestatic 158, 3) := by decide +kernel
theorem dL_areAlike_316 : decode cL_areAlike 316 = .ok (.aload_n 1, 1) := by decide +kernel
theorem dL_areAlike_317 : decode cL_areAlike 317 = .ok (.iload_n 3, 1) := by decide +kernel
theorem dL_areAlike_318 : decode cL_areAlike 318 = .ok (.invokestatic 160, 3) := by decide +kernel
theorem dL_areAlike_321 : decode cL_areAlike 321 = .ok (.invokestatic 158, 3) := by decide +kernel
theorem dL_areAlike_324 : decode cL_areAlike 324 = .ok (.if_icmp .ne 32, 3) := by decide +kernel
theorem dL_areAlike_327 : decode cL_areAlike 327 = .ok (.aload_n 1, 1) := by decide +kernel
theorem dL_areAlike_328 : decode cL_areAlike 328 = .ok (.iload_n 3, 1) := by decide +kernel
theorem dL_areAlike_329 : decode cL_areAlike 329 = .ok (.invokestatic 160, 3) := by decide +kernel
theorem dL_areAlike_332 : decode cL_areAlike 332 = .ok (.invokestatic 155, 3) := by decide +kernel
theorem dL_areAlike_335 : decode cL_areAlike 335 = .ok (.iload 4, 2) := by decide +kernel
theorem dL_areAlike_337 : decode cL_areAlike 337 = .ok (.bipush 15, 2) := by decide +kernel
theorem dL_areAlike_339 : decode cL_areAlike 339 = .ok (.iand, 1) := by decide +kernel
theorem dL_areAlike_340 : decode cL_areAlike 340 = .ok (.bipush 16, 2) := by decide +kernel
theorem dL_areAlike_342 : decode cL_areAlike 342 = .ok (.imul, 1) := by decide +kernel
theorem dL_areAlike_343 : decode cL_areAlike 343 = .ok (.iload 4, 2) := by decide +kernel
theorem dL_areAlike_345 : decode cL_areAlike 345 = .ok (.bipush 16, 2) := by decide +kernel
theorem dL_areAlike_347 : decode cL_areAlike 347 = .ok (.idiv, 1) := by decide +kernel
theorem dL_areAlike_348 : decode cL_areAlike 348 = .ok (.iadd, 1) := by decide +kernel
theorem dL_areAlike_349 : decode cL_areAlike 349 = .ok (.if_icmp .ne 7, 3) := by decide +kernel
theorem dL_areAlike_352 : decode cL_areAlike 352 = .ok (.iconst 1, 1) := by decide +kernel
theorem dL_areAlike_353 : decode cL_areAlike 353 = .ok (.goto 4, 3) := by decide +kernel
theorem dL_areAlike_356 : decode cL_areAlike 356 = .ok (.iconst 0, 1) := by decide +kernel
theorem dL_areAlike_357 : decode cL_areAlike 357 = .ok (.istore_n 2, 1) := by decide +kernel
theorem dL_areAlike_358 : decode cL_areAlike 358 = .ok (.iinc 3 1, 3) := by decide +kernel
theorem dL_areAlike_361 : decode cL_areAlike 361 = .ok (.goto (-69), 3) := by decide +kernel
theorem dL_areAlike_364 : decode cL_areAlike 364 = .ok (.iload_n 2, 1) := by decide +kernel
theorem dL_areAlike_365 : decode cL_areAlike 365 = .ok (.ireturn, 1) := by decide +kernel
